def psL (f : Int → Int) (F x y : Int) (g : Int → Int) : Nat → Int → Int × Int × Int → Int × Int × Int
  | 0, _, s => s
  | n + 1, i, s => psL f F x y g n (i + 1) (jn s (pX f F y (g i)) (pY f F x (g i)) (un f (g i)))
theorem lsL_neg {f : Int → Int} {F x y : Int} {g : Int → Int} : ∀ (n : Nat) (i X Y W : Int), (∀ j, i ≤ j → j < i + n → g j ≠ -1) → lsL f F x y (-1) (-1) g n i (-X, -Y, W) = (-(psL f F x y g n i (X, Y, W)).1, -(psL f F x y g n i (X, Y, W)).2.1, (psL f F x y g n i (X, Y, W)).2.2) := by
  intro n
  induction n with
  | zero => intro i X Y W _; rfl
  | succ n ih =>
    intro i X Y W hg
    have h0 := hg i (by omega) (by omega)
    rw [lsL, psL, if_neg h0, if_neg h0]
    have e : jn (-X, -Y, W) (jX f F y (g i) (-1)) (jY f F x (g i) (-1)) (un f (g i)) = (-(X * un f (g i) + pX f F y (g i) * W), -(Y * un f (g i) + pY f F x (g i) * W), W * un f (g i)) := by
      unfold jn
      rw [jX_s, jY_s]
      dsimp only
      congr 1
      · grind
      · congr 1
        grind
    rw [e, ih (i + 1) _ _ _ (fun j h1 h2 => hg j (by omega) (by omega))]
    rfl
def rot (dx dy : Int) (s : Int × Int × Int) : Int × Int × Int := (dx * s.2.1 - dy * s.1, dx * s.1 + dy * s.2.1, s.2.2)
theorem rot_jn {dx dy X Y u : Int} {s : Int × Int × Int} : rot dx dy (jn s X Y u) = jn (rot dx dy s) (dx * Y - dy * X) (dx * X + dy * Y) u := by
  unfold rot jn
  dsimp only
  congr 1
  · grind
  · congr 1
    grind
theorem rot_bd {dx dy i : Int} {s : Int × Int × Int} (h : jok i s) (hx : q_bd dx 40) (hy : q_bd dy 40) : q_bd (rot dx dy s).1 (80 * KX i) ∧ q_bd (rot dx dy s).2.1 (80 * KX i) := by
  obtain ⟨_, ⟨h3, h4⟩, _⟩ := h
  refine ⟨bd_sub (bd_mul hx h4 (Int.le_refl _)) (bd_mul hy h3 (Int.le_refl _)) (by omega), bd_add (bd_mul hx h3 (Int.le_refl _)) (bd_mul hy h4 (Int.le_refl _)) (by omega)⟩
theorem KK2 {i : Int} (h : 0 ≤ i ∧ i ≤ 2) : 80 * KX i * 6400 ≤ 4600000000000000000 ∧ 368640000 * KW i ≤ 4600000000000000000 ∧ KW i * 6400 ≤ 4600000000000000000 ∧ (0 ≤ 80 * KX i ∧ 80 * KX i ≤ 4600000000000000000) ∧ 1 ≤ KW i ∧ KW i ≤ 4600000000000000000 := by
  rcases (by omega : i = 0 ∨ i = 1 ∨ i = 2) with rfl | rfl | rfl <;> decide
def psb (f : Int → Int) (F nt x y a b : Int) : Int × Int × Int := psL f F x y (mF a b nt) (mC a b nt).toNat 0 (0, 0, 1)
theorem lsb_neg {f : Int → Int} {F nt x y b : Int} (hn : 0 ≤ nt ∧ nt ≤ 8) (h : tieok nt (-1) b) : lsb f F nt x y (-1) b (-1) = (-(psb f F nt x y (-1) b).1, -(psb f F nt x y (-1) b).2.1, (psb f F nt x y (-1) b).2.2) := by
  have hc := mem_C hn h
  exact lsL_neg (mC (-1) b nt).toNat 0 0 0 1 (fun j h1 h2 => by
    have := (mem_F hn h).1 j h1 (by omega)
    omega)
theorem lsb_neg' {f : Int → Int} {F nt x y a b : Int} (hn : 0 ≤ nt ∧ nt ≤ 8) (ha : a = -1) (h : tieok nt a b) : lsb f F nt x y a b (-1) = (-(psb f F nt x y a b).1, -(psb f F nt x y a b).2.1, (psb f F nt x y a b).2.2) := by
  subst ha
  exact lsb_neg hn h
theorem psL_ok {f : Int → Int} {F x y : Int} {g : Int → Int} (hF : q_bd F 9) (hx : q_bd x 20) (hy : q_bd y 20) : ∀ (n : Nat) (i : Int) (s : Int × Int × Int), (n : Int) + i ≤ 4 → 0 ≤ i → (∀ j, i ≤ j → j < i + n → lG f (6 * g j) ∧ lB f (6 * g j) ≠ 0) → jok i s → jok (i + n) (psL f F x y g n i s) := by
  intro n
  induction n with
  | zero => intro i s _ _ _ h; simpa [psL] using h
  | succ n ih =>
    intro i s hi h0 hg h
    obtain ⟨g1, g2⟩ := hg i (by omega) (by omega)
    have hu := un_bd g1 g2
    have hp := pXY_div g1 g2 hF hx hy
    rw [psL, show i + ((n + 1 : Nat) : Int) = i + 1 + n by omega]
    exact ih (i + 1) _ (by omega) (by omega) (fun j h1 h2 => hg j (by omega) (by omega)) (jn_ok h (by omega) hp.1.1 hp.1.2 (by omega))
set_option maxHeartbeats 1000000 in
set_option maxRecDepth 100000 in
theorem lpX8_cc (σ : q_S) (v w dx dy : Int) (hI : IM σ) (hv : 0 ≤ v ∧ v < σ 1 2) (hb : balb (pM (σ 1) 2) (σ 1 1) (pM (σ 1) 6 v) (pM (σ 1) 7 v) = true) (hc3 : mC (pM (σ 1) 6 v) (pM (σ 1) 7 v) (σ 1 1) ≤ 3) (hdx : q_bd dx 40) (hdy : q_bd dy 40) : ∀ (n : Nat) (i : Int) (s : q_S) (L : Int × Int × Int), (n : Int) + i = mC (pM (σ 1) 6 v) (pM (σ 1) 7 v) (σ 1 1) → 0 ≤ i → s 0 16 = mC (pM (σ 1) 6 v) (pM (σ 1) 7 v) (σ 1 1) → (∀ j, 0 ≤ j → j < mC (pM (σ 1) 6 v) (pM (σ 1) 7 v) (σ 1 1) → s 9 j = mF (pM (σ 1) 6 v) (pM (σ 1) 7 v) (σ 1 1) j) → rpM s (rot dx dy L) → jok i L → q_WP mX8_canCome shM 74 [some (.inr (.inr 0)), some (.inl v), some (.inl w), some (.inr (.inl dx)), none, some (.inr (.inl dy)), none, some (.inl i)] [] (ovM σ s) (fun r σ' => ∃ z, r = some z ∧ (z = .inl (if (rot dx dy (psL (pM (σ 1) 2) (σ 1 0) (pM (σ 1) 4 v) (pM (σ 1) 5 v) (mF (pM (σ 1) 6 v) (pM (σ 1) 7 v) (σ 1 1)) n i L)).1 = 0 ∧ 0 < (rot dx dy (psL (pM (σ 1) 2) (σ 1 0) (pM (σ 1) 4 v) (pM (σ 1) 5 v) (mF (pM (σ 1) 6 v) (pM (σ 1) 7 v) (σ 1 1)) n i L)).2.1 then 1 else 0) ∧ ∃ s', σ' = ovM σ s')) := by
  have hn := hI.nt
  have hvv := hI.nv
  have hvt := hI.tie hv
  have hmc := mem_C hn hvt.2.2
  have hq := hI.fq
  intro n
  induction n with
  | zero =>
    intro i s L hi h0 hm0 hm hr hj
    have g1 := (red_sg hr.1.1 (by show 1 ≤ L.2.2; exact hj.1.1) hr.1.2.1 hr.1.2.2).1
    have g2 := (red_sg hr.2.1 (by show 1 ≤ L.2.2; exact hj.1.1) hr.2.2.1 hr.2.2.2).2
    refine q_iload (n := 76) dX8_canCome_74 rfl rfl ?_
    refine q_aload_n (n := 77) dX8_canCome_76 rfl rfl ?_
    refine q_getIE (mC (pM (σ 1) 6 v) (pM (σ 1) 7 v) (σ 1 1)) (kI := 16) (n := 80) (by decide) dX8_canCome_77 rfl fX8_218 mi0 rfl rfl hm0 ?_
    refine q_icmp_ge (n := 83) (t := 148) dX8_canCome_80 rfl (by decide) (fun h80 => ?_) (fun h80 => ?_)
    · skip
      refine q_aload_n (n := 149) dX8_canCome_148 rfl rfl ?_
      refine q_getJE (s 0 17) (kI := 17) (n := 152) dX8_canCome_149 rfl fX8_227 mi0 rfl rfl rfl ?_
      refine q_lconst (x := 0) (n := 153) dX8_canCome_152 rfl (k := ?_)
      refine q_lcmp (n := 154) dX8_canCome_153 rfl ?_
      refine q_if_ne (n := 157) (t := 170) dX8_canCome_154 rfl (by decide) (fun h154 => ?_) (fun h154 => ?_)
      · have h154 := q_knet.mp h154
        refine q_iconst (n := 171) dX8_canCome_170 rfl (k := ?_)
        refine q_iret dX8_canCome_171 rfl (fun _ => rfl) ?_
        refine ⟨_, rfl, congrArg Sum.inl (Eq.symm ?_), s, rfl⟩
        rw [psL]
        first
          | exact if_pos ⟨g1.mp h154, g2.mp h163⟩
          | exact if_neg (fun z => absurd (g1.mpr z.1) h154)
          | exact if_neg (fun z => absurd (g2.mpr z.2) (Int.not_lt.mpr h163))
      · have h154 := q_knef.mp h154
        refine q_aload_n (n := 158) dX8_canCome_157 rfl rfl ?_
        refine q_getJE (s 0 19) (kI := 19) (n := 161) dX8_canCome_158 rfl fX8_233 mi0 rfl rfl rfl ?_
        refine q_lconst (x := 0) (n := 162) dX8_canCome_161 rfl (k := ?_)
        refine q_lcmp (n := 163) dX8_canCome_162 rfl ?_
        refine q_if_le (n := 166) (t := 170) dX8_canCome_163 rfl (by decide) (fun h163 => ?_) (fun h163 => ?_)
        · have h163 := q_klet.mp h163
          refine q_iconst (n := 171) dX8_canCome_170 rfl (k := ?_)
          refine q_iret dX8_canCome_171 rfl (fun _ => rfl) ?_
          refine ⟨_, rfl, congrArg Sum.inl (Eq.symm ?_), s, rfl⟩
          rw [psL]
          first
            | exact if_pos ⟨g1.mp h154, g2.mp h163⟩
            | exact if_neg (fun z => absurd (g1.mpr z.1) h154)
            | exact if_neg (fun z => absurd (g2.mpr z.2) (Int.not_lt.mpr h163))
        · have h163 := q_klef.mp h163
          refine q_iconst (n := 167) dX8_canCome_166 rfl (k := ?_)
          refine q_go (t := 171) dX8_canCome_167 (by decide) ?_
          refine q_iret dX8_canCome_171 rfl (fun _ => rfl) ?_
          refine ⟨_, rfl, congrArg Sum.inl (Eq.symm ?_), s, rfl⟩
          rw [psL]
          first
            | exact if_pos ⟨g1.mp h154, g2.mp h163⟩
            | exact if_neg (fun z => absurd (g1.mpr z.1) h154)
            | exact if_neg (fun z => absurd (g2.mpr z.2) (Int.not_lt.mpr h163))
    · exact absurd h80 (by omega)
  | succ n ih =>
    intro i s L hi h0 hm0 hm hr hj
    have ht0 := hI.mem hv (j := i) ⟨h0, by omega⟩
    have hmi := hm i h0 (by omega)
    obtain ⟨t, ht⟩ : ∃ t, t = mF (pM (σ 1) 6 v) (pM (σ 1) 7 v) (σ 1 1) i := ⟨_, rfl⟩
    rw [← ht] at ht0 hmi
    have hg := hI.pt ht0
    have hB := balb_at hb (j := i) ⟨h0, by omega⟩
    rw [← ht] at hB
    have hub := un_bd hg hB
    have hpx := pXY_div hg hB hq hvt.1 hvt.2.1
    have hkk := KK2 (i := i) ⟨h0, by omega⟩
    have hrb := rot_bd hj hdx hdy
    refine q_iload (n := 76) dX8_canCome_74 rfl rfl ?_
    refine q_aload_n (n := 77) dX8_canCome_76 rfl rfl ?_
    refine q_getIE (mC (pM (σ 1) 6 v) (pM (σ 1) 7 v) (σ 1 1)) (kI := 16) (n := 80) (by decide) dX8_canCome_77 rfl fX8_218 mi0 rfl rfl hm0 ?_
    refine q_icmp_ge (n := 83) (t := 148) dX8_canCome_80 rfl (by decide) (fun h80 => ?_) (fun h80 => ?_)
    · exact absurd h80 (by omega)
    · skip
      refine q_aload_n (n := 84) dX8_canCome_83 rfl rfl ?_
      refine q_aload_n (n := 85) dX8_canCome_84 rfl rfl ?_
      refine q_getR (n := 88) dX8_canCome_85 rfl fX8_48 mi0 rfl ?_
      refine q_iload (n := 90) dX8_canCome_88 rfl rfl ?_
      refine q_ialoadE (t) (n := 91) dX8_canCome_90 rfl mi9 ⟨by omega, by omega⟩ hmi ?_
      refine q_aload_n (n := 92) dX8_canCome_91 rfl rfl ?_
      refine q_iload_n (n := 93) dX8_canCome_92 rfl rfl ?_
      refine q_iconst (n := 94) dX8_canCome_93 rfl (k := ?_)
      refine q_v2D (n := 97) dX8_canCome_94 rfl (zX8_vP0 _ σ _ ⟨by omega, by omega⟩) vX8_vertexAt lX8_185 rfl rfl mi0 rfl ?_
      refine q_aload_n (n := 98) dX8_canCome_97 rfl rfl ?_
      refine q_iload_n (n := 99) dX8_canCome_98 rfl rfl ?_
      refine q_iconst (n := 100) dX8_canCome_99 rfl (k := ?_)
      refine q_v2D (n := 103) dX8_canCome_100 rfl (zX8_vP1 _ σ _ ⟨by omega, by omega⟩) vX8_vertexAt lX8_185 rfl rfl mi0 rfl ?_
      refine q_v3W (n := 106) dX8_canCome_103 rfl (zX8_tellsPush t (pM (σ 1) 4 v) (pM (σ 1) 5 v) σ _ hI ht0 hB hvt.1 hvt.2.1) vX8_tellsPush lX8_211 rfl rfl mi0 rfl (fun σ103 h103 => ?_)
      obtain ⟨s2, rfl, hps, hfr⟩ := h103
      have hr2 : rpM s2 (rot dx dy L) := rpM_o hr (fun x h1 h2 => hfr 0 x (by omega))
      have hd1 := red_bd hr2.1.1 (show 1 ≤ L.2.2 from hj.1.1) hr2.1.2.1 hr2.1.2.2 hrb.1
      have hd2 := red_bd hr2.2.1 (show 1 ≤ L.2.2 from hj.1.1) hr2.2.2.1 hr2.2.2.2 hrb.2
      · skip
        refine q_aload_n (n := 107) dX8_canCome_106 rfl rfl ?_
        refine q_lload_n (n := 108) dX8_canCome_107 rfl rfl ?_
        refine q_aload_n (n := 109) dX8_canCome_108 rfl rfl ?_
        refine q_getJE (pY (pM (σ 1) 2) (σ 1 0) (pM (σ 1) 4 v) t) (kI := 14) (n := 112) dX8_canCome_109 rfl fX8_132 mi0 rfl rfl hps.2.1 ?_
        have b87_ := hpx.1.2
        have b88_ := bd_mul (C := 184320000) hdx b87_ (by decide)
        refine q_lmulS (n := 113) dX8_canCome_112 rfl (bd_64 b88_ (by decide)) ?_
        refine q_lload (n := 115) dX8_canCome_113 rfl rfl ?_
        refine q_aload_n (n := 116) dX8_canCome_115 rfl rfl ?_
        refine q_getJE (pX (pM (σ 1) 2) (σ 1 0) (pM (σ 1) 5 v) t) (kI := 13) (n := 119) dX8_canCome_116 rfl fX8_129 mi0 rfl rfl hps.1 ?_
        have b89_ := hpx.1.1
        have b90_ := bd_mul (C := 184320000) hdy b89_ (by decide)
        refine q_lmulS (n := 120) dX8_canCome_119 rfl (bd_64 b90_ (by decide)) ?_
        have b91_ := bd_sub (C := 368640000) b88_ b90_ (by decide)
        refine q_lsubS (n := 121) dX8_canCome_120 rfl (bd_64 b91_ (by decide)) ?_
        refine q_lload_n (n := 122) dX8_canCome_121 rfl rfl ?_
        refine q_aload_n (n := 123) dX8_canCome_122 rfl rfl ?_
        refine q_getJE (pX (pM (σ 1) 2) (σ 1 0) (pM (σ 1) 5 v) t) (kI := 13) (n := 126) dX8_canCome_123 rfl fX8_129 mi0 rfl rfl hps.1 ?_
        have b92_ := hpx.1.1
        have b93_ := bd_mul (C := 184320000) hdx b92_ (by decide)
        refine q_lmulS (n := 127) dX8_canCome_126 rfl (bd_64 b93_ (by decide)) ?_
        refine q_lload (n := 129) dX8_canCome_127 rfl rfl ?_
        refine q_aload_n (n := 130) dX8_canCome_129 rfl rfl ?_
        refine q_getJE (pY (pM (σ 1) 2) (σ 1 0) (pM (σ 1) 4 v) t) (kI := 14) (n := 133) dX8_canCome_130 rfl fX8_132 mi0 rfl rfl hps.2.1 ?_
        have b94_ := hpx.1.2
        have b95_ := bd_mul (C := 184320000) hdy b94_ (by decide)
        refine q_lmulS (n := 134) dX8_canCome_133 rfl (bd_64 b95_ (by decide)) ?_
        have b96_ := bd_add (C := 368640000) b93_ b95_ (by decide)
        refine q_laddS (n := 135) dX8_canCome_134 rfl (bd_64 b96_ (by decide)) ?_
        refine q_aload_n (n := 136) dX8_canCome_135 rfl rfl ?_
        refine q_getJE (un (pM (σ 1) 2) t) (kI := 12) (n := 139) dX8_canCome_136 rfl fX8_115 mi0 rfl rfl hps.2.2 ?_
        refine q_v3W (n := 142) dX8_canCome_139 rfl (zX8_adds _ _ (un (pM (σ 1) 2) t) (s2 0 17) (s2 0 18) (s2 0 19) (s2 0 20) (80 * KX i) (KW i) 368640000 6400 σ s2 ⟨rfl, rfl, rfl, rfl⟩ ⟨hr2.1.1, by have hz : s2 0 18 ≤ L.2.2 := hd1.2; have := hj.1.2; omega⟩ ⟨hr2.2.1, by have hz : s2 0 20 ≤ L.2.2 := hd2.2; have := hj.1.2; omega⟩ ⟨by omega, hub.2⟩ hd1.1 hd2.1 (bd_sub (bd_mul hdx hpx.1.2 (C := 184320000) (by decide)) (bd_mul hdy hpx.1.1 (C := 184320000) (by decide)) (by decide)) (bd_add (bd_mul hdx hpx.1.1 (C := 184320000) (by decide)) (bd_mul hdy hpx.1.2 (C := 184320000) (by decide)) (by decide)) hkk.1 hkk.2.1 hkk.2.2.1 ⟨hkk.2.2.2.1.1, by decide⟩ ⟨hkk.2.2.2.2.2, by decide, by decide, hkk.2.2.2.1.2⟩) vX8_adds lX8_236 rfl rfl mi0 rfl (fun σ139 h139 => ?_)
        obtain ⟨s3, rfl, hs3, hfr3⟩ := h139
        have hr3 := rpM_ad hr2 (by omega) hs3
        rw [← rot_jn] at hr3
        · skip
          refine q_iinc (n := 145) dX8_canCome_142 rfl (Nat.le_of_ble_eq_true rfl) rfl (q_nwid ⟨by omega, by omega⟩) (q_s1_s (q_s1_s (q_s1_s (q_s1_s (q_s1_s (q_s1_s (q_s1_1 rfl))))))) ?_
          refine q_go (t := 74) dX8_canCome_145 (by decide) ?_
          rw [psL, ← ht]
          exact ih (i + 1) s3 _ (by omega) (by omega) (by rw [hfr3 0 16 (by decide), hfr 0 16 (by decide)]; exact hm0) (fun j h1 h2 => by rw [hfr3 9 j (by omega), hfr 9 j (by omega)]; exact hm j h1 h2) hr3 (jn_ok hj (by omega) hpx.1.1 hpx.1.2 (by omega))
theorem cc_iff (P Q x y a b : Int) : (-P * (b - y) = -Q * (a - x) ∧ 0 < -P * (a - x) + -Q * (b - y)) ↔ ((x - a) * Q - (y - b) * P = 0 ∧ 0 < (x - a) * P + (y - b) * Q) := by
  have e1 : -P * (b - y) - -Q * (a - x) = -((x - a) * Q - (y - b) * P) := by grind
  have e2 : -P * (a - x) + -Q * (b - y) = (x - a) * P + (y - b) * Q := by grind
  rw [e2]
  omega
set_option maxRecDepth 100000 in
theorem zX8_canCome (v w : Int) (σ s : q_S) (hI : IM σ) (hv : 0 ≤ v ∧ v < σ 1 2) (hw : 0 ≤ w ∧ w < σ 1 2) (hin : (pM (σ 1) 6 v) = -1) (hb : balb (pM (σ 1) 2) (σ 1 1) (pM (σ 1) 6 v) (pM (σ 1) 7 v) = true) : q_Ct mX8_canCome shM [.inr (.inr 0), .inl v, .inl w] (ovM σ s) (fun r σ' => ∃ z, r = some z ∧ (z = .inl (if (lsb (pM (σ 1) 2) (σ 1 0) (σ 1 1) (pM (σ 1) 4 v) (pM (σ 1) 5 v) (pM (σ 1) 6 v) (pM (σ 1) 7 v) (-1)).1 * (pM (σ 1) 5 w - (pM (σ 1) 5 v)) = (lsb (pM (σ 1) 2) (σ 1 0) (σ 1 1) (pM (σ 1) 4 v) (pM (σ 1) 5 v) (pM (σ 1) 6 v) (pM (σ 1) 7 v) (-1)).2.1 * (pM (σ 1) 4 w - (pM (σ 1) 4 v)) ∧ 0 < (lsb (pM (σ 1) 2) (σ 1 0) (σ 1 1) (pM (σ 1) 4 v) (pM (σ 1) 5 v) (pM (σ 1) 6 v) (pM (σ 1) 7 v) (-1)).1 * (pM (σ 1) 4 w - (pM (σ 1) 4 v)) + (lsb (pM (σ 1) 2) (σ 1 0) (σ 1 1) (pM (σ 1) 4 v) (pM (σ 1) 5 v) (pM (σ 1) 6 v) (pM (σ 1) 7 v) (-1)).2.1 * (pM (σ 1) 5 w - (pM (σ 1) 5 v)) then 1 else 0) ∧ ∃ s', σ' = ovM σ s')) := by
  refine q_ct 5 (by decide) rfl rfl ?_
  show q_WP mX8_canCome shM 0 [some (.inr (.inr 0)), some (.inl v), some (.inl w), none, none, none, none, none] [] (ovM σ s) _
  have hn := hI.nt
  have hvv := hI.nv
  have hvt := hI.tie hv
  have hmc := mem_C hn hvt.2.2
  have hwt := hI.tie hw
  have hc3 := hmc.2.1 hin
  have hdx := bd_sub hvt.1 hwt.1 (C := 40) (by decide)
  have hdy := bd_sub hvt.2.1 hwt.2.1 (C := 40) (by decide)
  have hng := lsb_neg' (f := (pM (σ 1) 2)) (F := (σ 1 0)) (x := (pM (σ 1) 4 v)) (y := (pM (σ 1) 5 v)) hn hin hvt.2.2
  have e0 : ((lsb (pM (σ 1) 2) (σ 1 0) (σ 1 1) (pM (σ 1) 4 v) (pM (σ 1) 5 v) (pM (σ 1) 6 v) (pM (σ 1) 7 v) (-1)).1 * (pM (σ 1) 5 w - (pM (σ 1) 5 v)) = (lsb (pM (σ 1) 2) (σ 1 0) (σ 1 1) (pM (σ 1) 4 v) (pM (σ 1) 5 v) (pM (σ 1) 6 v) (pM (σ 1) 7 v) (-1)).2.1 * (pM (σ 1) 4 w - (pM (σ 1) 4 v)) ∧ 0 < (lsb (pM (σ 1) 2) (σ 1 0) (σ 1 1) (pM (σ 1) 4 v) (pM (σ 1) 5 v) (pM (σ 1) 6 v) (pM (σ 1) 7 v) (-1)).1 * (pM (σ 1) 4 w - (pM (σ 1) 4 v)) + (lsb (pM (σ 1) 2) (σ 1 0) (σ 1 1) (pM (σ 1) 4 v) (pM (σ 1) 5 v) (pM (σ 1) 6 v) (pM (σ 1) 7 v) (-1)).2.1 * (pM (σ 1) 5 w - (pM (σ 1) 5 v))) ↔ ((rot ((pM (σ 1) 4 v) - pM (σ 1) 4 w) ((pM (σ 1) 5 v) - pM (σ 1) 5 w) (psb (pM (σ 1) 2) (σ 1 0) (σ 1 1) (pM (σ 1) 4 v) (pM (σ 1) 5 v) (pM (σ 1) 6 v) (pM (σ 1) 7 v))).1 = 0 ∧ 0 < (rot ((pM (σ 1) 4 v) - pM (σ 1) 4 w) ((pM (σ 1) 5 v) - pM (σ 1) 5 w) (psb (pM (σ 1) 2) (σ 1 0) (σ 1 1) (pM (σ 1) 4 v) (pM (σ 1) 5 v) (pM (σ 1) 6 v) (pM (σ 1) 7 v))).2.1) := by
    rw [hng]
    unfold rot
    dsimp only
    exact cc_iff _ _ _ _ _ _
  refine q_aload_n (n := 1) dX8_canCome_0 rfl rfl ?_
  refine q_iload_n (n := 2) dX8_canCome_1 rfl rfl ?_
  refine q_iconst (n := 3) dX8_canCome_2 rfl (k := ?_)
  refine q_v2D (n := 6) dX8_canCome_3 rfl (zX8_vP0 _ σ _ ⟨by omega, by omega⟩) vX8_vertexAt lX8_185 rfl rfl mi0 rfl ?_
  refine q_aload_n (n := 7) dX8_canCome_6 rfl rfl ?_
  refine q_iload_n (n := 8) dX8_canCome_7 rfl rfl ?_
  refine q_iconst (n := 9) dX8_canCome_8 rfl (k := ?_)
  refine q_v2D (n := 12) dX8_canCome_9 rfl (zX8_vP0 _ σ _ ⟨by omega, by omega⟩) vX8_vertexAt lX8_185 rfl rfl mi0 rfl ?_
  refine q_isubS (n := 13) dX8_canCome_12 rfl ⟨by unfold q_bd at hdx; omega, by unfold q_bd at hdx; omega⟩ ?_
  skip
  refine q_i2l (n := 14) dX8_canCome_13 rfl ?_
  refine q_lstore_n (n := 15) dX8_canCome_14 rfl (Nat.le_of_ble_eq_true rfl) (q_s2_s (q_s2_s (q_s2_1 rfl))) ?_
  refine q_aload_n (n := 16) dX8_canCome_15 rfl rfl ?_
  refine q_iload_n (n := 17) dX8_canCome_16 rfl rfl ?_
  refine q_iconst (n := 18) dX8_canCome_17 rfl (k := ?_)
  refine q_v2D (n := 21) dX8_canCome_18 rfl (zX8_vP1 _ σ _ ⟨by omega, by omega⟩) vX8_vertexAt lX8_185 rfl rfl mi0 rfl ?_
  refine q_aload_n (n := 22) dX8_canCome_21 rfl rfl ?_
  refine q_iload_n (n := 23) dX8_canCome_22 rfl rfl ?_
  refine q_iconst (n := 24) dX8_canCome_23 rfl (k := ?_)
  refine q_v2D (n := 27) dX8_canCome_24 rfl (zX8_vP1 _ σ _ ⟨by omega, by omega⟩) vX8_vertexAt lX8_185 rfl rfl mi0 rfl ?_
  refine q_isubS (n := 28) dX8_canCome_27 rfl ⟨by unfold q_bd at hdy; omega, by unfold q_bd at hdy; omega⟩ ?_
  refine q_i2l (n := 29) dX8_canCome_28 rfl ?_
  refine q_lstore (n := 31) dX8_canCome_29 rfl (Nat.le_of_ble_eq_true rfl) (q_s2_s (q_s2_s (q_s2_s (q_s2_s (q_s2_1 rfl))))) ?_
  refine q_lload_n (n := 32) dX8_canCome_31 rfl rfl ?_
  refine q_lconst (x := 0) (n := 33) dX8_canCome_32 rfl (k := ?_)
  refine q_lcmp (n := 34) dX8_canCome_33 rfl ?_
  refine q_if_ne (n := 37) (t := 46) dX8_canCome_34 rfl (by decide) (fun h34 => ?_) (fun h34 => ?_)
  · have h34 := q_knet.mp h34
    refine q_aload_n (n := 47) dX8_canCome_46 rfl rfl ?_
    refine q_iload_n (n := 48) dX8_canCome_47 rfl rfl ?_
    refine q_v1W (n := 51) dX8_canCome_48 rfl (zX8_tellsThose v σ _ hI hv) vX8_tellsThose lX8_221 rfl rfl mi0 rfl (fun σ48 h48 => ?_)
    obtain ⟨s1, rfl, ⟨hm0, hm⟩, hfr1⟩ := h48
    · skip
      refine q_aload_n (n := 52) dX8_canCome_51 rfl rfl ?_
      refine q_lconst (x := 0) (n := 53) dX8_canCome_52 rfl (k := ?_)
      refine q_putJ (kI := 17) (n := 56) dX8_canCome_53 rfl pX8_227 mi0 rfl rfl ?_
      rw [om_up rfl]
      refine q_aload_n (n := 57) dX8_canCome_56 rfl rfl ?_
      refine q_lconst (x := 0) (n := 58) dX8_canCome_57 rfl (k := ?_)
      refine q_putJ (kI := 19) (n := 61) dX8_canCome_58 rfl pX8_233 mi0 rfl rfl ?_
      rw [om_up rfl]
      refine q_aload_n (n := 62) dX8_canCome_61 rfl rfl ?_
      refine q_lconst (x := 1) (n := 63) dX8_canCome_62 rfl (k := ?_)
      refine q_putJ (kI := 18) (n := 66) dX8_canCome_63 rfl pX8_224 mi0 rfl rfl ?_
      rw [om_up rfl]
      refine q_aload_n (n := 67) dX8_canCome_66 rfl rfl ?_
      refine q_lconst (x := 1) (n := 68) dX8_canCome_67 rfl (k := ?_)
      refine q_putJ (kI := 20) (n := 71) dX8_canCome_68 rfl pX8_230 mi0 rfl rfl ?_
      rw [om_up rfl]
      refine q_iconst (n := 72) dX8_canCome_71 rfl (k := ?_)
      refine q_istore (n := 74) dX8_canCome_72 rfl (Nat.le_of_ble_eq_true rfl) (q_s1_s (q_s1_s (q_s1_s (q_s1_s (q_s1_s (q_s1_s (q_s1_1 rfl))))))) ?_
      refine (lpX8_cc σ v w _ _ hI hv hb hc3 hdx hdy (mC (pM (σ 1) 6 v) (pM (σ 1) 7 v) (σ 1 1)).toNat 0 _ (0, 0, 1) (by omega) (by decide) ?_ ?_ ?_ jok_0).imp ?_
      · rw [q_up_n (by decide), q_up_n (by decide), q_up_n (by decide), q_up_n (by decide)]
        exact hm0
      · intro j h1 h2
        rw [q_up_n (by omega), q_up_n (by omega), q_up_n (by omega), q_up_n (by omega)]
        exact hm j h1 h2
      · have ez : ∀ dx dy : Int, rot dx dy (0, 0, 1) = (0, 0, 1) := by
          intro dx dy
          unfold rot
          dsimp only
          rw [Int.mul_zero, Int.mul_zero]
          rfl
        rw [ez]
        exact ⟨⟨by show (1 : Int) ≤ 1; decide, by show Int.gcd 0 1 = 1; decide, by show (0 : Int) * 1 = 0 * 1; decide⟩, by show (1 : Int) ≤ 1; decide, by show Int.gcd 0 1 = 1; decide, by show (0 : Int) * 1 = 0 * 1; decide⟩
      · rintro r σ2 ⟨z, z1, z2, z3⟩
        refine ⟨z, z1, ?_, z3⟩
        rw [z2]
        congr 1
        by_cases e : (lsb (pM (σ 1) 2) (σ 1 0) (σ 1 1) (pM (σ 1) 4 v) (pM (σ 1) 5 v) (pM (σ 1) 6 v) (pM (σ 1) 7 v) (-1)).1 * (pM (σ 1) 5 w - (pM (σ 1) 5 v)) = (lsb (pM (σ 1) 2) (σ 1 0) (σ 1 1) (pM (σ 1) 4 v) (pM (σ 1) 5 v) (pM (σ 1) 6 v) (pM (σ 1) 7 v) (-1)).2.1 * (pM (σ 1) 4 w - (pM (σ 1) 4 v)) ∧ 0 < (lsb (pM (σ 1) 2) (σ 1 0) (σ 1 1) (pM (σ 1) 4 v) (pM (σ 1) 5 v) (pM (σ 1) 6 v) (pM (σ 1) 7 v) (-1)).1 * (pM (σ 1) 4 w - (pM (σ 1) 4 v)) + (lsb (pM (σ 1) 2) (σ 1 0) (σ 1 1) (pM (σ 1) 4 v) (pM (σ 1) 5 v) (pM (σ 1) 6 v) (pM (σ 1) 7 v) (-1)).2.1 * (pM (σ 1) 5 w - (pM (σ 1) 5 v))
        · rw [if_pos e]
          exact if_pos (e0.mp e)
        · rw [if_neg e]
          exact if_neg (fun z => e (e0.mpr z))
  · have h34 := q_knef.mp h34
    refine q_lload (n := 39) dX8_canCome_37 rfl rfl ?_
    refine q_lconst (x := 0) (n := 40) dX8_canCome_39 rfl (k := ?_)
    refine q_lcmp (n := 41) dX8_canCome_40 rfl ?_
    refine q_if_ne (n := 44) (t := 46) dX8_canCome_41 rfl (by decide) (fun h41 => ?_) (fun h41 => ?_)
    · have h41 := q_knet.mp h41
      refine q_aload_n (n := 47) dX8_canCome_46 rfl rfl ?_
      refine q_iload_n (n := 48) dX8_canCome_47 rfl rfl ?_
      refine q_v1W (n := 51) dX8_canCome_48 rfl (zX8_tellsThose v σ _ hI hv) vX8_tellsThose lX8_221 rfl rfl mi0 rfl (fun σ48 h48 => ?_)
      obtain ⟨s1, rfl, ⟨hm0, hm⟩, hfr1⟩ := h48
      · skip
        refine q_aload_n (n := 52) dX8_canCome_51 rfl rfl ?_
        refine q_lconst (x := 0) (n := 53) dX8_canCome_52 rfl (k := ?_)
        refine q_putJ (kI := 17) (n := 56) dX8_canCome_53 rfl pX8_227 mi0 rfl rfl ?_
        rw [om_up rfl]
        refine q_aload_n (n := 57) dX8_canCome_56 rfl rfl ?_
        refine q_lconst (x := 0) (n := 58) dX8_canCome_57 rfl (k := ?_)
        refine q_putJ (kI := 19) (n := 61) dX8_canCome_58 rfl pX8_233 mi0 rfl rfl ?_
        rw [om_up rfl]
        refine q_aload_n (n := 62) dX8_canCome_61 rfl rfl ?_
        refine q_lconst (x := 1) (n := 63) dX8_canCome_62 rfl (k := ?_)
        refine q_putJ (kI := 18) (n := 66) dX8_canCome_63 rfl pX8_224 mi0 rfl rfl ?_
        rw [om_up rfl]
        refine q_aload_n (n := 67) dX8_canCome_66 rfl rfl ?_
        refine q_lconst (x := 1) (n := 68) dX8_canCome_67 rfl (k := ?_)
        refine q_putJ (kI := 20) (n := 71) dX8_canCome_68 rfl pX8_230 mi0 rfl rfl ?_
        rw [om_up rfl]
        refine q_iconst (n := 72) dX8_canCome_71 rfl (k := ?_)
        refine q_istore (n := 74) dX8_canCome_72 rfl (Nat.le_of_ble_eq_true rfl) (q_s1_s (q_s1_s (q_s1_s (q_s1_s (q_s1_s (q_s1_s (q_s1_1 rfl))))))) ?_
        refine (lpX8_cc σ v w _ _ hI hv hb hc3 hdx hdy (mC (pM (σ 1) 6 v) (pM (σ 1) 7 v) (σ 1 1)).toNat 0 _ (0, 0, 1) (by omega) (by decide) ?_ ?_ ?_ jok_0).imp ?_
        · rw [q_up_n (by decide), q_up_n (by decide), q_up_n (by decide), q_up_n (by decide)]
          exact hm0
        · intro j h1 h2
          rw [q_up_n (by omega), q_up_n (by omega), q_up_n (by omega), q_up_n (by omega)]
          exact hm j h1 h2
        · have ez : ∀ dx dy : Int, rot dx dy (0, 0, 1) = (0, 0, 1) := by
            intro dx dy
            unfold rot
            dsimp only
            rw [Int.mul_zero, Int.mul_zero]
            rfl
          rw [ez]
          exact ⟨⟨by show (1 : Int) ≤ 1; decide, by show Int.gcd 0 1 = 1; decide, by show (0 : Int) * 1 = 0 * 1; decide⟩, by show (1 : Int) ≤ 1; decide, by show Int.gcd 0 1 = 1; decide, by show (0 : Int) * 1 = 0 * 1; decide⟩
        · rintro r σ2 ⟨z, z1, z2, z3⟩
          refine ⟨z, z1, ?_, z3⟩
          rw [z2]
          congr 1
          by_cases e : (lsb (pM (σ 1) 2) (σ 1 0) (σ 1 1) (pM (σ 1) 4 v) (pM (σ 1) 5 v) (pM (σ 1) 6 v) (pM (σ 1) 7 v) (-1)).1 * (pM (σ 1) 5 w - (pM (σ 1) 5 v)) = (lsb (pM (σ 1) 2) (σ 1 0) (σ 1 1) (pM (σ 1) 4 v) (pM (σ 1) 5 v) (pM (σ 1) 6 v) (pM (σ 1) 7 v) (-1)).2.1 * (pM (σ 1) 4 w - (pM (σ 1) 4 v)) ∧ 0 < (lsb (pM (σ 1) 2) (σ 1 0) (σ 1 1) (pM (σ 1) 4 v) (pM (σ 1) 5 v) (pM (σ 1) 6 v) (pM (σ 1) 7 v) (-1)).1 * (pM (σ 1) 4 w - (pM (σ 1) 4 v)) + (lsb (pM (σ 1) 2) (σ 1 0) (σ 1 1) (pM (σ 1) 4 v) (pM (σ 1) 5 v) (pM (σ 1) 6 v) (pM (σ 1) 7 v) (-1)).2.1 * (pM (σ 1) 5 w - (pM (σ 1) 5 v))
          · rw [if_pos e]
            exact if_pos (e0.mp e)
          · rw [if_neg e]
            exact if_neg (fun z => e (e0.mpr z))
    · have h41 := q_knef.mp h41
      refine q_iconst (n := 45) dX8_canCome_44 rfl (k := ?_)
      refine q_iret dX8_canCome_45 rfl (fun _ => rfl) ?_
      refine ⟨_, rfl, congrArg Sum.inl (Eq.symm ?_), s, rfl⟩
      refine if_neg (fun z => ?_)
      have z := e0.mp z
      unfold rot at z
      dsimp only at z
      rw [h34, h41, Int.zero_mul, Int.zero_mul] at z
      have := z.2
      omega
set_option maxRecDepth 100000 in
theorem lpX8_cm (σ : q_S) (v : Int) (hI : IM σ) (hv : 0 ≤ v ∧ v < σ 1 2) (hin : (pM (σ 1) 6 v) = -1) (hb : balb (pM (σ 1) 2) (σ 1 1) (pM (σ 1) 6 v) (pM (σ 1) 7 v) = true) : ∀ (n : Nat) (i b : Int) (s : q_S), (n : Int) + i = σ 1 2 → 0 ≤ i → q_i32 b → q_WP mX8_came shM 37 [some (.inr (.inr 0)), some (.inl v), some (.inl b), some (.inl i)] [] (ovM σ s) (fun r σ' => r = some (.inl (cmL (pM (σ 1) 4) (pM (σ 1) 5) (lsb (pM (σ 1) 2) (σ 1 0) (σ 1 1) (pM (σ 1) 4 v) (pM (σ 1) 5 v) (pM (σ 1) 6 v) (pM (σ 1) 7 v) (-1)).1 (lsb (pM (σ 1) 2) (σ 1 0) (σ 1 1) (pM (σ 1) 4 v) (pM (σ 1) 5 v) (pM (σ 1) 6 v) (pM (σ 1) 7 v) (-1)).2.1 (pM (σ 1) 4 v) (pM (σ 1) 5 v) n i b)) ∧ ∃ s', σ' = ovM σ s') := by
  have hvv := hI.nv
  intro n
  induction n with
  | zero =>
    intro i b s hi h0 hb0
    refine q_iload_n (n := 38) dX8_came_37 rfl rfl ?_
    refine q_aload_n (n := 39) dX8_came_38 rfl rfl ?_
    refine q_getR (n := 42) dX8_came_39 rfl fX8_23 mi0 rfl ?_
    refine q_iconst (n := 43) dX8_came_42 rfl (k := ?_)
    refine q_ialoadF (σ 1) (n := 44) dX8_came_43 rfl mi1 ⟨by omega, by omega⟩ rfl ?_
    refine q_icmp_ge (n := 47) (t := 72) dX8_came_44 rfl (by decide) (fun h44 => ?_) (fun h44 => ?_)
    · skip
      refine q_iload_n (n := 73) dX8_came_72 rfl rfl ?_
      refine q_iret dX8_came_73 rfl (fun _ => rfl) ?_
      exact ⟨rfl, _, rfl⟩
    · exact absurd h44 (by omega)
  | succ n ih =>
    intro i b s hi h0 hb0
    refine q_iload_n (n := 38) dX8_came_37 rfl rfl ?_
    refine q_aload_n (n := 39) dX8_came_38 rfl rfl ?_
    refine q_getR (n := 42) dX8_came_39 rfl fX8_23 mi0 rfl ?_
    refine q_iconst (n := 43) dX8_came_42 rfl (k := ?_)
    refine q_ialoadF (σ 1) (n := 44) dX8_came_43 rfl mi1 ⟨by omega, by omega⟩ rfl ?_
    refine q_icmp_ge (n := 47) (t := 72) dX8_came_44 rfl (by decide) (fun h44 => ?_) (fun h44 => ?_)
    · exact absurd h44 (by omega)
    · skip
      refine q_iload_n (n := 48) dX8_came_47 rfl rfl ?_
      refine q_aload_n (n := 49) dX8_came_48 rfl rfl ?_
      refine q_iload_n (n := 50) dX8_came_49 rfl rfl ?_
      refine q_iload_n (n := 51) dX8_came_50 rfl rfl ?_
      refine q_v2 (n := 54) dX8_came_51 rfl (zX8_canCome v i σ _ hI hv ⟨h0, by omega⟩ hin hb) vX8_canCome lX8_255 rfl rfl mi0 rfl (fun v51 σ51 h51 => ?_)
      obtain ⟨rfl, s2, rfl⟩ := h51
      · skip
        refine q_if_eq (n := 57) (t := 63) dX8_came_54 rfl (by decide) (fun h54 => ?_) (fun h54 => ?_)
        · have h54 := q_b0.mp h54
          refine q_iconst (n := 64) dX8_came_63 rfl (k := ?_)
          refine q_ior (n := 65) dX8_came_64 rfl ?_
          refine q_istore_n (n := 66) dX8_came_65 rfl (Nat.le_of_ble_eq_true rfl) (q_s1_s (q_s1_1 rfl)) ?_
          refine q_iinc (n := 69) dX8_came_66 rfl (Nat.le_of_ble_eq_true rfl) rfl (q_nwid ⟨by omega, by omega⟩) (q_s1_s (q_s1_s (q_s1_1 rfl))) ?_
          refine q_go (t := 37) dX8_came_69 (by decide) ?_
          first
            | (rw [or_0 hb0, cmL, if_neg h54]
               exact ih (i + 1) b _ (by omega) (by omega) hb0)
            | (rw [cmL, if_pos h54]
               exact ih (i + 1) _ _ (by omega) (by omega) (q_or_32 _ _))
        · have h54 := q_b1.mp h54
          refine q_iconst (n := 58) dX8_came_57 rfl (k := ?_)
          refine q_iload_n (n := 59) dX8_came_58 rfl rfl ?_
          refine q_ishl (n := 60) dX8_came_59 rfl ?_
          refine q_go (t := 64) dX8_came_60 (by decide) ?_
          refine q_ior (n := 65) dX8_came_64 rfl ?_
          refine q_istore_n (n := 66) dX8_came_65 rfl (Nat.le_of_ble_eq_true rfl) (q_s1_s (q_s1_1 rfl)) ?_
          refine q_iinc (n := 69) dX8_came_66 rfl (Nat.le_of_ble_eq_true rfl) rfl (q_nwid ⟨by omega, by omega⟩) (q_s1_s (q_s1_s (q_s1_1 rfl))) ?_
          refine q_go (t := 37) dX8_came_69 (by decide) ?_
          first
            | (rw [or_0 hb0, cmL, if_neg h54]
               exact ih (i + 1) b _ (by omega) (by omega) hb0)
            | (rw [cmL, if_pos h54]
               exact ih (i + 1) _ _ (by omega) (by omega) (q_or_32 _ _))
set_option maxRecDepth 100000 in
theorem zX8_came (v : Int) (σ s : q_S) (hI : IM σ) : q_Ct mX8_came shM [.inr (.inr 0), .inl v] (ovM σ s) (fun r σ' => r = some (.inl (fCame (σ 1 0) (σ 1 1) (σ 1 2) (pM (σ 1) 2) (pM (σ 1) 4) (pM (σ 1) 5) (pM (σ 1) 6) (pM (σ 1) 7) v)) ∧ ∃ s', σ' = ovM σ s') := by
  refine q_ct 2 (by decide) rfl rfl ?_
  show q_WP mX8_came shM 0 [some (.inr (.inr 0)), some (.inl v), none, none] [] (ovM σ s) _
  have hn := hI.nt
  have hvv := hI.nv
  refine q_aload_n (n := 1) dX8_came_0 rfl rfl ?_
  refine q_iload_n (n := 2) dX8_came_1 rfl rfl ?_
  refine q_v1D (n := 5) dX8_came_2 rfl (zX8_isVertex _ σ _ (by omega)) vX8_isVertex lX8_192 rfl rfl mi0 rfl ?_
  refine q_if_ne (n := 8) (t := 10) dX8_came_5 rfl (by decide) (fun h5 => ?_) (fun h5 => ?_)
  · have hv := q_b1.mp h5
    have hvt := hI.tie hv
    have ht1 := hvt.2.2.1
    refine q_aload_n (n := 11) dX8_came_10 rfl rfl ?_
    refine q_iload_n (n := 12) dX8_came_11 rfl rfl ?_
    refine q_iconst (n := 13) dX8_came_12 rfl (k := ?_)
    refine q_v2D (n := 16) dX8_came_13 rfl (zX8_vP2 _ σ _ ⟨by omega, by omega⟩) vX8_vertexAt lX8_185 rfl rfl mi0 rfl ?_
    refine q_if_lt (n := 19) (t := 22) dX8_came_16 rfl (by decide) (fun h16 => ?_) (fun h16 => ?_)
    · have hin : (pM (σ 1) 6 v) = -1 := by omega
      refine q_aload_n (n := 23) dX8_came_22 rfl rfl ?_
      refine q_iload_n (n := 24) dX8_came_23 rfl rfl ?_
      refine q_v1 (n := 27) dX8_came_24 rfl (zX8_isBalanced v σ _ hI hv) vX8_isBalanced lX8_240 rfl rfl mi0 rfl (fun v24 σ24 h24 => ?_)
      obtain ⟨rfl, s24, rfl⟩ := h24
      · skip
        refine q_if_ne (n := 30) (t := 33) dX8_came_27 rfl (by decide) (fun h27 => ?_) (fun h27 => ?_)
        · have hb := q_b1.mp h27
          refine q_iconst (n := 34) dX8_came_33 rfl (k := ?_)
          refine q_istore_n (n := 35) dX8_came_34 rfl (Nat.le_of_ble_eq_true rfl) (q_s1_s (q_s1_1 rfl)) ?_
          refine q_iconst (n := 36) dX8_came_35 rfl (k := ?_)
          refine q_istore_n (n := 37) dX8_came_36 rfl (Nat.le_of_ble_eq_true rfl) (q_s1_s (q_s1_s (q_s1_1 rfl))) ?_
          unfold fCame
          rw [if_neg (fun z => z hv), if_neg (fun z => z hin), if_neg (fun z => z hb)]
          exact lpX8_cm σ v hI hv hin hb (σ 1 2).toNat 0 0 _ (by omega) (by decide) q_0
        · have hb := q_b0.mp h27
          refine q_bipush (n := 32) dX8_came_30 rfl (k := ?_)
          refine q_iret dX8_came_32 rfl (fun _ => rfl) ?_
          refine ⟨congrArg some (congrArg Sum.inl (Eq.symm ?_)), _, rfl⟩
          unfold fCame
          first
            | exact if_pos hv
            | (rw [if_neg (fun z => z hv), if_pos hin]; done)
            | (rw [if_neg (fun z => z hv), if_neg (fun z => z hin), if_pos hb]; done)
    · have hin : ¬ (pM (σ 1) 6 v) = -1 := by omega
      refine q_bipush (n := 21) dX8_came_19 rfl (k := ?_)
      refine q_iret dX8_came_21 rfl (fun _ => rfl) ?_
      refine ⟨congrArg some (congrArg Sum.inl (Eq.symm ?_)), _, rfl⟩
      unfold fCame
      first
        | exact if_pos hv
        | (rw [if_neg (fun z => z hv), if_pos hin]; done)
        | (rw [if_neg (fun z => z hv), if_neg (fun z => z hin), if_pos hb]; done)
  · have hv := q_b0.mp h5
    refine q_iconst (n := 9) dX8_came_8 rfl (k := ?_)
    refine q_iret dX8_came_9 rfl (fun _ => rfl) ?_
    refine ⟨congrArg some (congrArg Sum.inl (Eq.symm ?_)), _, rfl⟩
    unfold fCame
    first
      | exact if_pos hv
      | (rw [if_neg (fun z => z hv), if_pos hin]; done)
      | (rw [if_neg (fun z => z hv), if_neg (fun z => z hin), if_pos hb]; done)
