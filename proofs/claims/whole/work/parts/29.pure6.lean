/-! members of a vertex, pushes added up -/
def nbL (o : Int) : Nat → Int → Int
  | 0, _ => 0
  | n + 1, i => (if q_and (q_shr o i) 1 = 1 then 1 else 0) + nbL o n (i + 1)
theorem nbL_0 {o : Int} : ∀ (n : Nat) (i : Int), 0 ≤ nbL o n i := by
  intro n
  induction n with
  | zero => intro i; exact Int.le_refl 0
  | succ n ih =>
    intro i
    have := ih (i + 1)
    rw [nbL]
    split <;> omega
theorem nbL_le {o : Int} : ∀ (n m : Nat) (i : Int), n ≤ m → nbL o n i ≤ nbL o m i := by
  intro n
  induction n with
  | zero => intro m i _; exact nbL_0 m i
  | succ n ih =>
    intro m i h
    match m, h with
    | m + 1, h =>
      have := ih m (i + 1) (by omega)
      rw [nbL, nbL]
      omega
theorem nbL_popc {o : Int} (h : 0 ≤ o ∧ o < 256) : nbL o 8 0 = popc o := by
  have h0 : ∀ k : Fin 256, nbL (k.val : Int) 8 0 = popc (k.val : Int) := by decide +kernel
  have := h0 ⟨o.toNat, by omega⟩
  have e : ((o.toNat : Nat) : Int) = o := by omega
  simpa only [e] using this
theorem mlp_1 {o : Int} : ∀ (n : Nat) (i f : Int) (g : Int → Int), f + nbL o n i ≤ 4 → (mlp o n i f g).1 = f + nbL o n i := by
  intro n
  induction n with
  | zero => intro i f g _; simp [mlp, nbL]
  | succ n ih =>
    intro i f g h
    have h0 := nbL_0 (o := o) n (i + 1)
    rw [nbL] at h ⊢
    rw [mlp]
    by_cases hb : q_and (q_shr o i) 1 = 1
    · rw [if_pos hb] at h ⊢
      rw [if_pos (by omega), if_pos hb, ih _ _ _ (by omega)]
      omega
    · rw [if_neg hb] at h ⊢
      by_cases hf : f < 4
      · rw [if_pos hf, if_neg hb, ih _ _ _ (by omega)]
        omega
      · rw [if_neg hf]
        dsimp only
        omega
theorem mlp_2 {o : Int} : ∀ (n : Nat) (i f : Int) (g : Int → Int), f + nbL o n i ≤ 4 → ∀ j : Int, (j < f → (mlp o n i f g).2 j = g j) ∧ (f ≤ j → j < f + nbL o n i → (i ≤ (mlp o n i f g).2 j ∧ (mlp o n i f g).2 j < i + n) ∧ q_and (q_shr o ((mlp o n i f g).2 j)) 1 = 1) := by
  intro n
  induction n with
  | zero =>
    intro i f g _ j
    rw [nbL]
    exact ⟨fun _ => rfl, fun h1 h2 => by omega⟩
  | succ n ih =>
    intro i f g h j
    have h0 := nbL_0 (o := o) n (i + 1)
    rw [nbL] at h ⊢
    rw [mlp]
    by_cases hb : q_and (q_shr o i) 1 = 1
    · rw [if_pos hb] at h ⊢
      rw [if_pos (by omega), if_pos hb]
      have h1 := ih (i + 1) (f + 1) (fun j => if j = f then i else g j) (by omega) j
      refine ⟨fun hj => ?_, fun hj1 hj2 => ?_⟩
      · rw [h1.1 (by omega), if_neg (by omega)]
      · by_cases e : j = f
        · rw [h1.1 (by omega), if_pos e]
          exact ⟨by omega, hb⟩
        · have := h1.2 (by omega) (by omega)
          exact ⟨by omega, this.2⟩
    · rw [if_neg hb] at h ⊢
      by_cases hf : f < 4
      · rw [if_pos hf, if_neg hb]
        have h1 := ih (i + 1) f g (by omega) j
        refine ⟨h1.1, fun hj1 hj2 => ?_⟩
        have := h1.2 hj1 (by omega)
        exact ⟨by omega, this.2⟩
      · rw [if_neg hf]
        exact ⟨fun _ => rfl, fun h1 h2 => by omega⟩
theorem mlp_x {o : Int} : ∀ (n : Nat) (i f : Int) (g g' : Int → Int), f + nbL o n i ≤ 4 → (∀ j, 0 ≤ j → j < f → g j = g' j) → ∀ j, 0 ≤ j → j < f + nbL o n i → (mlp o n i f g).2 j = (mlp o n i f g').2 j := by
  intro n
  induction n with
  | zero =>
    intro i f g g' _ hg j h0 hj
    rw [nbL] at hj
    exact hg j h0 (by omega)
  | succ n ih =>
    intro i f g g' h hg j hj0 hj
    have h0 := nbL_0 (o := o) n (i + 1)
    rw [nbL] at h hj
    rw [mlp, mlp]
    by_cases hb : q_and (q_shr o i) 1 = 1
    · rw [if_pos hb] at h hj
      rw [if_pos (by omega), if_pos hb, if_pos (by omega), if_pos hb]
      refine ih _ _ _ _ (by omega) (fun k hk0 hk => ?_) j hj0 (by omega)
      by_cases e : k = f
      · rw [if_pos e, if_pos e]
      · rw [if_neg e, if_neg e]
        exact hg k hk0 (by omega)
    · rw [if_neg hb] at h hj
      by_cases hf : f < 4
      · rw [if_pos hf, if_neg hb, if_pos hf, if_neg hb]
        exact ih _ _ _ _ (by omega) hg j hj0 (by omega)
      · rw [if_neg hf, if_neg hf]
        exact hg j hj0 (by omega)
def mC (a o nt : Int) : Int := (mem0 a o nt (fun _ => 0)).1
def mF (a o nt : Int) : Int → Int := (mem0 a o nt (fun _ => 0)).2
theorem tie_bits {nt a o : Int} (hn : 0 ≤ nt ∧ nt ≤ 8) (h : tieok nt a o) : (0 ≤ o ∧ o < 256) ∧ 0 ≤ nbL o nt.toNat 0 ∧ nbL o nt.toNat 0 ≤ 3 := by
  obtain ⟨h1, h2, h3, h4, h5⟩ := h
  have hs := (shl_1 hn).2
  have ho : 0 ≤ o ∧ o < 256 := by omega
  have h6 := nbL_le (o := o) nt.toNat 8 0 (by omega)
  rw [nbL_popc ho] at h6
  exact ⟨ho, nbL_0 _ _, by omega⟩
/-- what is known of the members -/
theorem mem_1 {nt a o : Int} (hn : 0 ≤ nt ∧ nt ≤ 8) (h : tieok nt a o) (g : Int → Int) : (mem0 a o nt g).1 = (if a = -1 then 0 else 1) + nbL o nt.toNat 0 := by
  have hb := tie_bits hn h
  unfold mem0
  by_cases ha : a = -1
  · rw [if_pos ha, if_pos ha, mlp_1 _ _ _ _ (by omega)]
  · rw [if_neg ha, if_neg ha, mlp_1 _ _ _ _ (by omega)]
theorem mem_C {nt a o : Int} (hn : 0 ≤ nt ∧ nt ≤ 8) (h : tieok nt a o) : (0 ≤ mC a o nt ∧ mC a o nt ≤ 4) ∧ (a = -1 → mC a o nt ≤ 3) ∧ (a ≠ -1 → 1 ≤ mC a o nt) := by
  have hb := tie_bits hn h
  have h1 := mem_1 hn h (fun _ => 0)
  unfold mC
  rw [h1]
  by_cases ha : a = -1
  · rw [if_pos ha]
    omega
  · rw [if_neg ha]
    omega
theorem mem_g {nt a o : Int} (hn : 0 ≤ nt ∧ nt ≤ 8) (h : tieok nt a o) (g : Int → Int) : (mem0 a o nt g).1 = mC a o nt ∧ ∀ j, 0 ≤ j → j < mC a o nt → (mem0 a o nt g).2 j = mF a o nt j := by
  have hb := tie_bits hn h
  have h1 := mem_1 hn h (fun _ => 0)
  refine ⟨by rw [mem_1 hn h g]; exact h1.symm, fun j h0 hj => ?_⟩
  unfold mC at hj
  rw [h1] at hj
  unfold mF mem0
  by_cases ha : a = -1
  · rw [if_pos ha] at hj
    rw [if_pos ha, if_pos ha]
    exact mlp_x _ _ _ _ _ (by omega) (fun k h1 h2 => by omega) j h0 (by omega)
  · rw [if_neg ha] at hj
    rw [if_neg ha, if_neg ha]
    refine mlp_x _ _ _ _ _ (by omega) (fun k h1 h2 => ?_) j h0 (by omega)
    rw [if_pos (by omega), if_pos (by omega)]
theorem mem_F {nt a o : Int} (hn : 0 ≤ nt ∧ nt ≤ 8) (h : tieok nt a o) : (∀ j, 0 ≤ j → j < mC a o nt → 0 ≤ mF a o nt j ∧ mF a o nt j < nt) ∧ (a ≠ -1 → mF a o nt 0 = a ∧ ∀ j, 1 ≤ j → j < mC a o nt → mF a o nt j ≠ a) := by
  have hb := tie_bits hn h
  have h1 := mem_1 hn h (fun _ => 0)
  obtain ⟨t1, t2, t3, t4, t5⟩ := h
  unfold mC mF
  rw [h1]
  unfold mem0
  by_cases ha : a = -1
  · rw [if_pos ha, if_pos ha]
    refine ⟨fun j h0 hj => ?_, fun h => absurd ha h⟩
    have := (mlp_2 (o := o) nt.toNat 0 0 (fun _ => 0) (by omega) j).2 (by omega) (by omega)
    omega
  · rw [if_neg ha, if_neg ha]
    dsimp only
    have hz := fun j => mlp_2 (o := o) nt.toNat 0 1 (fun j => if j = 0 then a else 0) (by omega) j
    refine ⟨fun j h0 hj => ?_, fun _ => ⟨?_, fun j h0 hj => ?_⟩⟩
    · by_cases e : j < 1
      · rw [(hz j).1 e, if_pos (by omega)]
        omega
      · have := (hz j).2 (by omega) (by omega)
        omega
    · rw [(hz 0).1 (by decide), if_pos rfl]
    · have := (hz j).2 (by omega) (by omega)
      intro e
      rw [e] at this
      omega
def balL (f g : Int → Int) : Nat → Int → Bool
  | 0, _ => true
  | n + 1, i => if lB f (6 * g i) = 0 then false else balL f g n (i + 1)
theorem balL_at {f g : Int → Int} : ∀ (n : Nat) (i : Int), balL f g n i = true → ∀ j, i ≤ j → j < i + n → lB f (6 * g j) ≠ 0 := by
  intro n
  induction n with
  | zero => intro i _ j h1 h2; omega
  | succ n ih =>
    intro i h j h1 h2
    rw [balL] at h
    by_cases e : lB f (6 * g i) = 0
    · rw [if_pos e] at h
      cases h
    · rw [if_neg e] at h
      by_cases e2 : j = i
      · rw [e2]; exact e
      · exact ih (i + 1) h j (by omega) (by omega)
def balb (f : Int → Int) (nt a o : Int) : Bool := balL f (mF a o nt) (mC a o nt).toNat 0
theorem balb_at {f : Int → Int} {nt a o : Int} (h : balb f nt a o = true) {j : Int} (hj : 0 ≤ j ∧ j < mC a o nt) : lB f (6 * mF a o nt j) ≠ 0 := balL_at _ _ h j hj.1 (by omega)
/-- pushes -/
def un (f : Int → Int) (t : Int) : Int := 2 * (if 0 ≤ lB f (6 * t) then lB f (6 * t) else -lB f (6 * t))
def jX (f : Int → Int) (F y t sd : Int) : Int := sd * F * (lU f (6 * t) - 2 * lB f (6 * t) * y)
def jY (f : Int → Int) (F x t sd : Int) : Int := sd * F * (2 * lB f (6 * t) * x - lA f (6 * t))
def pX (f : Int → Int) (F y t : Int) : Int := F * (lU f (6 * t) - 2 * lB f (6 * t) * y)
def pY (f : Int → Int) (F x t : Int) : Int := F * (2 * lB f (6 * t) * x - lA f (6 * t))
theorem un_bd {f : Int → Int} {t : Int} (h : lG f (6 * t)) (h0 : lB f (6 * t) ≠ 0) : 2 ≤ un f t ∧ un f t ≤ 6400 := by
  have := lB_bd h
  unfold q_bd at this
  unfold un
  split <;> omega
theorem jX_bd {f : Int → Int} {F y t sd : Int} (h : lG f (6 * t)) (hF : q_bd F 9) (hy : q_bd y 20) (hs : q_bd sd 1) : q_bd (jX f F y t sd) 4608000 :=
  bd_mul (bd_mul hs hF (C := 9) (by decide)) (bd_sub (lU_bd h) (bd_mul (bd_mul (bd_c 2 2 (by decide)) (lB_bd h) (C := 6400) (by decide)) hy (C := 128000) (by decide)) (C := 512000) (by decide)) (by decide)
theorem jY_bd {f : Int → Int} {F x t sd : Int} (h : lG f (6 * t)) (hF : q_bd F 9) (hx : q_bd x 20) (hs : q_bd sd 1) : q_bd (jY f F x t sd) 4608000 :=
  bd_mul (bd_mul hs hF (C := 9) (by decide)) (bd_sub (bd_mul (bd_mul (bd_c 2 2 (by decide)) (lB_bd h) (C := 6400) (by decide)) hx (C := 128000) (by decide)) (lA_bd h) (C := 512000) (by decide)) (by decide)
theorem jX_1 {f : Int → Int} {F y t : Int} : jX f F y t 1 = pX f F y t := by unfold jX pX; rw [Int.one_mul]
theorem jY_1 {f : Int → Int} {F x t : Int} : jY f F x t 1 = pY f F x t := by unfold jY pY; rw [Int.one_mul]
theorem jX_s {f : Int → Int} {F y t sd : Int} : jX f F y t sd = sd * pX f F y t := by unfold jX pX; rw [Int.mul_assoc]
theorem jY_s {f : Int → Int} {F x t sd : Int} : jY f F x t sd = sd * pY f F x t := by unfold jY pY; rw [Int.mul_assoc]
def jn (s : Int × Int × Int) (X Y u : Int) : Int × Int × Int := (s.1 * u + X * s.2.2, s.2.1 * u + Y * s.2.2, s.2.2 * u)
def lsL (f : Int → Int) (F x y a wo : Int) (g : Int → Int) : Nat → Int → Int × Int × Int → Int × Int × Int
  | 0, _, s => s
  | n + 1, i, s => lsL f F x y a wo g n (i + 1) (if g i = wo then s else jn s (jX f F y (g i) (if g i = a then 1 else -1)) (jY f F x (g i) (if g i = a then 1 else -1)) (un f (g i)))
def lsb (f : Int → Int) (F nt x y a o wo : Int) : Int × Int × Int := lsL f F x y a wo (mF a o nt) (mC a o nt).toNat 0 (0, 0, 1)
def KX (i : Int) : Int := if i = 0 then 0 else if i = 1 then 4608000 else if i = 2 then 58982400000 else if i = 3 then 566231040000000 else 4831838208000000000
def KW (i : Int) : Int := if i = 0 then 1 else if i = 1 then 6400 else if i = 2 then 40960000 else if i = 3 then 262144000000 else 1677721600000000
/-- how large the sums are behind i pushes -/
def jok (i : Int) (s : Int × Int × Int) : Prop := (1 ≤ s.2.2 ∧ s.2.2 ≤ KW i) ∧ (q_bd s.1 (KX i) ∧ q_bd s.2.1 (KX i)) ∧ (q_bd s.1 (4608000 * i * s.2.2) ∧ q_bd s.2.1 (4608000 * i * s.2.2))
theorem jok_0 : jok 0 (0, 0, 1) := by
  unfold jok q_bd KW KX
  decide
theorem jok_up {i : Int} {s : Int × Int × Int} (h : jok i s) (hi : 0 ≤ i ∧ i ≤ 3) : jok (i + 1) s := by
  obtain ⟨⟨h1, h2⟩, ⟨h3, h4⟩, h5, h6⟩ := h
  have e : 4608000 * (i + 1) * s.2.2 = 4608000 * i * s.2.2 + 4608000 * s.2.2 := by rw [Int.mul_add, Int.add_mul, Int.mul_one]
  unfold jok q_bd at *
  rw [e]
  have e2 : KW i ≤ KW (i + 1) ∧ KX i ≤ KX (i + 1) := by
    rcases (by omega : i = 0 ∨ i = 1 ∨ i = 2 ∨ i = 3) with rfl | rfl | rfl | rfl <;> decide
  refine ⟨⟨h1, by omega⟩, ⟨by omega, by omega⟩, by omega, by omega⟩
theorem jn_step {i : Int} {a w m u : Int} (hi : 0 ≤ i ∧ i ≤ 3) (hw : 1 ≤ w ∧ w ≤ KW i) (ha : q_bd a (KX i)) (ha2 : q_bd a (4608000 * i * w)) (hm : q_bd m 4608000) (hu : 1 ≤ u ∧ u ≤ 6400) : (q_bd (a * u) (KX (i + 1)) ∧ q_bd (m * w) (KX (i + 1)) ∧ q_bd (a * u + m * w) (KX (i + 1))) ∧ q_bd (a * u + m * w) (4608000 * (i + 1) * (w * u)) ∧ 1 ≤ w * u ∧ w * u ≤ KW (i + 1) := by
  have hu2 : q_bd u 6400 := ⟨by omega, hu.2⟩
  have hw2 : q_bd w (KW i) := ⟨by omega, hw.2⟩
  have w1 : 1 ≤ w * u := by
    have := Int.mul_le_mul hw.1 hu.1 (by decide) (by omega)
    omega
  have b5 : q_bd (a * u) (4608000 * i * w * u) := bd_mul ha2 (B := u) ⟨by omega, by omega⟩ (Int.le_refl _)
  have b6 : q_bd (m * w) (4608000 * w) := bd_mul hm (B := w) ⟨by omega, by omega⟩ (Int.le_refl _)
  have e1 : 4608000 * (i + 1) * (w * u) = 4608000 * i * w * u + 4608000 * (w * u) := by rw [Int.mul_add, Int.add_mul, Int.mul_one, Int.mul_assoc (4608000 * i) w u]
  have e2 : w ≤ w * u := by
    have := Int.mul_le_mul_of_nonneg_left hu.1 (by omega : 0 ≤ w)
    omega
  have b7 : q_bd (a * u + m * w) (4608000 * (i + 1) * (w * u)) := bd_add b5 b6 (by rw [e1]; omega)
  rcases (by omega : i = 0 ∨ i = 1 ∨ i = 2 ∨ i = 3) with rfl | rfl | rfl | rfl
  · have b1 : q_bd (a * u) 0 := bd_mul ha hu2 (by decide)
    have b2 : q_bd (m * w) 4608000 := bd_mul hm hw2 (by decide)
    have b3 : q_bd (w * u) 6400 := bd_mul hw2 hu2 (by decide)
    exact ⟨⟨bd_le b1 (by decide), bd_le b2 (by decide), bd_add b1 b2 (by decide)⟩, b7, w1, b3.2⟩
  · have b1 : q_bd (a * u) 29491200000 := bd_mul ha hu2 (by decide)
    have b2 : q_bd (m * w) 29491200000 := bd_mul hm hw2 (by decide)
    have b3 : q_bd (w * u) 40960000 := bd_mul hw2 hu2 (by decide)
    exact ⟨⟨bd_le b1 (by decide), bd_le b2 (by decide), bd_add b1 b2 (by decide)⟩, b7, w1, b3.2⟩
  · have b1 : q_bd (a * u) 377487360000000 := bd_mul ha hu2 (by decide)
    have b2 : q_bd (m * w) 188743680000000 := bd_mul hm hw2 (by decide)
    have b3 : q_bd (w * u) 262144000000 := bd_mul hw2 hu2 (by decide)
    exact ⟨⟨bd_le b1 (by decide), bd_le b2 (by decide), bd_add b1 b2 (by decide)⟩, b7, w1, b3.2⟩
  · have b1 : q_bd (a * u) 3623878656000000000 := bd_mul ha hu2 (by decide)
    have b2 : q_bd (m * w) 1207959552000000000 := bd_mul hm hw2 (by decide)
    have b3 : q_bd (w * u) 1677721600000000 := bd_mul hw2 hu2 (by decide)
    exact ⟨⟨bd_le b1 (by decide), bd_le b2 (by decide), bd_add b1 b2 (by decide)⟩, b7, w1, b3.2⟩
theorem jn_ok {i : Int} {s : Int × Int × Int} {X Y u : Int} (h : jok i s) (hi : 0 ≤ i ∧ i ≤ 3) (hX : q_bd X 4608000) (hY : q_bd Y 4608000) (hu : 1 ≤ u ∧ u ≤ 6400) : jok (i + 1) (jn s X Y u) := by
  obtain ⟨h1, ⟨h3, h4⟩, h5, h6⟩ := h
  have a1 := jn_step hi h1 h3 h5 hX hu
  have a2 := jn_step hi h1 h4 h6 hY hu
  exact ⟨a1.2.2, ⟨a1.1.2.2, a2.1.2.2⟩, a1.2.1, a2.2.1⟩
theorem lsL_ok {f : Int → Int} {F x y a wo : Int} {g : Int → Int} (hF : q_bd F 9) (hx : q_bd x 20) (hy : q_bd y 20) : ∀ (n : Nat) (i : Int) (s : Int × Int × Int), (n : Int) + i ≤ 4 → 0 ≤ i → (∀ j, i ≤ j → j < i + n → lG f (6 * g j) ∧ lB f (6 * g j) ≠ 0) → jok i s → jok (i + n) (lsL f F x y a wo g n i s) := by
  intro n
  induction n with
  | zero => intro i s _ _ _ h; simpa [lsL] using h
  | succ n ih =>
    intro i s hi h0 hg h
    obtain ⟨g1, g2⟩ := hg i (by omega) (by omega)
    have hu := un_bd g1 g2
    have hsd : q_bd (if g i = a then 1 else -1) 1 := by unfold q_bd; split <;> omega
    rw [lsL, show i + ((n + 1 : Nat) : Int) = i + 1 + n by omega]
    refine ih (i + 1) _ (by omega) (by omega) (fun j h1 h2 => hg j (by omega) (by omega)) ?_
    split
    · exact jok_up h (by omega)
    · exact jn_ok h (by omega) (jX_bd g1 hF hy hsd) (jY_bd g1 hF hx hsd) (by omega)
theorem lsb_ok {f : Int → Int} {F nt x y a o wo : Int} (hn : 0 ≤ nt ∧ nt ≤ 8) (h : tieok nt a o) (hF : q_bd F 9) (hx : q_bd x 20) (hy : q_bd y 20) (hg : ∀ t, 0 ≤ t → t < nt → lG f (6 * t)) (hb : balb f nt a o = true) : jok (mC a o nt) (lsb f F nt x y a o wo) := by
  have hc := mem_C hn h
  have hm := (mem_F hn h).1
  have := lsL_ok (f := f) (a := a) (wo := wo) (g := mF a o nt) hF hx hy (mC a o nt).toNat 0 (0, 0, 1) (by omega) (by decide) (fun j h1 h2 => ⟨hg _ (hm j h1 (by omega)).1 (hm j h1 (by omega)).2, balb_at hb ⟨h1, by omega⟩⟩) jok_0
  rw [show (0 : Int) + (mC a o nt).toNat = mC a o nt by omega] at this
  exact this
def stren (a b w : Int) : Int := a.tdiv w * a.tdiv w + b.tdiv w * b.tdiv w
theorem tdiv_bd {a w N : Int} (hw : 1 ≤ w) (hN : 0 ≤ N) (h : q_bd a (N * w)) : q_bd (a.tdiv w) N := by
  have h1 : (a.tdiv w).natAbs = a.natAbs / w.natAbs := Int.natAbs_tdiv a w
  have h2 : a.natAbs ≤ N.toNat * w.natAbs := by
    have e : ((N.toNat * w.natAbs : Nat) : Int) = N * w := by
      rw [Int.natCast_mul, Int.toNat_of_nonneg hN, Int.natAbs_of_nonneg (by omega)]
    unfold q_bd at h
    generalize N.toNat * w.natAbs = z at *
    omega
  have h3 : a.natAbs / w.natAbs ≤ N.toNat := Nat.div_le_of_le_mul (by rw [Nat.mul_comm]; exact h2)
  unfold q_bd
  omega
theorem jok_div {i : Int} {s : Int × Int × Int} (h : jok i s) (hi : 0 ≤ i ∧ i ≤ 4) : q_bd (s.1.tdiv s.2.2) 18432000 ∧ q_bd (s.2.1.tdiv s.2.2) 18432000 := by
  obtain ⟨⟨h1, _⟩, _, h5, h6⟩ := h
  exact ⟨bd_le (tdiv_bd h1 (by omega) h5) (by omega), bd_le (tdiv_bd h1 (by omega) h6) (by omega)⟩
theorem sq0 (z : Int) : 0 ≤ z * z := by
  rcases Int.le_total 0 z with h | h
  · exact Int.mul_nonneg h h
  · have := Int.mul_nonneg (show 0 ≤ -z by omega) (show 0 ≤ -z by omega)
    rwa [Int.neg_mul_neg] at this
theorem stren_bd {a b w : Int} (h1 : q_bd (a.tdiv w) 18432000) (h2 : q_bd (b.tdiv w) 18432000) : 0 ≤ stren a b w ∧ stren a b w ≤ 679477248000000 := by
  have a1 := bd_mul h1 h1 (C := 339738624000000) (by decide)
  have a2 := bd_mul h2 h2 (C := 339738624000000) (by decide)
  have p1 : 0 ≤ a.tdiv w * a.tdiv w := sq0 _
  have p2 : 0 ≤ b.tdiv w * b.tdiv w := sq0 _
  unfold stren q_bd at *
  omega
