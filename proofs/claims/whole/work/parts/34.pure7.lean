/-! naming: those asked, all ways -/
abbrev q_A5 : Type := (Int → Int) × (Int → Int) × (Int → Int) × (Int → Int) × Int
def ag (k : Int) (f g : Int → Int) : Prop := ∀ j : Int, 0 ≤ j → j < k → f j = g j
theorem ag_ud {k v : Int} {f g : Int → Int} (h : ag k f g) (hk : 0 ≤ k) : ag (k + 1) (ud f k v) (ud g k v) := by
  intro j h0 h1
  unfold ud
  by_cases e : j = k
  · rw [if_pos e, if_pos e]
  · rw [if_neg e, if_neg e]
    exact h j h0 (by omega)
theorem ag_mono {k k' : Int} {f g : Int → Int} (h : ag k f g) (hk : k' ≤ k) : ag k' f g := fun j h0 h1 => h j h0 (by omega)
theorem ag_trans {k : Int} {f g h : Int → Int} (h1 : ag k f g) (h2 : ag k g h) : ag k f h := fun j a b => (h1 j a b).trans (h2 j a b)
theorem ag_symm {k : Int} {f g : Int → Int} (h : ag k f g) : ag k g f := fun j h0 h1 => (h j h0 h1).symm
theorem ag_refl {k : Int} {f : Int → Int} : ag k f f := fun _ _ _ => rfl
theorem ag_udr {k v : Int} {f g : Int → Int} (h : ag k f g) : ag k (ud f k v) g := by
  intro j h0 h1
  unfold ud
  rw [if_neg (by omega)]
  exact h j h0 h1
theorem ag_udr' {k v : Int} {f : Int → Int} (hk : 0 ≤ k) : ag ((k.toNat : Nat) : Int) (ud f k v) f := by
  intro j h0 h1
  unfold ud
  rw [if_neg (by omega)]
def pushA (A : q_A5) (ow ch sd : Int) : q_A5 := (A.1, ud A.2.1 A.2.2.2.2 ow, ud A.2.2.1 A.2.2.2.2 ch, ud A.2.2.2.1 A.2.2.2.2 sd, A.2.2.2.2 + 1)
def akS (f kd : Int → Int) (a t : Int) (A : q_A5) : q_A5 := if kd t = 12 then pushA A t (sgn (lB f (6 * t))) (if t = a then 1 else -1) else (addE A.1 (if t = a then 1 else -1) (kd t), A.2)
def akL (f kd : Int → Int) (a : Int) (g : Int → Int) : Nat → Int → q_A5 → q_A5
  | 0, _, A => A
  | n + 1, i, A => akL f kd a g n (i + 1) (akS f kd a (g i) A)
def A0 : q_A5 := (fun _ => 0, fun _ => 0, fun _ => 0, fun _ => 0, 0)
def akA (f kd : Int → Int) (nt a o : Int) : q_A5 := akL f kd a (mF a o nt) (mC a o nt).toNat 0 A0
/-- the naming's cells hold those asked -/
def nmR (s : q_S) (A : q_A5) (L : Int) : Prop := (ag 4 (s 90) A.1 ∧ ag A.2.2.2.2 (s 85) A.2.1) ∧ (ag A.2.2.2.2 (s 86) A.2.2.1 ∧ ag A.2.2.2.2 (s 87) A.2.2.2.1) ∧ s 84 7 = A.2.2.2.2 ∧ s 84 6 = L ∧ s 84 8 = 0
def akok (i : Int) (A : q_A5) : Prop := (0 ≤ A.2.2.2.2 ∧ A.2.2.2.2 ≤ i) ∧ (∀ j, 0 ≤ j → j < 4 → q_bd (A.1 j) i) ∧ ∀ j, 0 ≤ j → j < A.2.2.2.2 → q_bd (A.2.2.2.1 j) 1
theorem akok_0 : akok 0 A0 := ⟨⟨by decide, by decide⟩, fun j _ _ => ⟨by show -(0:Int) ≤ 0; decide, by show (0:Int) ≤ 0; decide⟩, fun j h0 h1 => absurd h1 (by show ¬ j < 0; omega)⟩
theorem akok_push {i : Int} {A : q_A5} {ow ch sd : Int} (h : akok i A) (hsd : q_bd sd 1) : akok (i + 1) (pushA A ow ch sd) := by
  obtain ⟨h1, h2, h3⟩ := h
  refine ⟨by unfold pushA; dsimp only; omega, fun j a b => bd_le (h2 j a b) (by omega), fun j a b => ?_⟩
  unfold pushA at b ⊢
  dsimp only at b ⊢
  unfold ud
  by_cases e : j = A.2.2.2.2
  · rw [if_pos e]; exact hsd
  · rw [if_neg e]; exact h3 j a (by omega)
theorem side_bd (t a : Int) : q_bd (if t = a then 1 else -1) 1 := by unfold q_bd; split <;> omega
theorem akok_S {i a t : Int} {f kd : Int → Int} {A : q_A5} (h : akok i A) (hk : 0 ≤ kd t ∧ kd t ≤ 12) : akok (i + 1) (akS f kd a t A) := by
  unfold akS
  by_cases e : kd t = 12
  · rw [if_pos e]
    exact akok_push h (side_bd t a)
  · rw [if_neg e]
    obtain ⟨h1, h2, h3⟩ := h
    refine ⟨by dsimp only; omega, fun j a1 b1 => ?_, h3⟩
    dsimp only
    unfold addE
    rw [if_pos ⟨a1, b1⟩]
    exact bd_add (h2 j a1 b1) (bd_mul (side_bd t a) (num_bd ⟨hk.1, by omega⟩ ⟨a1, b1⟩) (C := 1) (by decide)) (by omega)
theorem akL_ok {a : Int} {f kd g : Int → Int} : ∀ (n : Nat) (i : Int) (A : q_A5), akok i A → (∀ j, i ≤ j → j < i + n → 0 ≤ kd (g j) ∧ kd (g j) ≤ 12) → akok (i + n) (akL f kd a g n i A) := by
  intro n
  induction n with
  | zero => intro i A h _; simpa [akL] using h
  | succ n ih =>
    intro i A h hk
    rw [akL, show i + ((n + 1 : Nat) : Int) = i + 1 + n by omega]
    exact ih (i + 1) _ (akok_S h (hk i (by omega) (by omega))) (fun j h1 h2 => hk j (by omega) (by omega))
def ak2 (A : q_A5) (a lost : Int) : q_A5 := if lost = 1 then pushA (if a = -1 then pushA A (-1) 0 1 else A) (-1) 0 (-1) else if a = -1 then pushA A (-1) 0 1 else A
def lawB (L : Int) (E : Int → Int) : Bool := decide ((E 0 = 0 ∧ E 1 = 0) ∧ (L = 2 ∨ E 2 = 0 ∧ (if 0 ≤ E 3 then E 3 else -E 3) ≤ (if L = 1 then 1 else 0)))
theorem lawB_t {L : Int} {E : Int → Int} : lawB L E = true ↔ lawful L E := by
  unfold lawB lawful
  rw [decide_eq_true_eq]
theorem lawful_ag {L : Int} {E E' : Int → Int} (h : ag 4 E E') : lawful L E ↔ lawful L E' := by
  unfold lawful
  rw [h 0 (by decide) (by decide), h 1 (by decide) (by decide), h 2 (by decide) (by decide), h 3 (by decide) (by decide)]
def sumE (E sd : Int → Int) : Nat → (Int → Int) → (Int → Int)
  | 0, _ => E
  | n + 1, r => addE (sumE E sd n r) (sd n) (r n)
theorem sumE_ag {E sd : Int → Int} : ∀ (n : Nat) (r r' : Int → Int), ag n r r' → sumE E sd n r = sumE E sd n r' := by
  intro n
  induction n with
  | zero => intro r r' _; rfl
  | succ n ih =>
    intro r r' h
    rw [sumE, sumE, ih r r' (ag_mono h (by omega)), h n (by omega) (by omega)]
theorem addE_ag {E E' : Int → Int} {s k : Int} (h : ag 4 E E') : ag 4 (addE E s k) (addE E' s k) := by
  intro j h0 h1
  unfold addE
  rw [if_pos ⟨h0, h1⟩, if_pos ⟨h0, h1⟩, h j h0 h1]
/-- all ways, by a test of the row chosen: row, first, how many -/
abbrev q_W3 : Type := (Int → Int) × (Int → Int) × Int
def enL (P : (Int → Int) → Bool) (s : q_W3) : q_W3 := if P s.1 = true then (s.1, (if s.2.2 = 0 then s.1 else s.2.1), s.2.2 + 1) else s
def enum (ch : Int → Int) (P : (Int → Int) → Bool) : Nat → Int → q_W3 → q_W3
  | 0, _, s => enL P s
  | n + 1, k, s => kfold (fun kd s => if num kd 0 = ch k then enum ch P n (k + 1) (ud s.1 k kd, s.2) else s) 12 0 s
theorem kfold_rel {α β : Type} {R : α → β → Prop} {g : Int → α → α} {g' : Int → β → β} : ∀ (m : Nat) (i : Int) (s : α) (s' : β), (∀ j s s', i ≤ j → j < i + m → R s s' → R (g j s) (g' j s')) → R s s' → R (kfold g m i s) (kfold g' m i s') := by
  intro m
  induction m with
  | zero => intro i s s' _ h; exact h
  | succ m ih =>
    intro i s s' hg h
    rw [kfold, kfold]
    exact ih (i + 1) _ _ (fun j s s' h1 h2 => hg j s s' (by omega) (by omega)) (hg i s s' (by omega) (by omega) h)
def enR (m k : Int) (r0 : Int → Int) (s s' : q_W3) : Prop := (ag k s.1 r0 ∧ ag k s'.1 r0) ∧ s.2.2 = s'.2.2 ∧ (s.2.2 ≠ 0 → ag m s.2.1 s'.2.1) ∧ 0 ≤ s.2.2
def nmP (L : Int) (A : q_A5) (row : Int → Int) : Bool := lawB L (sumE A.1 A.2.2.2.1 A.2.2.2.2.toNat row)
theorem srch_en {ch sd : Int → Int} {L : Int} {A : q_A5} (hm : 0 ≤ A.2.2.2.2 ∧ A.2.2.2.2 ≤ 5) (hch : ag A.2.2.2.2 ch A.2.2.1) (hsd : ag A.2.2.2.2 sd A.2.2.2.1) : ∀ (n : Nat) (k : Int) (E : Int → Int) (r0 : Int → Int) (s s' : q_W3), (n : Int) + k = A.2.2.2.2 → 0 ≤ k → ag 4 E (sumE A.1 A.2.2.2.1 k.toNat r0) → enR A.2.2.2.2 k r0 s s' → enR A.2.2.2.2 k r0 (srch ch sd L n k E s) (enum A.2.2.1 (nmP L A) n k s') := by
  intro n
  induction n with
  | zero =>
    intro k E r0 s s' hk hk0 hE h
    obtain ⟨⟨h1, h2⟩, h3, h4, h5⟩ := h
    have hkk : k = A.2.2.2.2 := by omega
    rw [srch, enum]
    unfold enL
    have e1 : nmP L A s'.1 = true ↔ lawful L E := by
      unfold nmP
      rw [lawB_t]
      have e2 : sumE A.1 A.2.2.2.1 A.2.2.2.2.toNat s'.1 = sumE A.1 A.2.2.2.1 k.toNat r0 := by
        rw [← hkk]
        exact sumE_ag _ _ _ (ag_mono h2 (by omega))
      rw [e2]
      exact (lawful_ag hE).symm
    by_cases hl : lawful L E
    · rw [leafW_t hl, if_pos (e1.mpr hl)]
      refine ⟨⟨h1, h2⟩, by dsimp only; omega, fun _ => ?_, by dsimp only; omega⟩
      dsimp only
      by_cases hw : s.2.2 = 0
      · rw [if_pos hw, if_pos (by omega)]
        intro j a b
        unfold c5
        rw [if_pos ⟨a, by omega⟩, h1 j a (by omega), h2 j a (by omega)]
      · rw [if_neg hw, if_neg (by omega)]
        exact h4 hw
    · rw [leafW_f hl, if_neg (fun z => hl (e1.mp z))]
      exact ⟨⟨h1, h2⟩, h3, h4, h5⟩
  | succ n ih =>
    intro k E r0 s s' hk hk0 hE h
    rw [srch, enum]
    refine kfold_rel (R := enR A.2.2.2.2 k r0) 12 0 s s' (fun kd s s' hkd0 hkd1 h => ?_) h
    have hc := hch k hk0 (by omega)
    have hs := hsd k hk0 (by omega)
    rw [hc]
    by_cases e : num kd 0 = A.2.2.1 k
    · rw [if_pos e, if_pos e]
      obtain ⟨⟨h1, h2⟩, h3, h4, h5⟩ := h
      have hz := ih (k + 1) (addE E (sd k) kd) (ud r0 k kd) (fun j => if j = k then kd else s.1 j, s.2) (ud s'.1 k kd, s'.2) (by omega) (by omega) ?_ ⟨⟨ag_ud (f := s.1) h1 hk0, ag_ud h2 hk0⟩, h3, h4, h5⟩
      · obtain ⟨⟨z1, z2⟩, z3⟩ := hz
        have hr : ag k (ud r0 k kd) r0 := ag_udr ag_refl
        exact ⟨⟨ag_trans (ag_mono z1 (by omega)) hr, ag_trans (ag_mono z2 (by omega)) hr⟩, z3⟩
      · have ek : (k + 1).toNat = k.toNat + 1 := by omega
        rw [ek, sumE, hs]
        have ek2 : ((k.toNat : Nat) : Int) = k := by omega
        rw [ek2]
        have e3 : ud r0 k kd k = kd := ud_s
        rw [e3, sumE_ag k.toNat (ud r0 k kd) r0 (ag_udr' hk0)]
        exact addE_ag hE
    · rw [if_neg e, if_neg e]
      exact h
def wF (L : Int) (A : q_A5) : q_W3 := enum A.2.2.1 (nmP L A) A.2.2.2.2.toNat 0 (fun _ => 0, fun _ => 0, 0)
def ntr (x : Int) : Prop := (0 ≤ x ∧ x < 12) ∧ num x 0 = 0
def hoE (A : q_A5) (a neutral lost : Int) : Int → Int := if lost = -1 then (if a = -1 then addE A.1 1 neutral else A.1) else addE (if a = -1 then addE A.1 1 neutral else A.1) (-1) lost
def fHolds (nt nv : Int) (f kd as os : Int → Int) (v L u w : Int) : Int := if ¬ (0 ≤ v ∧ v < nv) ∨ ¬ (0 ≤ L ∧ L < 3) ∨ ¬ (w = -1 ∨ (0 ≤ w ∧ w < 12) ∧ num w 0 = 0) ∨ (as v = -1 ∧ ¬ ((0 ≤ u ∧ u < 12) ∧ num u 0 = 0)) then -1 else if 0 < (akA f kd nt (as v) (os v)).2.2.2.2 then -5 else if lawB L (hoE (akA f kd nt (as v) (os v)) (as v) u w) = true then 1 else 0
def fNames (nt nv : Int) (f kd as os : Int → Int) (v L w k : Int) : Int := if ¬ (0 ≤ v ∧ v < nv) ∨ ¬ (0 ≤ L ∧ L < 3) ∨ ¬ (w = 0 ∨ w = 1) ∨ k < -1 then -1 else if 3 < (akA f kd nt (as v) (os v)).2.2.2.2 then -5 else if k = -1 then (wF L (ak2 (akA f kd nt (as v) (os v)) (as v) w)).2.2 else if (wF L (ak2 (akA f kd nt (as v) (os v)) (as v) w)).2.2 = 0 ∨ (ak2 (akA f kd nt (as v) (os v)) (as v) w).2.2.2.2 ≤ k then -2 else (wF L (ak2 (akA f kd nt (as v) (os v)) (as v) w)).2.1 k
def rsL (nt : Int) (f kd as os : Int → Int) (L : Int) : Nat → Int → Int → Int
  | 0, _, b => b
  | n + 1, i, b => rsL nt f kd as os L n (i + 1) (if (akA f kd nt (as i) (os i)).2.2.2.2 = 0 ∧ 0 < (wF L (ak2 (akA f kd nt (as i) (os i)) (as i) 0)).2.2 then q_or b (q_shl 1 i) else b)
def fRest (nt nv : Int) (f kd as os : Int → Int) (L : Int) : Int := if ¬ (0 ≤ L ∧ L < 3) then -1 else rsL nt f kd as os L nv.toNat 0 0
