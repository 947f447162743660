/-! naming: the sums of the class and of the reference -/
def smS (φ g : Int → Int) : Nat → Int → Int
  | 0, _ => 0
  | n + 1, i => φ (g i) + smS φ g n (i + 1)
def bsN (φ : Int → Int) (o : Int) : Nat → Int → Int
  | 0, _ => 0
  | n + 1, i => (if q_and (q_shr o i) 1 = 1 then φ i else 0) + bsN φ o n (i + 1)
theorem smS_c {φ φ' g g' : Int → Int} : ∀ (n : Nat) (i : Int), (∀ j, i ≤ j → j < i + n → φ (g j) = φ' (g' j)) → smS φ g n i = smS φ' g' n i := by
  intro n
  induction n with
  | zero => intro i _; rfl
  | succ n ih =>
    intro i h
    rw [smS, smS, h i (by omega) (by omega), ih (i + 1) (fun j a b => h j (by omega) (by omega))]
theorem mlp_sum {φ : Int → Int} {o : Int} : ∀ (n : Nat) (i f : Int) (g : Int → Int), f + nbL o n i ≤ 4 → smS φ (mlp o n i f g).2 (nbL o n i).toNat f = bsN φ o n i := by
  intro n
  induction n with
  | zero => intro i f g _; rfl
  | succ n ih =>
    intro i f g h
    have h0 := nbL_0 (o := o) n (i + 1)
    rw [nbL] at h ⊢
    rw [bsN]
    by_cases hb : q_and (q_shr o i) 1 = 1
    · rw [if_pos hb] at h ⊢
      rw [if_pos hb]
      have e1 : mlp o (n + 1) i f g = mlp o n (i + 1) (f + 1) (fun j => if j = f then i else g j) := by
        rw [mlp, if_pos (by omega), if_pos hb]
      have e2 : (1 + nbL o n (i + 1)).toNat = (nbL o n (i + 1)).toNat + 1 := by omega
      rw [e1, e2, smS, ih (i + 1) (f + 1) _ (by omega)]
      have e3 := (mlp_2 (o := o) n (i + 1) (f + 1) (fun j => if j = f then i else g j) (by omega) f).1 (by omega)
      rw [e3, if_pos rfl]
    · rw [if_neg hb] at h ⊢
      rw [if_neg hb, Int.zero_add, Int.zero_add]
      have e1 : (mlp o (n + 1) i f g) = mlp o n (i + 1) f g := by
        rw [mlp]
        by_cases hf : f < 4
        · rw [if_pos hf, if_neg hb]
        · rw [if_neg hf, mlp_ge hf]
      rw [e1]
      exact ih (i + 1) f g (by omega)
/-- the members' sum, by the bits -/
theorem mem_sum {ψ φ : Int → Int} {nt a o : Int} (hn : 0 ≤ nt ∧ nt ≤ 8) (h : tieok nt a o) (h1 : a ≠ -1 → ψ a = φ a) (h2 : ∀ t, t ≠ a → ψ t = -φ t) : smS ψ (mF a o nt) (mC a o nt).toNat 0 = (if a = -1 then 0 else φ a) - bsN φ o nt.toNat 0 := by
  have hb := tie_bits hn h
  have hm := mem_1 hn h (fun _ => 0)
  have hF := (mem_F hn h).2
  have hneg : ∀ (n : Nat) (i : Int), (∀ t, i ≤ t → t < i + n → q_and (q_shr o t) 1 = 1 → t ≠ a) → bsN ψ o n i = -bsN φ o n i := by
    intro n
    induction n with
    | zero => intro i _; rfl
    | succ n ih =>
      intro i hz
      rw [bsN, bsN, ih (i + 1) (fun t a1 a2 => hz t (by omega) (by omega))]
      by_cases e : q_and (q_shr o i) 1 = 1
      · rw [if_pos e, if_pos e, h2 i (hz i (by omega) (by omega) e)]
        omega
      · rw [if_neg e, if_neg e]
        omega
  have hbit : ∀ t : Int, 0 ≤ t → t < 0 + nt.toNat → q_and (q_shr o t) 1 = 1 → t ≠ a := by
    intro t t0 t1 hz e
    obtain ⟨_, _, _, _, h5⟩ := h
    subst e
    rcases h5 with z | z
    · omega
    · rw [hz] at z
      omega
  have hC : mC a o nt = (if a = -1 then 0 else 1) + nbL o nt.toNat 0 := hm
  by_cases ha : a = -1
  · rw [if_pos ha] at hC ⊢
    rw [Int.zero_add] at hC
    have e1 : mF a o nt = (mlp o nt.toNat 0 0 (fun _ => 0)).2 := by
      unfold mF mem0
      rw [if_pos ha]
    rw [hC, e1, mlp_sum _ _ _ _ (by omega), hneg _ _ hbit]
    omega
  · rw [if_neg ha] at hC ⊢
    have e1 : mF a o nt = (mlp o nt.toNat 0 1 (fun j => if j = 0 then a else 0)).2 := by
      unfold mF mem0
      rw [if_neg ha]
    have e2 : (1 + nbL o nt.toNat 0).toNat = (nbL o nt.toNat 0).toNat + 1 := by omega
    rw [hC, e2, smS, (hF ha).1, h1 ha, e1]
    have e3 := mlp_sum (φ := ψ) (o := o) nt.toNat 0 1 (fun j => if j = 0 then a else 0) (by omega)
    rw [show (0 : Int) + 1 = 1 from rfl, e3, hneg _ _ hbit]
    omega
theorem sumE_add {E sd : Int → Int} {s kd q : Int} (hq : 0 ≤ q ∧ q < 4) : ∀ (n : Nat) (r : Int → Int), sumE (addE E s kd) sd n r q = sumE E sd n r q + s * num kd q := by
  intro n
  induction n with
  | zero =>
    intro r
    show addE E s kd q = E q + s * num kd q
    unfold addE
    rw [if_pos hq]
  | succ n ih =>
    intro r
    rw [sumE, sumE]
    unfold addE at ih ⊢
    rw [if_pos hq, if_pos hq, ih r]
    omega
theorem sumE_sd {E sd sd' : Int → Int} : ∀ (n : Nat) (r : Int → Int), ag n sd sd' → sumE E sd n r = sumE E sd' n r := by
  intro n
  induction n with
  | zero => intro r _; rfl
  | succ n ih =>
    intro r h
    rw [sumE, sumE, ih r (ag_mono h (by omega)), h n (by omega) (by omega)]
def sE (A : q_A5) (row : Int → Int) : Int → Int := sumE A.1 A.2.2.2.1 A.2.2.2.2.toNat row
theorem sE_push {A : q_A5} {ow ch sd q : Int} {row : Int → Int} (hk : 0 ≤ A.2.2.2.2) (hq : 0 ≤ q ∧ q < 4) : sE (pushA A ow ch sd) row q = sE A row q + sd * num (row A.2.2.2.2) q := by
  unfold sE pushA
  dsimp only
  have e : (A.2.2.2.2 + 1).toNat = A.2.2.2.2.toNat + 1 := by omega
  have e2 : ((A.2.2.2.2.toNat : Nat) : Int) = A.2.2.2.2 := by omega
  rw [e, sumE, e2]
  unfold addE
  rw [if_pos hq]
  have e3 : ud A.2.2.2.1 A.2.2.2.2 sd A.2.2.2.2 = sd := ud_s
  rw [e3, sumE_sd A.2.2.2.2.toNat row (sd' := A.2.2.2.1) (by rw [e2]; exact ag_udr ag_refl)]
theorem akL_keep {f kd g : Int → Int} {a : Int} : ∀ (n : Nat) (i : Int) (A : q_A5), 0 ≤ A.2.2.2.2 → A.2.2.2.2 ≤ (akL f kd a g n i A).2.2.2.2 ∧ ag A.2.2.2.2 (akL f kd a g n i A).2.1 A.2.1 := by
  intro n
  induction n with
  | zero => intro i A _; exact ⟨Int.le_refl _, ag_refl⟩
  | succ n ih =>
    intro i A hk
    rw [akL]
    by_cases h : kd (g i) = 12
    · have e : akS f kd a (g i) A = pushA A (g i) (sgn (lB f (6 * g i))) (if g i = a then 1 else -1) := by unfold akS; rw [if_pos h]
      have ek : (akS f kd a (g i) A).2.2.2.2 = A.2.2.2.2 + 1 := by rw [e]; rfl
      have h2 := ih (i + 1) (akS f kd a (g i) A) (by omega)
      refine ⟨by omega, ag_trans (ag_mono h2.2 (by omega)) ?_⟩
      rw [e]
      exact ag_udr ag_refl
    · have e : akS f kd a (g i) A = (addE A.1 (if g i = a then 1 else -1) (kd (g i)), A.2) := by unfold akS; rw [if_neg h]
      have h2 := ih (i + 1) (akS f kd a (g i) A) (by rw [e]; exact hk)
      rw [e] at h2 ⊢
      exact h2
/-- what those asked and told weigh together -/
theorem akL_sum {f kd g nm row : Int → Int} {a q : Int} (hq : 0 ≤ q ∧ q < 4) : ∀ (n : Nat) (i : Int) (A : q_A5), 0 ≤ A.2.2.2.2 → (∀ x, A.2.2.2.2 ≤ x → x < (akL f kd a g n i A).2.2.2.2 → nm ((akL f kd a g n i A).2.1 x) = row x) → (∀ j, i ≤ j → j < i + n → kd (g j) ≠ 12 → nm (g j) = kd (g j)) →
    sE (akL f kd a g n i A) row q = sE A row q + smS (fun t => (if t = a then 1 else -1) * num (nm t) q) g n i := by
  intro n
  induction n with
  | zero => intro i A _ _ _; rw [akL, smS, Int.add_zero]
  | succ n ih =>
    intro i A hk hr ht
    rw [akL] at hr ⊢
    rw [smS]
    by_cases h : kd (g i) = 12
    · have e : akS f kd a (g i) A = pushA A (g i) (sgn (lB f (6 * g i))) (if g i = a then 1 else -1) := by unfold akS; rw [if_pos h]
      have ek : (akS f kd a (g i) A).2.2.2.2 = A.2.2.2.2 + 1 := by rw [e]; rfl
      have hkeep := akL_keep (f := f) (kd := kd) (g := g) (a := a) n (i + 1) (akS f kd a (g i) A) (by omega)
      have h1 := hr A.2.2.2.2 (Int.le_refl _) (by omega)
      rw [hkeep.2 A.2.2.2.2 hk (by omega)] at h1
      have e2 : (akS f kd a (g i) A).2.1 A.2.2.2.2 = g i := by rw [e]; exact ud_s
      rw [e2] at h1
      rw [ih (i + 1) _ (by omega) (fun x x0 x1 => hr x (by omega) x1) (fun j j0 j1 => ht j (by omega) (by omega)), e, sE_push hk hq, h1]
      omega
    · have e : akS f kd a (g i) A = (addE A.1 (if g i = a then 1 else -1) (kd (g i)), A.2) := by unfold akS; rw [if_neg h]
      have e3 : sE (akS f kd a (g i) A) row q = sE A row q + (if g i = a then 1 else -1) * num (kd (g i)) q := by
        rw [e]
        unfold sE
        exact sumE_add hq _ _
      have ek : (akS f kd a (g i) A).2.2.2.2 = A.2.2.2.2 := by rw [e]
      rw [ih (i + 1) _ (by omega) (fun x x0 x1 => hr x (by omega) x1) (fun j j0 j1 => ht j (by omega) (by omega)), e3, ht i (by omega) (by omega) h]
      omega
theorem sE_ak2 {A : q_A5} {a lost q : Int} {row : Int → Int} (hk : 0 ≤ A.2.2.2.2) (hq : 0 ≤ q ∧ q < 4) : sE (ak2 A a lost) row q = sE A row q + (if a = -1 then num (row A.2.2.2.2) q else 0) - (if lost = 1 then num (row ((ak2 A a lost).2.2.2.2 - 1)) q else 0) := by
  have hp : ∀ (B : q_A5) (x y z : Int), (pushA B x y z).2.2.2.2 = B.2.2.2.2 + 1 := fun _ _ _ _ => rfl
  unfold ak2
  by_cases hl : lost = 1
  · rw [if_pos hl, if_pos hl]
    by_cases ha : a = -1
    · rw [if_pos ha, if_pos ha, sE_push (by rw [hp]; omega) hq, sE_push hk hq]
      have e1 : (pushA (pushA A (-1) 0 1) (-1) 0 (-1)).2.2.2.2 - 1 = (pushA A (-1) 0 1).2.2.2.2 := by rw [hp]; omega
      rw [e1]
      omega
    · rw [if_neg ha, if_neg ha, sE_push hk hq, hp, Int.add_sub_cancel]
      omega
  · rw [if_neg hl, if_neg hl]
    by_cases ha : a = -1
    · rw [if_pos ha, if_pos ha, sE_push hk hq]
      omega
    · rw [if_neg ha, if_neg ha]
      omega
/-- what is left over, as the reference weighs -/
def loT (nm : Int → Int) (nt a b u w q : Int) : Int := (if a = -1 then num u q else num (nm a) q) - bsN (fun t => num (nm t) q) b nt.toNat 0 - (if w = -1 then 0 else num w q)
theorem loT_ak {f kd nm row : Int → Int} {nt a b lost q : Int} (hn : 0 ≤ nt ∧ nt ≤ 8) (h : tieok nt a b) (hq : 0 ≤ q ∧ q < 4) (hr : ∀ x, 0 ≤ x → x < (akA f kd nt a b).2.2.2.2 → nm ((akA f kd nt a b).2.1 x) = row x) (ht : ∀ t, 0 ≤ t → t < nt → kd t ≠ 12 → nm t = kd t) (hw : lost = 1 → 0 ≤ row ((ak2 (akA f kd nt a b) a lost).2.2.2.2 - 1)) :
    loT nm nt a b (if a = -1 then row (akA f kd nt a b).2.2.2.2 else -1) (if lost = 1 then row ((ak2 (akA f kd nt a b) a lost).2.2.2.2 - 1) else -1) q = sE (ak2 (akA f kd nt a b) a lost) row q := by
  have hk : 0 ≤ (akA f kd nt a b).2.2.2.2 := (akL_keep (f := f) (kd := kd) (g := mF a b nt) (a := a) (mC a b nt).toNat 0 A0 (by decide)).1
  have hs := akL_sum (f := f) (kd := kd) (g := mF a b nt) (nm := nm) (row := row) (a := a) hq (mC a b nt).toNat 0 A0 (by decide) hr (fun j j0 j1 hz => by
    have := (mem_F hn h).1 j j0 (by have := (mem_C hn h).1; omega)
    exact ht _ this.1 this.2 hz)
  have hm := mem_sum (ψ := fun t => (if t = a then 1 else -1) * num (nm t) q) (φ := fun t => num (nm t) q) hn h (fun _ => by rw [if_pos rfl]; omega) (fun t hz => by rw [if_neg hz]; omega)
  have e0 : sE A0 row q = 0 := rfl
  rw [e0, hm] at hs
  have hs2 : sE (akA f kd nt a b) row q = 0 + ((if a = -1 then 0 else num (nm a) q) - bsN (fun t => num (nm t) q) b nt.toNat 0) := hs
  rw [sE_ak2 hk hq, hs2]
  unfold loT
  by_cases hl : lost = 1
  · have hz : ¬ row ((ak2 (akA f kd nt a b) a lost).2.2.2.2 - 1) = -1 := by
      have := hw hl
      omega
    by_cases ha : a = -1
    · simp only [if_pos hl, if_pos ha, if_neg hz]
      omega
    · simp only [if_pos hl, if_neg ha, if_neg hz]
      omega
  · by_cases ha : a = -1
    · simp only [if_neg hl, if_pos ha, if_true]
      omega
    · simp only [if_neg hl, if_neg ha, if_true]
      omega
