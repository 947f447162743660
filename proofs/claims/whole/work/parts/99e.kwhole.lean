/-! the law, from its entry -/
theorem lk_7 : q_LK R_law 9 yX7_init := Or.inl (q_mem 137 (by decide +kernel) (by decide +kernel))
theorem lk_8 : q_LK R_law 12 yX8_init := Or.inl (q_mem 985 (by decide +kernel) (by decide +kernel))
/-- the addresses of a world and of what is given beside it -/
def l_ad (n : Int) (ad : Int → Nat) (a0 a1 a2 : Nat) : Int → Nat := fun c => if c < n then ad c else if c = 1000 then a0 else if c = 1001 then a1 else a2
theorem l_ad_i {n : Int} {ad : Int → Nat} {a0 a1 a2 : Nat} {c : Int} (h : c < n) : l_ad n ad a0 a1 a2 c = ad c := if_pos h
set_option maxHeartbeats 4000000 in
set_option maxRecDepth 100000 in
theorem whole_start {p : Program} {e : Env} {s : State} {m : MethodId} {below : List Frame} {meth : Method} {c : Code} (l : Launch) (hflags : l.flags = flags0) {b L : Nat} {xs : Nat → Int32} (hL : L ≤ 3584) (C0 : lw_At p s m meth c b L xs) : W p l e room_1 s m #[Value.ref b] below meth c s.heap [] 0 0 (lw_Z below #[Value.ref b] s) (entryFrame m ([Value.ref b] : List Value).toArray 4) := by
  obtain ⟨hx, hb, hr, hml, hown, hts, hX, hbl, hlocks, hgv⟩ := id C0
  obtain ⟨D, cs, hK, hN, hO⟩ := l_tabs hts
  obtain ⟨a0, a1, a2, hst⟩ := l_stat hts hgv
  have hA : ∀ q : Nat, s.heap.size ≤ q → l_new s q := fun _ h => h
  have hl := lv_entry ([.ref b]) (n := 4) (Nat.le_of_ble_eq_true rfl)
  rw [lg_entry_eq]
  generalize (lg_sl ([.ref b]) ++ List.replicate (4 - (lg_sl ([.ref b])).length) Slot.unset).toArray = la at hl ⊢
  have hl : lv_has la 4 [(0, .ref b)] := hl
  have S : k_S (l_new s) s.heap D s.heap [] [] := ⟨fun k q h => by simp at h, ⟨fun i j p q h => by simp at h, fun k q h => by simp at h⟩, va_S.rf⟩
  have hTs : ∀ w ∈ q_words, w ∈ lw_tbl := fun w hw => (List.mem_filter.mp hw).1
  refine k_nci (own := R_law) (Ts := lw_tbl) hx hb hml hown hts hTs hK hN hO S hA hl.1 nL_7 kX7 vK_X7 rfl iK_X7 rfl lk_7 ⟨Nat.le_of_ble_eq_true rfl, Nat.le_of_ble_eq_true rfl⟩ (Nat.le_of_ble_eq_true rfl) (Nat.le_of_ble_eq_true rfl) dL_law_0 dL_law_3 dL_law_4 (Nat.le_of_ble_eq_true rfl) (by decide) (fun aX H locs S => ?_)
  refine lv_astore_n (lv' := [(1, .ref (aX 0)), (0, .ref b)]) hx hb dL_law_7 rfl hl (by decide) rfl (fun la hl => ?_)
  refine k_nci (own := R_law) (Ts := lw_tbl) hx hb hml hown hts hTs hK hN hO S hA hl.1 nL_10 kX8 vK_X8 rfl iK_X8 rfl lk_8 ⟨Nat.le_of_ble_eq_true rfl, Nat.le_of_ble_eq_true rfl⟩ (Nat.le_of_ble_eq_true rfl) (Nat.le_of_ble_eq_true rfl) dL_law_8 dL_law_11 dL_law_12 (Nat.le_of_ble_eq_true rfl) (by decide) (fun aM H locs S => ?_)
  refine lv_astore_n (lv' := [(2, .ref (aM 0)), (1, .ref (aX 0)), (0, .ref b)]) hx hb dL_law_15 rfl hl (by decide) rfl (fun la hl => ?_)
  refine lv_iconst (v := nI 0) hx hb dL_law_16 (by decide) ?_
  refine lv_istore_n (lv' := [(3, .int (nI 0)), (2, .ref (aM 0)), (1, .ref (aX 0)), (0, .ref b)]) hx hb dL_law_17 rfl hl (by decide) rfl (fun la hl => ?_)
  refine W.widen (k := 600000) (n := 7302250) (Nat.le_of_ble_eq_true rfl) (Nat.le_of_ble_eq_true rfl) ?_
  have hlX : (([] : va_W) ++ q_wld aX cs shX sgKX7).length = 110 := by simp [q_wld, shX]
  have gX : ∀ c : Nat, c < 110 → ((([] : va_W) ++ q_wld aX cs shX sgKX7) ++ q_wld aM cs shM sgKX8)[c]? = some (aX c, q_cell aX cs (shX.2 c) (sgKX7 c)) := fun c hc => by
    rw [List.getElem?_append_left (by rw [hlX]; exact hc), List.nil_append]
    exact q_wld_at hc
  have gM : ∀ c : Nat, c < 22 → ((([] : va_W) ++ q_wld aX cs shX sgKX7) ++ q_wld aM cs shM sgKX8)[110 + c]? = some (aM c, q_cell aM cs (shM.2 c) (sgKX8 c)) := fun c hc => by
    rw [List.getElem?_append_right (by rw [hlX]; omega), hlX, show 110 + c - 110 = c by omega]
    exact q_wld_at hc
  have pX : va_P D vwCl (q_wld aX cs shX sgKX7) H := fun k q hk => by
    obtain ⟨h1, _⟩ := q_wld_mem hk
    have h2 := gX k h1
    rw [q_wld_at h1] at hk
    exact S.1 k q (h2.trans hk)
  have pM_ : va_P D vwCl (q_wld aM cs shM sgKX8) H := fun k q hk => by
    obtain ⟨h1, _⟩ := q_wld_mem hk
    have h2 := gM k h1
    rw [q_wld_at h1] at hk
    exact S.1 (110 + k) q (h2.trans hk)
  have eX : ∀ c : Int, 0 ≤ c → c < shX.1 → l_ad 110 aX a0 a1 a2 c = aX c := fun c _ h => l_ad_i h
  have eM : ∀ c : Int, 0 ≤ c → c < shM.1 → l_ad 22 aM a0 a1 a2 c = aM c := fun c _ h => l_ad_i h
  have eXn : ∀ c : Nat, c < 110 → l_ad 110 aX a0 a1 a2 c = aX c := fun c h => l_ad_i (by omega)
  have eMn : ∀ c : Nat, c < 22 → l_ad 22 aM a0 a1 a2 c = aM c := fun c h => l_ad_i (by omega)
  have F : l_F s D cs (l_ad 110 aX a0 a1 a2) (l_ad 22 aM a0 a1 a2) := by
    refine ⟨hK, hN, ⟨hst _ rfl rfl rfl, fun c c' hc hc' e => ?_, fun q hq => ?_⟩, ⟨hst _ rfl rfl rfl, fun c c' hc hc' e => ?_, fun q hq => ?_⟩, fun c c' hc hc' e => ?_⟩
    · rw [eXn c hc, eXn c' hc'] at e
      exact S.2.1.1 c c' _ _ (gX c hc) (gX c' hc') e
    · obtain ⟨c, hc, rfl⟩ := hq
      rw [eXn c hc]
      exact S.2.1.2 c _ (gX c hc)
    · rw [eMn c hc, eMn c' hc'] at e
      have := S.2.1.1 (110 + c) (110 + c') _ _ (gM c hc) (gM c' hc') e
      omega
    · obtain ⟨c, hc, rfl⟩ := hq
      rw [eMn c hc]
      exact S.2.1.2 (110 + c) _ (gM c hc)
    · rw [eXn c hc, eMn c' hc'] at e
      have := S.2.1.1 c (110 + c') _ _ (gX c hc) (gM c' hc') e
      omega
  have S2 : l_S s D cs (l_ad 110 aX a0 a1 a2) (l_ad 22 aM a0 a1 a2) H locs sgKX7 (ovM sgKX8 sgKX8) := by
    rw [om_id]
    exact ⟨wld_ad rfX eX pX, wld_ad rfM eM pM_, S.2.2, rng_X7, rng_X8⟩
  have hl2 : lv_has la 4 (l_ls b (l_ad 110 aX a0 a1 a2 0) (l_ad 22 aM a0 a1 a2 0) 0) := by
    rw [l_ad_i (show (0 : Int) < 110 by decide), l_ad_i (show (0 : Int) < 22 by decide)]
    exact lv_sub hl [0, 3, 2, 1] rfl
  exact l_loop C0 F hL L 0 la H locs sgKX7 sgKX8 sgKX8 (by omega) (by decide) hl2 Rel_0 S2
