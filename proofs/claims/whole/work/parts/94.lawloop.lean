/-! the law's loop -/
section LW
variable {p : Program} {e : Env} {s : State} {m : MethodId} {below : List Frame} {meth : Method} {c : Code} {l : Launch} {b L : Nat} {xs : Nat → Int32} {D : va_G} {cs : Nat → ClassId} {H : Heap} {locs : List Loc} {Z : State → Prop} {la : Array Slot} {aX aM : Int → Nat} {ω τ t : q_S} {i : Nat}
theorem l_head (C0 : lw_At p s m meth c b L xs) (F : l_F s D cs aX aM) (S : l_S s D cs aX aM H locs ω (ovM τ t)) (hR : Rel ω τ) (hce : cE ω (pM (τ 1))) (hT : tT ω = tT (tx τ)) (hl : lv_has la 4 (l_ls b (aX 0) (aM 0) i)) (hi : i + 7 ≤ L) (hL : L ≤ 3584) (kk : l_Go p l e s m b below meth c D cs aX aM Z la) : W p l e room_1 s m #[Value.ref b] below meth c H locs 600000 7302250 Z (F0 m 27 la []) := by
  obtain ⟨hx, hb, hr, hml, hown, hts, hX, hbl, hlocks, hgv⟩ := id C0
  have hbA : ¬ l_new s b := Nat.not_le.mpr hbl
  have hS := S.2.2.1
  refine lv_aload_n hx hb dL_law_27 rfl (lv_at hl 1 rfl) ?_
  refine lv_iload_n hx hb dL_law_28 rfl (lv_at hl 0 rfl) ?_
  refine va_sld hx hb hX hbl hbA hS (vp_in_nI (show i < L by omega) (by omega)) dL_law_29 ?_
  refine lv_bipush (v := 63) hx hb dL_law_30 (by decide) ?_
  refine lv_iand hx hb dL_law_32 ?_
  obtain ⟨j, hj, ej⟩ := pk_andE (xs (nI i).toNatClampNeg) (m := 63) 6 (by decide)
  rw [ej]
  have ht := nI_toInt (n := j) (by omega)
  by_cases h40 : 40 ≤ j
  · refine lv_tableOut hx hb dL_law_33 (Or.inr (by rw [ht]; omega)) (tgt := 1547) (by decide) ?_
    exact kk H locs ω τ t hR S
  · rcases (show j = 0 ∨ j = 1 ∨ j = 2 ∨ j = 3 ∨ j = 4 ∨ j = 5 ∨ j = 6 ∨ j = 7 ∨ j = 8 ∨ j = 9 ∨ j = 10 ∨ j = 11 ∨ j = 12 ∨ j = 13 ∨ j = 14 ∨ j = 15 ∨ j = 16 ∨ j = 17 ∨ j = 18 ∨ j = 19 ∨ j = 20 ∨ j = 21 ∨ j = 22 ∨ j = 23 ∨ j = 24 ∨ j = 25 ∨ j = 26 ∨ j = 27 ∨ j = 28 ∨ j = 29 ∨ j = 30 ∨ j = 31 ∨ j = 32 ∨ j = 33 ∨ j = 34 ∨ j = 35 ∨ j = 36 ∨ j = 37 ∨ j = 38 ∨ j = 39 by omega) with rfl | rfl | rfl | rfl | rfl | rfl | rfl | rfl | rfl | rfl | rfl | rfl | rfl | rfl | rfl | rfl | rfl | rfl | rfl | rfl | rfl | rfl | rfl | rfl | rfl | rfl | rfl | rfl | rfl | rfl | rfl | rfl | rfl | rfl | rfl | rfl | rfl | rfl | rfl | rfl
    · exact lv_tableIn hx hb dL_law_33 (by decide) (by decide) (off := 175) rfl (tgt := 208) (by decide) (L_field C0 F S hR hce hT hl hi hL kk)
    · exact lv_tableIn hx hb dL_law_33 (by decide) (by decide) (off := 198) rfl (tgt := 231) (by decide) (L_track C0 F S hR hce hT hl hi hL kk)
    · exact lv_tableIn hx hb dL_law_33 (by decide) (by decide) (off := 273) rfl (tgt := 306) (by decide) (L_kind C0 F S hR hce hT hl hi hL kk)
    · exact lv_tableIn hx hb dL_law_33 (by decide) (by decide) (off := 306) rfl (tgt := 339) (by decide) (L_vertex C0 F S hR hce hT hl hi hL kk)
    · exact lv_tableIn hx hb dL_law_33 (by decide) (by decide) (off := 359) rfl (tgt := 392) (by decide) (L_drop C0 F S hR hce hT hl hi hL kk)
    · exact lv_tableIn hx hb dL_law_33 (by decide) (by decide) (off := 372) rfl (tgt := 405) (by decide) (L_wipe C0 F S hR hce hT hl hi hL kk)
    · exact lv_tableIn hx hb dL_law_33 (by decide) (by decide) (off := 385) rfl (tgt := 418) (by decide) (L_trackOf C0 F S hR hce hT hl hi hL kk)
    · exact lv_tableIn hx hb dL_law_33 (by decide) (by decide) (off := 418) rfl (tgt := 451) (by decide) (L_bend C0 F S hR hce hT hl hi hL kk)
    · exact lv_tableIn hx hb dL_law_33 (by decide) (by decide) (off := 442) rfl (tgt := 475) (by decide) (L_vertexOf C0 F S hR hce hT hl hi hL kk)
    · exact lv_tableIn hx hb dL_law_33 (by decide) (by decide) (off := 475) rfl (tgt := 508) (by decide) (L_numbers C0 F S hR hce hT hl hi hL kk)
    · exact lv_tableIn hx hb dL_law_33 (by decide) (by decide) (off := 508) rfl (tgt := 541) (by decide) (L_count C0 F S hR hce hT hl hi hL kk)
    · exact lv_tableIn hx hb dL_law_33 (by decide) (by decide) (off := 531) rfl (tgt := 564) (by decide) (L_centre C0 F S hR hce hT hl hi hL kk)
    · exact lv_tableIn hx hb dL_law_33 (by decide) (by decide) (off := 575) rfl (tgt := 608) (by decide) (L_on C0 F S hR hce hT hl hi hL kk)
    · exact lv_tableIn hx hb dL_law_33 (by decide) (by decide) (off := 618) rfl (tgt := 651) (by decide) (L_meets C0 F S hR hce hT hl hi hL kk)
    · exact lv_tableIn hx hb dL_law_33 (by decide) (by decide) (off := 661) rfl (tgt := 694) (by decide) (L_push C0 F S hR hce hT hl hi hL kk)
    · exact lv_tableIn hx hb dL_law_33 (by decide) (by decide) (off := 725) rfl (tgt := 758) (by decide) (L_fits C0 F S hR hce hT hl hi hL kk)
    · exact lv_tableIn hx hb dL_law_33 (by decide) (by decide) (off := 758) rfl (tgt := 791) (by decide) (L_through C0 F S hR hce hT hl hi hL kk)
    · exact lv_tableIn hx hb dL_law_33 (by decide) (by decide) (off := 771) rfl (tgt := 804) (by decide) (L_lost C0 F S hR hce hT hl hi hL kk)
    · exact lv_tableIn hx hb dL_law_33 (by decide) (by decide) (off := 815) rfl (tgt := 848) (by decide) (L_even C0 F S hR hce hT hl hi hL kk)
    · exact lv_tableIn hx hb dL_law_33 (by decide) (by decide) (off := 838) rfl (tgt := 871) (by decide) (L_came C0 F S hR hce hT hl hi hL kk)
    · exact lv_tableIn hx hb dL_law_33 (by decide) (by decide) (off := 861) rfl (tgt := 894) (by decide) (L_spoils C0 F S hR hce hT hl hi hL kk)
    · exact lv_tableIn hx hb dL_law_33 (by decide) (by decide) (off := 884) rfl (tgt := 917) (by decide) (L_holds C0 F S hR hce hT hl hi hL kk)
    · exact lv_tableIn hx hb dL_law_33 (by decide) (by decide) (off := 937) rfl (tgt := 970) (by decide) (L_names C0 F S hR hce hT hl hi hL kk)
    · exact lv_tableIn hx hb dL_law_33 (by decide) (by decide) (off := 990) rfl (tgt := 1023) (by decide) (L_calls C0 F S hR hce hT hl hi hL kk)
    · exact lv_tableIn hx hb dL_law_33 (by decide) (by decide) (off := 1033) rfl (tgt := 1066) (by decide) (L_rest C0 F S hR hce hT hl hi hL kk)
    · exact lv_tableIn hx hb dL_law_33 (by decide) (by decide) (off := 1056) rfl (tgt := 1089) (by decide) (L_energy C0 F S hR hce hT hl hi hL kk)
    · exact lv_tableIn hx hb dL_law_33 (by decide) (by decide) (off := 1110) rfl (tgt := 1143) (by decide) (L_heat C0 F S hR hce hT hl hi hL kk)
    · exact lv_tableIn hx hb dL_law_33 (by decide) (by decide) (off := 1144) rfl (tgt := 1177) (by decide) (L_evens C0 F S hR hce hT hl hi hL kk)
    · exact lv_tableIn hx hb dL_law_33 (by decide) (by decide) (off := 1167) rfl (tgt := 1200) (by decide) (L_feed C0 F S hR hce hT hl hi hL kk)
    · exact lv_tableIn hx hb dL_law_33 (by decide) (by decide) (off := 1190) rfl (tgt := 1223) (by decide) (L_reads C0 F S hR hce hT hl hi hL kk)
    · exact lv_tableIn hx hb dL_law_33 (by decide) (by decide) (off := 1203) rfl (tgt := 1236) (by decide) (L_prints C0 F S hR hce hT hl hi hL kk)
    · exact lv_tableIn hx hb dL_law_33 (by decide) (by decide) (off := 1226) rfl (tgt := 1259) (by decide) (L_paper C0 F S hR hce hT hl hi hL kk)
    · exact lv_tableIn hx hb dL_law_33 (by decide) (by decide) (off := 1249) rfl (tgt := 1282) (by decide) (L_list C0 F S hR hce hT hl hi hL kk)
    · exact lv_tableIn hx hb dL_law_33 (by decide) (by decide) (off := 1282) rfl (tgt := 1315) (by decide) (L_set C0 F S hR hce hT hl hi hL kk)
    · exact lv_tableIn hx hb dL_law_33 (by decide) (by decide) (off := 1355) rfl (tgt := 1388) (by decide) (L_get C0 F S hR hce hT hl hi hL kk)
    · exact lv_tableIn hx hb dL_law_33 (by decide) (by decide) (off := 1389) rfl (tgt := 1422) (by decide) (L_into C0 F S hR hce hT hl hi hL kk)
    · exact lv_tableIn hx hb dL_law_33 (by decide) (by decide) (off := 1432) rfl (tgt := 1465) (by decide) (L_judge C0 F S hR hce hT hl hi hL kk)
    · exact lv_tableIn hx hb dL_law_33 (by decide) (by decide) (off := 1475) rfl (tgt := 1508) (by decide) (L_undo C0 F S hR hce hT hl hi hL kk)
    · exact lv_tableIn hx hb dL_law_33 (by decide) (by decide) (off := 1488) rfl (tgt := 1521) (by decide) (L_image C0 F S hR hce hT hl hi hL kk)
    · exact lv_tableIn hx hb dL_law_33 (by decide) (by decide) (off := 1501) rfl (tgt := 1534) (by decide) (L_back C0 F S hR hce hT hl hi hL kk)
theorem l_loop (C0 : lw_At p s m meth c b L xs) (F : l_F s D cs aX aM) (hL : L ≤ 3584) : ∀ (n i : Nat) (la : Array Slot) (H : Heap) (locs : List Loc) (ω τ t : q_S), L ≤ i + n → i ≤ 3591 → lv_has la 4 (l_ls b (aX 0) (aM 0) i) → Rel ω τ → l_S s D cs aX aM H locs ω (ovM τ t) → W p l e room_1 s m #[Value.ref b] below meth c H locs 600000 7302250 (lw_Z below #[Value.ref b] s) (F0 m 18 la []) := by
  obtain ⟨hx, hb, hr, hml, hown, hts, hX, hbl, hlocks, hgv⟩ := id C0
  have hbA : ¬ l_new s b := Nat.not_le.mpr hbl
  intro n
  induction n with
  | zero =>
    intro i la H locs ω τ t hn hi hl hR S
    refine lv_iload_n hx hb dL_law_18 rfl (lv_at hl 0 rfl) ?_
    refine lv_aload_n hx hb dL_law_19 rfl (lv_at hl 1 rfl) ?_
    refine va_slen hx hb hX hbl hbA S.2.2.1 dL_law_20 ?_
    refine lv_bipush (v := nI 7) hx hb dL_law_21 (by decide) ?_
    refine lv_isub hx hb dL_law_23 ?_
    have e1 : (Int32.ofNat L - nI 7).toInt = (L : Int) - 7 := pk_sub_toInt (a := L) (b := 7) (by omega) (by decide)
    have e2 := nI_toInt (n := i) (by omega)
    refine lv_icmp_gt (tgt := 1553) hx hb dL_law_24 (by decide) (fun _ => ?_) (fun h => absurd (Int32.lt_iff_toInt_lt.mpr (by rw [e1, e2]; omega)) h)
    refine va_forget (fun q hq => S.2.2.1.2.2 q hq) ?_
    refine lv_iconst (v := 1) hx hb dL_law_1553 (by decide) ?_
    exact lw_ret hx hb hr hlocks dL_law_1554
  | succ n ih =>
    intro i la H locs ω τ t hn hi hl hR S
    refine lv_iload_n hx hb dL_law_18 rfl (lv_at hl 0 rfl) ?_
    refine lv_aload_n hx hb dL_law_19 rfl (lv_at hl 1 rfl) ?_
    refine va_slen hx hb hX hbl hbA S.2.2.1 dL_law_20 ?_
    refine lv_bipush (v := nI 7) hx hb dL_law_21 (by decide) ?_
    refine lv_isub hx hb dL_law_23 ?_
    have e1 : (Int32.ofNat L - nI 7).toInt = (L : Int) - 7 := pk_sub_toInt (a := L) (b := 7) (by omega) (by decide)
    have e2 := nI_toInt (n := i) (by omega)
    refine lv_icmp_gt (tgt := 1553) hx hb dL_law_24 (by decide) (fun _ => ?_) (fun h => ?_)
    · refine va_forget (fun q hq => S.2.2.1.2.2 q hq) ?_
      refine lv_iconst (v := 1) hx hb dL_law_1553 (by decide) ?_
      exact lw_ret hx hb hr hlocks dL_law_1554
    · have h7 : i + 7 ≤ L := by
        rcases Nat.lt_or_ge L (i + 7) with z | z
        · exact absurd (Int32.lt_iff_toInt_lt.mpr (by rw [e1, e2]; omega)) h
        · exact z
      obtain ⟨ω', τ', hR2, hce, hT, rX, rM, pX, pM2⟩ := l_nrm hR S.2.2.2.1 S.2.2.2.2 S.1 S.2.1
      refine l_head C0 F ⟨pX, pM2, S.2.2.1, rX, rM⟩ hR2 hce hT hl h7 hL (fun H2 locs2 ω2 τ2 t2 hR3 S3 => ?_)
      refine lv_iinc (v := nI (i + 7)) (lv' := l_ls b (aX 0) (aM 0) (i + 7)) hx hb dL_law_1547 hl (k := 0) rfl (by rw [← nI_add]; rfl) (by decide) rfl (fun la2 hl2 => ?_)
      refine lv_goto (tgt := 18) hx hb dL_law_1550 (by decide) ?_
      exact ih (i + 7) la2 H2 locs2 ω2 τ2 t2 (by omega) (by omega) hl2 hR3 S3
end LW
