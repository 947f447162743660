theorem tm_frame {s s2 : q_S} {p w : Int} {rd : Int → Int} (h : ∀ c x : Int, ¬ (c = 0 ∧ 10 ≤ x ∧ x ≤ 14) → s2 c x = tm s p w rd c x) : ∃ s3, s2 = tm s3 p w rd ∧ ∀ x : Int, s3 16 x = s 16 x := by
  refine ⟨s2, ?_, fun x => (h 16 x (by omega)).trans (tm_o (by omega))⟩
  have e1 : s2 0 29 = p := (h 0 29 (by omega)).trans tm_p
  have e2 : s2 0 30 = w := (h 0 30 (by omega)).trans tm_w
  have e3 : s2 15 = rd := funext fun x => (h 15 x (by omega)).trans (congrFun tm_r x)
  have e := @tm_id s2
  rw [e1, e2, e3] at e
  exact e
set_option maxRecDepth 100000 in
theorem zX8_isDone (c : Int) (σ s : q_S) (p : Int) (rd : Int → Int) (hI : IM σ) (hc : c = 102 ∨ c = 107 ∨ c = 116 ∨ c = 118) (hr : c = 102 → 0 ≤ rd 0 ∧ rd 0 ≤ 9) : q_Ct mX8_isDone shM [.inr (.inr 0), .inl c] (ovM σ (tm s p 0 rd)) (fun r σ' => ∃ z, r = some z ∧ (((doP c rd (pM (σ 1))).1 < 0 ∧ z = .inl 0 ∧ ∃ s', σ' = ovM σ (tm s' p 0 rd) ∧ ∀ x : Int, s' 16 x = s 16 x) ∨ (0 ≤ (doP c rd (pM (σ 1))).1 ∧ z = .inl 1 ∧ ∃ σ1 s', σ' = ovM σ1 (tm s' p 0 rd) ∧ (∀ x : Int, s' 16 x = s 16 x) ∧ (∀ c' : Int, c' ≠ 1 → σ1 c' = σ c') ∧ pE (pM (σ1 1)) (doP c rd (pM (σ 1))).2 ∧ KR (σ1 1)))) := by
  refine q_ct 0 (by decide) rfl rfl ?_
  show q_WP mX8_isDone shM 0 [some (.inr (.inr 0)), some (.inl c)] [] (ovM σ (tm s p 0 rd)) _
  have hn := hI.nt
  have hvv := hI.nv
  have h11 : pM (σ 1) 1 1 = σ 1 1 := rfl
  have h12 : pM (σ 1) 1 2 = σ 1 2 := rfl
  have hT := @oT_1 (rd 0) (rd 1) (rd 2) (rd 3) (rd 4) (rd 5) (pM (σ 1)) (by omega)
  have hK := @oK_c (rd 0) (rd 1) (pM (σ 1)) (fun j a b => (hI.kd ⟨a, b⟩).1)
  have hV := @oV_c (rd 0) (rd 1) (rd 2) (rd 3) (pM (σ 1))
  refine q_iload_n (n := 1) dX8_isDone_0 rfl rfl ?_
  refine q_bipush (n := 3) dX8_isDone_1 rfl (k := ?_)
  refine q_icmp_ne (n := 6) (t := 31) dX8_isDone_3 rfl (by decide) (fun h3 => ?_) (fun h3 => ?_)
  · skip
    refine q_iload_n (n := 32) dX8_isDone_31 rfl rfl ?_
    refine q_bipush (n := 34) dX8_isDone_32 rfl (k := ?_)
    refine q_icmp_ne (n := 37) (t := 124) dX8_isDone_34 rfl (by decide) (fun h34 => ?_) (fun h34 => ?_)
    · skip
      refine q_iload_n (n := 125) dX8_isDone_124 rfl rfl ?_
      refine q_bipush (n := 127) dX8_isDone_125 rfl (k := ?_)
      refine q_icmp_ne (n := 130) (t := 173) dX8_isDone_127 rfl (by decide) (fun h127 => ?_) (fun h127 => ?_)
      · have ed : doP c rd (pM (σ 1)) = oV (rd 0) (rd 1) (rd 2) (rd 3) (pM (σ 1)) := by
          unfold doP
          rw [if_neg h3, if_neg h127, if_neg h34]
        refine q_aload_n (n := 174) dX8_isDone_173 rfl rfl ?_
        refine q_aload_n (n := 175) dX8_isDone_174 rfl rfl ?_
        refine q_getR (n := 178) dX8_isDone_175 rfl fX8_66 mi0 rfl ?_
        refine q_iconst (n := 179) dX8_isDone_178 rfl (k := ?_)
        refine q_ialoadE (rd 0) (n := 180) dX8_isDone_179 rfl mi15 ⟨by omega, by omega⟩ om_tr ?_
        refine q_aload_n (n := 181) dX8_isDone_180 rfl rfl ?_
        refine q_getR (n := 184) dX8_isDone_181 rfl fX8_66 mi0 rfl ?_
        refine q_iconst (n := 185) dX8_isDone_184 rfl (k := ?_)
        refine q_ialoadE (rd 1) (n := 186) dX8_isDone_185 rfl mi15 ⟨by omega, by omega⟩ om_tr ?_
        refine q_aload_n (n := 187) dX8_isDone_186 rfl rfl ?_
        refine q_getR (n := 190) dX8_isDone_187 rfl fX8_66 mi0 rfl ?_
        refine q_iconst (n := 191) dX8_isDone_190 rfl (k := ?_)
        refine q_ialoadE (rd 2) (n := 192) dX8_isDone_191 rfl mi15 ⟨by omega, by omega⟩ om_tr ?_
        refine q_aload_n (n := 193) dX8_isDone_192 rfl rfl ?_
        refine q_getR (n := 196) dX8_isDone_193 rfl fX8_66 mi0 rfl ?_
        refine q_iconst (n := 197) dX8_isDone_196 rfl (k := ?_)
        refine q_ialoadE (rd 3) (n := 198) dX8_isDone_197 rfl mi15 ⟨by omega, by omega⟩ om_tr ?_
        refine q_v4 (n := 201) dX8_isDone_198 rfl (zX8_vertexRefusal (rd 0) (rd 1) (rd 2) (rd 3) σ _ hI) vX8_vertexRefusal lX8_177 rfl rfl mi0 rfl (fun v198 σ198 h198 => ?_)
        obtain ⟨rfl, s2, rfl, hfr⟩ := h198
        obtain ⟨s3, rfl, h16⟩ := tm_frame hfr
        · skip
          refine q_if_eq (n := 204) (t := 206) dX8_isDone_201 rfl (by decide) (fun h201 => ?_) (fun h201 => ?_)
          · have hp : 0 ≤ (oV (rd 0) (rd 1) (rd 2) (rd 3) (pM (σ 1))).1 := by
              by_cases z : 0 ≤ (oV (rd 0) (rd 1) (rd 2) (rd 3) (pM (σ 1))).1
              · exact z
              · rw [if_neg z] at h201
                omega
            have hk : pM (σ 1) 1 2 ≠ 4 ∧ oV (rd 0) (rd 1) (rd 2) (rd 3) (pM (σ 1)) = (pM (σ 1) 1 2, newV (rd 0) (rd 1) (rd 2) (rd 3) (pM (σ 1))) := by
              rcases hV with ⟨c1, c2⟩ | ⟨c1, c2, c3⟩ | ⟨c1, c2, c3, c4⟩ | ⟨c1, c2, c3, c4⟩
              · rw [c2] at hp
                exact absurd hp (by show ¬ (0 : Int) ≤ -1; decide)
              · rw [c3] at hp
                exact absurd hp (by show ¬ (0 : Int) ≤ -5; decide)
              · rw [c4] at hp
                exact absurd hp (by show ¬ (0 : Int) ≤ -3; decide)
              · exact ⟨c3, c4⟩
            refine q_aload_n (n := 207) dX8_isDone_206 rfl rfl ?_
            refine q_aload_n (n := 208) dX8_isDone_207 rfl rfl ?_
            refine q_getR (n := 211) dX8_isDone_208 rfl fX8_66 mi0 rfl ?_
            refine q_iconst (n := 212) dX8_isDone_211 rfl (k := ?_)
            refine q_ialoadE (rd 0) (n := 213) dX8_isDone_212 rfl mi15 ⟨by omega, by omega⟩ om_tr ?_
            refine q_aload_n (n := 214) dX8_isDone_213 rfl rfl ?_
            refine q_getR (n := 217) dX8_isDone_214 rfl fX8_66 mi0 rfl ?_
            refine q_iconst (n := 218) dX8_isDone_217 rfl (k := ?_)
            refine q_ialoadE (rd 1) (n := 219) dX8_isDone_218 rfl mi15 ⟨by omega, by omega⟩ om_tr ?_
            refine q_aload_n (n := 220) dX8_isDone_219 rfl rfl ?_
            refine q_getR (n := 223) dX8_isDone_220 rfl fX8_66 mi0 rfl ?_
            refine q_iconst (n := 224) dX8_isDone_223 rfl (k := ?_)
            refine q_ialoadE (rd 2) (n := 225) dX8_isDone_224 rfl mi15 ⟨by omega, by omega⟩ om_tr ?_
            refine q_aload_n (n := 226) dX8_isDone_225 rfl rfl ?_
            refine q_getR (n := 229) dX8_isDone_226 rfl fX8_66 mi0 rfl ?_
            refine q_iconst (n := 230) dX8_isDone_229 rfl (k := ?_)
            refine q_ialoadE (rd 3) (n := 231) dX8_isDone_230 rfl mi15 ⟨by omega, by omega⟩ om_tr ?_
            refine q_v4U (n := 234) dX8_isDone_231 rfl (zX8_vertexComes (rd 0) (rd 1) (rd 2) (rd 3) σ _ ⟨by omega, by omega⟩) vX8_vertexComes lX8_181 rfl rfl mi0 rfl ?_
            refine q_iconst (n := 235) dX8_isDone_234 rfl (k := ?_)
            refine q_iret dX8_isDone_235 rfl (fun _ => rfl) ?_
            refine ⟨_, rfl, Or.inr ⟨by rw [ed]; exact hp, rfl, _, _, rfl, h16, fun c hc => ?_, ?_, ?_⟩⟩
            · unfold vcM
              rw [q_up_o hc, q_up_o hc, q_up_o hc, q_up_o hc, q_up_o hc]
            · rw [ed, hk.2]
              exact vcM_pE ⟨by omega, by omega⟩
            · exact vcM_KR ⟨by omega, by omega⟩ (by omega) hI.2.1
          · have hp : ¬ 0 ≤ (oV (rd 0) (rd 1) (rd 2) (rd 3) (pM (σ 1))).1 := fun z => h201 (if_pos z)
            refine q_iconst (n := 205) dX8_isDone_204 rfl (k := ?_)
            refine q_iret dX8_isDone_205 rfl (fun _ => rfl) ?_
            first
              | exact ⟨_, rfl, Or.inl ⟨by rw [ed]; omega, rfl, _, rfl, h16⟩⟩
              | exact ⟨_, rfl, Or.inl ⟨by rw [ed]; omega, rfl, _, rfl, fun _ => rfl⟩⟩
      · have ed : doP c rd (pM (σ 1)) = oK (rd 0) (rd 1) (pM (σ 1)) := by
          unfold doP
          rw [if_neg h3, if_pos h127]
        refine q_aload_n (n := 131) dX8_isDone_130 rfl rfl ?_
        refine q_aload_n (n := 132) dX8_isDone_131 rfl rfl ?_
        refine q_getR (n := 135) dX8_isDone_132 rfl fX8_66 mi0 rfl ?_
        refine q_iconst (n := 136) dX8_isDone_135 rfl (k := ?_)
        refine q_ialoadE (rd 0) (n := 137) dX8_isDone_136 rfl mi15 ⟨by omega, by omega⟩ om_tr ?_
        refine q_aload_n (n := 138) dX8_isDone_137 rfl rfl ?_
        refine q_getR (n := 141) dX8_isDone_138 rfl fX8_66 mi0 rfl ?_
        refine q_iconst (n := 142) dX8_isDone_141 rfl (k := ?_)
        refine q_ialoadE (rd 1) (n := 143) dX8_isDone_142 rfl mi15 ⟨by omega, by omega⟩ om_tr ?_
        refine q_v2D (n := 146) dX8_isDone_143 rfl (zX8_kindRefusal (rd 0) (rd 1) σ _ hI) vX8_kindRefusal lX8_161 rfl rfl mi0 rfl ?_
        refine q_if_eq (n := 149) (t := 151) dX8_isDone_146 rfl (by decide) (fun h146 => ?_) (fun h146 => ?_)
        · have hp : 0 ≤ (oK (rd 0) (rd 1) (pM (σ 1))).1 := by
            by_cases z : 0 ≤ (oK (rd 0) (rd 1) (pM (σ 1))).1
            · exact z
            · rw [if_neg z] at h146
              omega
          have hk : ((0 ≤ rd 0 ∧ rd 0 < pM (σ 1) 1 1) ∧ (rd 1 = -1 ∨ 0 ≤ rd 1 ∧ rd 1 < 12)) ∧ oK (rd 0) (rd 1) (pM (σ 1)) = (pM (σ 1) 3 (rd 0), q_up (pM (σ 1)) 3 (rd 0) (if rd 1 = -1 then 12 else rd 1)) := by
            rcases hK with ⟨c1, c2⟩ | ⟨c1, c2, c3⟩ | ⟨c1, c2, c3, c4⟩
            · rw [c2] at hp
              exact absurd hp (by show ¬ (0 : Int) ≤ -1; decide)
            · rw [c3] at hp
              exact absurd hp (by show ¬ (0 : Int) ≤ -5; decide)
            · exact ⟨c1, c3⟩
          refine q_aload_n (n := 152) dX8_isDone_151 rfl rfl ?_
          refine q_getR (n := 155) dX8_isDone_152 rfl fX8_23 mi0 rfl ?_
          refine q_bipush (n := 157) dX8_isDone_155 rfl (k := ?_)
          refine q_aload_n (n := 158) dX8_isDone_157 rfl rfl ?_
          refine q_getR (n := 161) dX8_isDone_158 rfl fX8_66 mi0 rfl ?_
          refine q_iconst (n := 162) dX8_isDone_161 rfl (k := ?_)
          refine q_ialoadE (rd 0) (n := 163) dX8_isDone_162 rfl mi15 ⟨by omega, by omega⟩ om_tr ?_
          refine q_iaddS (n := 164) dX8_isDone_163 rfl ⟨by omega, by omega⟩ ?_
          refine q_aload_n (n := 165) dX8_isDone_164 rfl rfl ?_
          refine q_getR (n := 168) dX8_isDone_165 rfl fX8_66 mi0 rfl ?_
          refine q_iconst (n := 169) dX8_isDone_168 rfl (k := ?_)
          refine q_ialoadE (rd 1) (n := 170) dX8_isDone_169 rfl mi15 ⟨by omega, by omega⟩ om_tr ?_
          refine q_iastore (n := 171) dX8_isDone_170 rfl mi1 ⟨by omega, by omega⟩ ?_
          rw [om_upn rfl]
          refine q_iconst (n := 172) dX8_isDone_171 rfl (k := ?_)
          refine q_iret dX8_isDone_172 rfl (fun _ => rfl) ?_
          refine ⟨_, rfl, Or.inr ⟨by rw [ed]; exact hp, rfl, _, _, rfl, fun _ => rfl, fun c hc => q_up_o hc, ?_, ?_⟩⟩
          · rw [ed, hk.2, up_fn]
            exact kc_pE ⟨by omega, by omega⟩
          · intro t' t0 t1
            rw [up_fn] at t1 ⊢
            have e1 : ¬ (1 : Int) = 51 + rd 0 := by omega
            dsimp only at t1 ⊢
            rw [if_neg e1] at t1
            by_cases e : 51 + t' = 51 + rd 0
            · rw [if_pos e]
              omega
            · rw [if_neg e]
              exact hI.2.1 t' t0 t1
        · have hp : ¬ 0 ≤ (oK (rd 0) (rd 1) (pM (σ 1))).1 := fun z => h146 (if_pos z)
          refine q_iconst (n := 150) dX8_isDone_149 rfl (k := ?_)
          refine q_iret dX8_isDone_150 rfl (fun _ => rfl) ?_
          first
            | exact ⟨_, rfl, Or.inl ⟨by rw [ed]; omega, rfl, _, rfl, h16⟩⟩
            | exact ⟨_, rfl, Or.inl ⟨by rw [ed]; omega, rfl, _, rfl, fun _ => rfl⟩⟩
    · have ed : doP c rd (pM (σ 1)) = oT (rd 0) (rd 1) (rd 2) (rd 3) (rd 4) (rd 5) (pM (σ 1)) := by
        unfold doP
        rw [if_neg h3, if_neg (by omega), if_pos h34]
      refine q_aload_n (n := 38) dX8_isDone_37 rfl rfl ?_
      refine q_aload_n (n := 39) dX8_isDone_38 rfl rfl ?_
      refine q_getR (n := 42) dX8_isDone_39 rfl fX8_66 mi0 rfl ?_
      refine q_iconst (n := 43) dX8_isDone_42 rfl (k := ?_)
      refine q_ialoadE (rd 0) (n := 44) dX8_isDone_43 rfl mi15 ⟨by omega, by omega⟩ om_tr ?_
      refine q_aload_n (n := 45) dX8_isDone_44 rfl rfl ?_
      refine q_getR (n := 48) dX8_isDone_45 rfl fX8_66 mi0 rfl ?_
      refine q_iconst (n := 49) dX8_isDone_48 rfl (k := ?_)
      refine q_ialoadE (rd 1) (n := 50) dX8_isDone_49 rfl mi15 ⟨by omega, by omega⟩ om_tr ?_
      refine q_aload_n (n := 51) dX8_isDone_50 rfl rfl ?_
      refine q_getR (n := 54) dX8_isDone_51 rfl fX8_66 mi0 rfl ?_
      refine q_iconst (n := 55) dX8_isDone_54 rfl (k := ?_)
      refine q_ialoadE (rd 2) (n := 56) dX8_isDone_55 rfl mi15 ⟨by omega, by omega⟩ om_tr ?_
      refine q_aload_n (n := 57) dX8_isDone_56 rfl rfl ?_
      refine q_getR (n := 60) dX8_isDone_57 rfl fX8_66 mi0 rfl ?_
      refine q_iconst (n := 61) dX8_isDone_60 rfl (k := ?_)
      refine q_ialoadE (rd 3) (n := 62) dX8_isDone_61 rfl mi15 ⟨by omega, by omega⟩ om_tr ?_
      refine q_aload_n (n := 63) dX8_isDone_62 rfl rfl ?_
      refine q_getR (n := 66) dX8_isDone_63 rfl fX8_66 mi0 rfl ?_
      refine q_iconst (n := 67) dX8_isDone_66 rfl (k := ?_)
      refine q_ialoadE (rd 4) (n := 68) dX8_isDone_67 rfl mi15 ⟨by omega, by omega⟩ om_tr ?_
      refine q_aload_n (n := 69) dX8_isDone_68 rfl rfl ?_
      refine q_getR (n := 72) dX8_isDone_69 rfl fX8_66 mi0 rfl ?_
      refine q_iconst (n := 73) dX8_isDone_72 rfl (k := ?_)
      refine q_ialoadE (rd 5) (n := 74) dX8_isDone_73 rfl mi15 ⟨by omega, by omega⟩ om_tr ?_
      refine q_v6D (n := 77) dX8_isDone_74 rfl (zX8_trackRefusal (rd 0) (rd 1) (rd 2) (rd 3) (rd 4) (rd 5) σ _ hI) vX8_trackRefusal lX8_148 rfl rfl mi0 rfl ?_
      refine q_if_eq (n := 80) (t := 82) dX8_isDone_77 rfl (by decide) (fun h77 => ?_) (fun h77 => ?_)
      · have hp : 0 ≤ (oT (rd 0) (rd 1) (rd 2) (rd 3) (rd 4) (rd 5) (pM (σ 1))).1 := by
          by_cases z : 0 ≤ (oT (rd 0) (rd 1) (rd 2) (rd 3) (rd 4) (rd 5) (pM (σ 1))).1
          · exact z
          · rw [if_neg z] at h77
            omega
        obtain ⟨g1, g2, g3⟩ := hT.mp hp
        have eo := oT_2 (τ := pM (σ 1)) g1 g2 g3
        refine q_aload_n (n := 83) dX8_isDone_82 rfl rfl ?_
        refine q_aload_n (n := 84) dX8_isDone_83 rfl rfl ?_
        refine q_getR (n := 87) dX8_isDone_84 rfl fX8_66 mi0 rfl ?_
        refine q_iconst (n := 88) dX8_isDone_87 rfl (k := ?_)
        refine q_ialoadE (rd 0) (n := 89) dX8_isDone_88 rfl mi15 ⟨by omega, by omega⟩ om_tr ?_
        refine q_aload_n (n := 90) dX8_isDone_89 rfl rfl ?_
        refine q_getR (n := 93) dX8_isDone_90 rfl fX8_66 mi0 rfl ?_
        refine q_iconst (n := 94) dX8_isDone_93 rfl (k := ?_)
        refine q_ialoadE (rd 1) (n := 95) dX8_isDone_94 rfl mi15 ⟨by omega, by omega⟩ om_tr ?_
        refine q_aload_n (n := 96) dX8_isDone_95 rfl rfl ?_
        refine q_getR (n := 99) dX8_isDone_96 rfl fX8_66 mi0 rfl ?_
        refine q_iconst (n := 100) dX8_isDone_99 rfl (k := ?_)
        refine q_ialoadE (rd 2) (n := 101) dX8_isDone_100 rfl mi15 ⟨by omega, by omega⟩ om_tr ?_
        refine q_aload_n (n := 102) dX8_isDone_101 rfl rfl ?_
        refine q_getR (n := 105) dX8_isDone_102 rfl fX8_66 mi0 rfl ?_
        refine q_iconst (n := 106) dX8_isDone_105 rfl (k := ?_)
        refine q_ialoadE (rd 3) (n := 107) dX8_isDone_106 rfl mi15 ⟨by omega, by omega⟩ om_tr ?_
        refine q_aload_n (n := 108) dX8_isDone_107 rfl rfl ?_
        refine q_getR (n := 111) dX8_isDone_108 rfl fX8_66 mi0 rfl ?_
        refine q_iconst (n := 112) dX8_isDone_111 rfl (k := ?_)
        refine q_ialoadE (rd 4) (n := 113) dX8_isDone_112 rfl mi15 ⟨by omega, by omega⟩ om_tr ?_
        refine q_aload_n (n := 114) dX8_isDone_113 rfl rfl ?_
        refine q_getR (n := 117) dX8_isDone_114 rfl fX8_66 mi0 rfl ?_
        refine q_iconst (n := 118) dX8_isDone_117 rfl (k := ?_)
        refine q_ialoadE (rd 5) (n := 119) dX8_isDone_118 rfl mi15 ⟨by omega, by omega⟩ om_tr ?_
        refine q_v6U (n := 122) dX8_isDone_119 rfl (zX8_trackComes (rd 0) (rd 1) (rd 2) (rd 3) (rd 4) (rd 5) σ _ ⟨by omega, by omega⟩) vX8_trackComes lX8_152 rfl rfl mi0 rfl ?_
        refine q_iconst (n := 123) dX8_isDone_122 rfl (k := ?_)
        refine q_iret dX8_isDone_123 rfl (fun _ => rfl) ?_
        refine ⟨_, rfl, Or.inr ⟨by rw [ed]; exact hp, rfl, _, _, rfl, fun _ => rfl, fun c hc => ?_, ?_, ?_⟩⟩
        · unfold tcM
          rw [q_up_o hc, q_up_o hc, q_up_o hc, q_up_o hc, q_up_o hc, q_up_o hc, q_up_o hc, q_up_o hc]
        · rw [ed, eo]
          exact tcM_pE ⟨by omega, by omega⟩
        · exact tcM_KR ⟨by omega, by omega⟩ hI.2.1
      · have hp : ¬ 0 ≤ (oT (rd 0) (rd 1) (rd 2) (rd 3) (rd 4) (rd 5) (pM (σ 1))).1 := fun z => h77 (if_pos z)
        refine q_iconst (n := 81) dX8_isDone_80 rfl (k := ?_)
        refine q_iret dX8_isDone_81 rfl (fun _ => rfl) ?_
        first
          | exact ⟨_, rfl, Or.inl ⟨by rw [ed]; omega, rfl, _, rfl, h16⟩⟩
          | exact ⟨_, rfl, Or.inl ⟨by rw [ed]; omega, rfl, _, rfl, fun _ => rfl⟩⟩
  · have ed : doP c rd (pM (σ 1)) = oF (rd 0) (pM (σ 1)) := if_pos h3
    have hr := hr h3
    refine q_aload_n (n := 7) dX8_isDone_6 rfl rfl ?_
    refine q_getR (n := 10) dX8_isDone_7 rfl fX8_66 mi0 rfl ?_
    refine q_iconst (n := 11) dX8_isDone_10 rfl (k := ?_)
    refine q_ialoadE (rd 0) (n := 12) dX8_isDone_11 rfl mi15 ⟨by omega, by omega⟩ om_tr ?_
    refine q_if_ne (n := 15) (t := 17) dX8_isDone_12 rfl (by decide) (fun h12 => ?_) (fun h12 => ?_)
    · have eo : oF (rd 0) (pM (σ 1)) = (σ 1 0, q_up (pM (σ 1)) 1 0 (rd 0)) := if_pos (by omega)
      refine q_aload_n (n := 18) dX8_isDone_17 rfl rfl ?_
      refine q_getR (n := 21) dX8_isDone_18 rfl fX8_23 mi0 rfl ?_
      refine q_iconst (n := 22) dX8_isDone_21 rfl (k := ?_)
      refine q_aload_n (n := 23) dX8_isDone_22 rfl rfl ?_
      refine q_getR (n := 26) dX8_isDone_23 rfl fX8_66 mi0 rfl ?_
      refine q_iconst (n := 27) dX8_isDone_26 rfl (k := ?_)
      refine q_ialoadE (rd 0) (n := 28) dX8_isDone_27 rfl mi15 ⟨by omega, by omega⟩ om_tr ?_
      refine q_iastore (n := 29) dX8_isDone_28 rfl mi1 ⟨by omega, by omega⟩ ?_
      rw [om_upn rfl]
      refine q_iconst (n := 30) dX8_isDone_29 rfl (k := ?_)
      refine q_iret dX8_isDone_30 rfl (fun _ => rfl) ?_
      refine ⟨_, rfl, Or.inr ⟨?_, rfl, _, _, rfl, fun _ => rfl, fun c hc => q_up_o hc, ?_, ?_⟩⟩
      · rw [ed, eo]
        show 0 ≤ σ 1 0
        have := hI.fd
        omega
      · rw [ed, eo, up_fn]
        exact c1_pE ⟨by decide, by decide⟩
      · rw [up_fn]
        exact KR_c1 hI.2.1 ⟨by decide, by decide⟩ (fun z => absurd z (by decide))
    · have eo : oF (rd 0) (pM (σ 1)) = (-1, pM (σ 1)) := if_neg (by omega)
      refine q_iconst (n := 16) dX8_isDone_15 rfl (k := ?_)
      refine q_iret dX8_isDone_16 rfl (fun _ => rfl) ?_
      exact ⟨_, rfl, Or.inl ⟨by rw [ed, eo]; show (-1 : Int) < 0; decide, rfl, _, rfl, fun _ => rfl⟩⟩
