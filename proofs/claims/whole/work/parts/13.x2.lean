set_option maxRecDepth 100000 in
theorem zX0_lay (c k : Int) (σ : q_S) (hc : q_is shX c (.inl (0, [.inl 1, .inl 1, .inl 1, .inl 1]))) (hk : 0 ≤ k ∧ k ≤ 42) (hg : lG (σ 2) k) : q_Ct mX0_lay shX [.inr (.inr c), .inr (.inr 2), .inl k] σ (fun r σ' => r = none ∧ σ' = q_lay σ c (lB (σ 2) k) (lA (σ 2) k) (lU (σ 2) k) (lO (σ 2) k)) := by
  refine q_ct 16 (by decide) rfl rfl ?_
  show q_WP mX0_lay shX 0 [some (.inr (.inr c)), some (.inr (.inr 2)), some (.inl k), none, none, none, none, none, none, none, none, none, none, none, none, none, none, none, none] [] σ _
  refine q_aload_n (n := 1) dX0_lay_0 rfl rfl ?_
  refine q_iload_n (n := 2) dX0_lay_1 rfl rfl ?_
  refine q_iaload (n := 3) dX0_lay_2 rfl xi2 ⟨by omega, by omega⟩ ?_
  have b1_ := hg.1
  refine q_i2l (n := 4) dX0_lay_3 rfl ?_
  refine q_lstore_n (n := 5) dX0_lay_4 rfl (by decide) (q_s2_s (q_s2_s (q_s2_1 rfl))) ?_
  refine q_aload_n (n := 6) dX0_lay_5 rfl rfl ?_
  refine q_iload_n (n := 7) dX0_lay_6 rfl rfl ?_
  refine q_iconst (n := 8) dX0_lay_7 rfl (k := ?_)
  refine q_iaddS (n := 9) dX0_lay_8 rfl ⟨by omega, by omega⟩ ?_
  refine q_iaload (n := 10) dX0_lay_9 rfl xi2 ⟨by omega, by omega⟩ ?_
  have b2_ := hg.2.1
  refine q_i2l (n := 11) dX0_lay_10 rfl ?_
  refine q_lstore (n := 13) dX0_lay_11 rfl (by decide) (q_s2_s (q_s2_s (q_s2_s (q_s2_s (q_s2_1 rfl))))) ?_
  refine q_aload_n (n := 14) dX0_lay_13 rfl rfl ?_
  refine q_iload_n (n := 15) dX0_lay_14 rfl rfl ?_
  refine q_iconst (n := 16) dX0_lay_15 rfl (k := ?_)
  refine q_iaddS (n := 17) dX0_lay_16 rfl ⟨by omega, by omega⟩ ?_
  refine q_iaload (n := 18) dX0_lay_17 rfl xi2 ⟨by omega, by omega⟩ ?_
  have b3_ := hg.2.2.1
  refine q_i2l (n := 19) dX0_lay_18 rfl ?_
  refine q_lload_n (n := 20) dX0_lay_19 rfl rfl ?_
  have b4_ := bd_sub (C := 40) b3_ b1_ (by decide)
  refine q_lsubS (n := 21) dX0_lay_20 rfl (bd_64 b4_ (by decide)) ?_
  refine q_lstore (n := 23) dX0_lay_21 rfl (by decide) (q_s2_s (q_s2_s (q_s2_s (q_s2_s (q_s2_s (q_s2_s (q_s2_1 rfl))))))) ?_
  refine q_aload_n (n := 24) dX0_lay_23 rfl rfl ?_
  refine q_iload_n (n := 25) dX0_lay_24 rfl rfl ?_
  refine q_iconst (n := 26) dX0_lay_25 rfl (k := ?_)
  refine q_iaddS (n := 27) dX0_lay_26 rfl ⟨by omega, by omega⟩ ?_
  refine q_iaload (n := 28) dX0_lay_27 rfl xi2 ⟨by omega, by omega⟩ ?_
  have b5_ := hg.2.2.2.1
  refine q_i2l (n := 29) dX0_lay_28 rfl ?_
  refine q_lload (n := 31) dX0_lay_29 rfl rfl ?_
  have b6_ := bd_sub (C := 40) b5_ b2_ (by decide)
  refine q_lsubS (n := 32) dX0_lay_31 rfl (bd_64 b6_ (by decide)) ?_
  refine q_lstore (n := 34) dX0_lay_32 rfl (by decide) (q_s2_s (q_s2_s (q_s2_s (q_s2_s (q_s2_s (q_s2_s (q_s2_s (q_s2_s (q_s2_1 rfl))))))))) ?_
  refine q_aload_n (n := 35) dX0_lay_34 rfl rfl ?_
  refine q_iload_n (n := 36) dX0_lay_35 rfl rfl ?_
  refine q_iconst (n := 37) dX0_lay_36 rfl (k := ?_)
  refine q_iaddS (n := 38) dX0_lay_37 rfl ⟨by omega, by omega⟩ ?_
  refine q_iaload (n := 39) dX0_lay_38 rfl xi2 ⟨by omega, by omega⟩ ?_
  have b7_ := hg.2.2.2.2.1
  refine q_i2l (n := 40) dX0_lay_39 rfl ?_
  refine q_lload_n (n := 41) dX0_lay_40 rfl rfl ?_
  have b8_ := bd_sub (C := 40) b7_ b1_ (by decide)
  refine q_lsubS (n := 42) dX0_lay_41 rfl (bd_64 b8_ (by decide)) ?_
  refine q_lstore (n := 44) dX0_lay_42 rfl (by decide) (q_s2_s (q_s2_s (q_s2_s (q_s2_s (q_s2_s (q_s2_s (q_s2_s (q_s2_s (q_s2_s (q_s2_s (q_s2_1 rfl))))))))))) ?_
  refine q_aload_n (n := 45) dX0_lay_44 rfl rfl ?_
  refine q_iload_n (n := 46) dX0_lay_45 rfl rfl ?_
  refine q_iconst (n := 47) dX0_lay_46 rfl (k := ?_)
  refine q_iaddS (n := 48) dX0_lay_47 rfl ⟨by omega, by omega⟩ ?_
  refine q_iaload (n := 49) dX0_lay_48 rfl xi2 ⟨by omega, by omega⟩ ?_
  have b9_ := hg.2.2.2.2.2
  refine q_i2l (n := 50) dX0_lay_49 rfl ?_
  refine q_lload (n := 52) dX0_lay_50 rfl rfl ?_
  have b10_ := bd_sub (C := 40) b9_ b2_ (by decide)
  refine q_lsubS (n := 53) dX0_lay_52 rfl (bd_64 b10_ (by decide)) ?_
  refine q_lstore (n := 55) dX0_lay_53 rfl (by decide) (q_s2_s (q_s2_s (q_s2_s (q_s2_s (q_s2_s (q_s2_s (q_s2_s (q_s2_s (q_s2_s (q_s2_s (q_s2_s (q_s2_s (q_s2_1 rfl))))))))))))) ?_
  refine q_lload (n := 57) dX0_lay_55 rfl rfl ?_
  refine q_lload (n := 59) dX0_lay_57 rfl rfl ?_
  have b11_ := bd_mul (C := 1600) b4_ b4_ (by decide)
  refine q_lmulS (n := 60) dX0_lay_59 rfl (bd_64 b11_ (by decide)) ?_
  refine q_lload (n := 62) dX0_lay_60 rfl rfl ?_
  refine q_lload (n := 64) dX0_lay_62 rfl rfl ?_
  have b12_ := bd_mul (C := 1600) b6_ b6_ (by decide)
  refine q_lmulS (n := 65) dX0_lay_64 rfl (bd_64 b12_ (by decide)) ?_
  have b13_ := bd_add (C := 3200) b11_ b12_ (by decide)
  refine q_laddS (n := 66) dX0_lay_65 rfl (bd_64 b13_ (by decide)) ?_
  refine q_lstore (n := 68) dX0_lay_66 rfl (by decide) (q_s2_s (q_s2_s (q_s2_s (q_s2_s (q_s2_s (q_s2_s (q_s2_s (q_s2_s (q_s2_s (q_s2_s (q_s2_s (q_s2_s (q_s2_s (q_s2_s (q_s2_1 rfl))))))))))))))) ?_
  refine q_lload (n := 70) dX0_lay_68 rfl rfl ?_
  refine q_lload (n := 72) dX0_lay_70 rfl rfl ?_
  have b14_ := bd_mul (C := 1600) b8_ b8_ (by decide)
  refine q_lmulS (n := 73) dX0_lay_72 rfl (bd_64 b14_ (by decide)) ?_
  refine q_lload (n := 75) dX0_lay_73 rfl rfl ?_
  refine q_lload (n := 77) dX0_lay_75 rfl rfl ?_
  have b15_ := bd_mul (C := 1600) b10_ b10_ (by decide)
  refine q_lmulS (n := 78) dX0_lay_77 rfl (bd_64 b15_ (by decide)) ?_
  have b16_ := bd_add (C := 3200) b14_ b15_ (by decide)
  refine q_laddS (n := 79) dX0_lay_78 rfl (bd_64 b16_ (by decide)) ?_
  refine q_lstore (n := 81) dX0_lay_79 rfl (by decide) (q_s2_s (q_s2_s (q_s2_s (q_s2_s (q_s2_s (q_s2_s (q_s2_s (q_s2_s (q_s2_s (q_s2_s (q_s2_s (q_s2_s (q_s2_s (q_s2_s (q_s2_s (q_s2_s (q_s2_1 rfl))))))))))))))))) ?_
  refine q_aload_n (n := 82) dX0_lay_81 rfl rfl ?_
  refine q_lload (n := 84) dX0_lay_82 rfl rfl ?_
  refine q_lload (n := 86) dX0_lay_84 rfl rfl ?_
  have b17_ := bd_mul (C := 1600) b4_ b10_ (by decide)
  refine q_lmulS (n := 87) dX0_lay_86 rfl (bd_64 b17_ (by decide)) ?_
  refine q_lload (n := 89) dX0_lay_87 rfl rfl ?_
  refine q_lload (n := 91) dX0_lay_89 rfl rfl ?_
  have b18_ := bd_mul (C := 1600) b6_ b8_ (by decide)
  refine q_lmulS (n := 92) dX0_lay_91 rfl (bd_64 b18_ (by decide)) ?_
  have b19_ := bd_sub (C := 3200) b17_ b18_ (by decide)
  refine q_lsubS (n := 93) dX0_lay_92 rfl (bd_64 b19_ (by decide)) ?_
  refine q_putJ (kI := 0) (n := 96) dX0_lay_93 rfl pX0_7 hc rfl rfl ?_
  refine q_aload_n (n := 97) dX0_lay_96 rfl rfl ?_
  refine q_ldc2 (x := 2) (n := 100) dX0_lay_97 rfl kX0_13 (k := ?_)
  refine q_aload_n (n := 101) dX0_lay_100 rfl rfl ?_
  refine q_getJE (lB (σ 2) k) (kI := 0) (n := 104) dX0_lay_101 rfl fX0_7 hc rfl rfl (by exact q_up_s) ?_
  have b20_ := lB_bd hg
  have b21_ := bd_mul (C := 6400) (bd_c 2 (2) (by decide)) b20_ (by decide)
  refine q_lmulS (n := 105) dX0_lay_104 rfl (bd_64 b21_ (by decide)) ?_
  refine q_lload_n (n := 106) dX0_lay_105 rfl rfl ?_
  have b22_ := bd_mul (C := 128000) b21_ b1_ (by decide)
  refine q_lmulS (n := 107) dX0_lay_106 rfl (bd_64 b22_ (by decide)) ?_
  refine q_lload (n := 109) dX0_lay_107 rfl rfl ?_
  refine q_lload (n := 111) dX0_lay_109 rfl rfl ?_
  have b23_ := bd_mul (C := 128000) b10_ b13_ (by decide)
  refine q_lmulS (n := 112) dX0_lay_111 rfl (bd_64 b23_ (by decide)) ?_
  have b24_ := bd_add (C := 256000) b22_ b23_ (by decide)
  refine q_laddS (n := 113) dX0_lay_112 rfl (bd_64 b24_ (by decide)) ?_
  refine q_lload (n := 115) dX0_lay_113 rfl rfl ?_
  refine q_lload (n := 117) dX0_lay_115 rfl rfl ?_
  have b25_ := bd_mul (C := 128000) b6_ b16_ (by decide)
  refine q_lmulS (n := 118) dX0_lay_117 rfl (bd_64 b25_ (by decide)) ?_
  have b26_ := bd_sub (C := 384000) b24_ b25_ (by decide)
  refine q_lsubS (n := 119) dX0_lay_118 rfl (bd_64 b26_ (by decide)) ?_
  refine q_putJ (kI := 1) (n := 122) dX0_lay_119 rfl pX0_15 hc rfl rfl ?_
  refine q_aload_n (n := 123) dX0_lay_122 rfl rfl ?_
  refine q_ldc2 (x := 2) (n := 126) dX0_lay_123 rfl kX0_13 (k := ?_)
  refine q_aload_n (n := 127) dX0_lay_126 rfl rfl ?_
  refine q_getJE (lB (σ 2) k) (kI := 0) (n := 130) dX0_lay_127 rfl fX0_7 hc rfl rfl (by rw [q_up_n (by omega)]; exact q_up_s) ?_
  have b27_ := lB_bd hg
  have b28_ := bd_mul (C := 6400) (bd_c 2 (2) (by decide)) b27_ (by decide)
  refine q_lmulS (n := 131) dX0_lay_130 rfl (bd_64 b28_ (by decide)) ?_
  refine q_lload (n := 133) dX0_lay_131 rfl rfl ?_
  have b29_ := bd_mul (C := 128000) b28_ b2_ (by decide)
  refine q_lmulS (n := 134) dX0_lay_133 rfl (bd_64 b29_ (by decide)) ?_
  refine q_lload (n := 136) dX0_lay_134 rfl rfl ?_
  refine q_lload (n := 138) dX0_lay_136 rfl rfl ?_
  have b30_ := bd_mul (C := 128000) b4_ b16_ (by decide)
  refine q_lmulS (n := 139) dX0_lay_138 rfl (bd_64 b30_ (by decide)) ?_
  have b31_ := bd_add (C := 256000) b29_ b30_ (by decide)
  refine q_laddS (n := 140) dX0_lay_139 rfl (bd_64 b31_ (by decide)) ?_
  refine q_lload (n := 142) dX0_lay_140 rfl rfl ?_
  refine q_lload (n := 144) dX0_lay_142 rfl rfl ?_
  have b32_ := bd_mul (C := 128000) b8_ b13_ (by decide)
  refine q_lmulS (n := 145) dX0_lay_144 rfl (bd_64 b32_ (by decide)) ?_
  have b33_ := bd_sub (C := 384000) b31_ b32_ (by decide)
  refine q_lsubS (n := 146) dX0_lay_145 rfl (bd_64 b33_ (by decide)) ?_
  refine q_putJ (kI := 2) (n := 149) dX0_lay_146 rfl pX0_18 hc rfl rfl ?_
  refine q_aload_n (n := 150) dX0_lay_149 rfl rfl ?_
  refine q_aload_n (n := 151) dX0_lay_150 rfl rfl ?_
  refine q_getJE (lA (σ 2) k) (kI := 1) (n := 154) dX0_lay_151 rfl fX0_15 hc rfl rfl (by rw [q_up_n (by omega)]; exact q_up_s) ?_
  have b34_ := lA_bd hg
  refine q_lload_n (n := 155) dX0_lay_154 rfl rfl ?_
  have b35_ := bd_mul (C := 7680000) b34_ b1_ (by decide)
  refine q_lmulS (n := 156) dX0_lay_155 rfl (bd_64 b35_ (by decide)) ?_
  refine q_aload_n (n := 157) dX0_lay_156 rfl rfl ?_
  refine q_getJE (lU (σ 2) k) (kI := 2) (n := 160) dX0_lay_157 rfl fX0_18 hc rfl rfl (by exact q_up_s) ?_
  have b36_ := lU_bd hg
  refine q_lload (n := 162) dX0_lay_160 rfl rfl ?_
  have b37_ := bd_mul (C := 7680000) b36_ b2_ (by decide)
  refine q_lmulS (n := 163) dX0_lay_162 rfl (bd_64 b37_ (by decide)) ?_
  have b38_ := bd_add (C := 15360000) b35_ b37_ (by decide)
  refine q_laddS (n := 164) dX0_lay_163 rfl (bd_64 b38_ (by decide)) ?_
  refine q_aload_n (n := 165) dX0_lay_164 rfl rfl ?_
  refine q_getJE (lB (σ 2) k) (kI := 0) (n := 168) dX0_lay_165 rfl fX0_7 hc rfl rfl (by rw [q_up_n (by omega), q_up_n (by omega)]; exact q_up_s) ?_
  have b39_ := lB_bd hg
  refine q_lload_n (n := 169) dX0_lay_168 rfl rfl ?_
  refine q_lload_n (n := 170) dX0_lay_169 rfl rfl ?_
  have b40_ := bd_mul (C := 400) b1_ b1_ (by decide)
  refine q_lmulS (n := 171) dX0_lay_170 rfl (bd_64 b40_ (by decide)) ?_
  refine q_lload (n := 173) dX0_lay_171 rfl rfl ?_
  refine q_lload (n := 175) dX0_lay_173 rfl rfl ?_
  have b41_ := bd_mul (C := 400) b2_ b2_ (by decide)
  refine q_lmulS (n := 176) dX0_lay_175 rfl (bd_64 b41_ (by decide)) ?_
  have b42_ := bd_add (C := 800) b40_ b41_ (by decide)
  refine q_laddS (n := 177) dX0_lay_176 rfl (bd_64 b42_ (by decide)) ?_
  have b43_ := bd_mul (C := 2560000) b39_ b42_ (by decide)
  refine q_lmulS (n := 178) dX0_lay_177 rfl (bd_64 b43_ (by decide)) ?_
  have b44_ := bd_sub (C := 17920000) b38_ b43_ (by decide)
  refine q_lsubS (n := 179) dX0_lay_178 rfl (bd_64 b44_ (by decide)) ?_
  refine q_putJ (kI := 3) (n := 182) dX0_lay_179 rfl pX0_21 hc rfl rfl ?_
  refine q_vret dX0_lay_182 rfl ?_
  exact ⟨rfl, rfl⟩
set_option maxRecDepth 100000 in
theorem zX0_passes (c x y : Int) (σ : q_S) (hc : q_is shX c (.inl (0, [.inl 1, .inl 1, .inl 1, .inl 1]))) (hx : q_bd x 20) (hy : q_bd y 20) (h0 : q_bd (σ c 0) 3200) (h1 : q_bd (σ c 1) 384000) (h2 : q_bd (σ c 2) 384000) (h3 : q_bd (σ c 3) 17920000) : q_Ct mX0_passes shX [.inr (.inr c), .inl x, .inl y] σ (fun r σ' => r = some (.inl (if σ c 0 * (x * x + y * y) - σ c 1 * x - σ c 2 * y + σ c 3 = 0 then 1 else 0)) ∧ σ' = σ) := by
  refine q_ct 0 (by decide) rfl rfl ?_
  show q_WP mX0_passes shX 0 [some (.inr (.inr c)), some (.inl x), some (.inl y)] [] σ _
  refine q_aload_n (n := 1) dX0_passes_0 rfl rfl ?_
  refine q_getJ (kI := 0) (n := 4) dX0_passes_1 rfl fX0_7 hc rfl rfl ?_
  have b45_ := h0
  refine q_iload_n (n := 5) dX0_passes_4 rfl rfl ?_
  refine q_iload_n (n := 6) dX0_passes_5 rfl rfl ?_
  have b46_ := bd_mul (C := 400) hx hx (by decide)
  refine q_imulS (n := 7) dX0_passes_6 rfl (bd_32 b46_ (by decide)) ?_
  refine q_iload_n (n := 8) dX0_passes_7 rfl rfl ?_
  refine q_iload_n (n := 9) dX0_passes_8 rfl rfl ?_
  have b47_ := bd_mul (C := 400) hy hy (by decide)
  refine q_imulS (n := 10) dX0_passes_9 rfl (bd_32 b47_ (by decide)) ?_
  have b48_ := bd_add (C := 800) b46_ b47_ (by decide)
  refine q_iaddS (n := 11) dX0_passes_10 rfl (bd_32 b48_ (by decide)) ?_
  refine q_i2l (n := 12) dX0_passes_11 rfl ?_
  have b49_ := bd_mul (C := 2560000) b45_ b48_ (by decide)
  refine q_lmulS (n := 13) dX0_passes_12 rfl (bd_64 b49_ (by decide)) ?_
  refine q_aload_n (n := 14) dX0_passes_13 rfl rfl ?_
  refine q_getJ (kI := 1) (n := 17) dX0_passes_14 rfl fX0_15 hc rfl rfl ?_
  have b50_ := h1
  refine q_iload_n (n := 18) dX0_passes_17 rfl rfl ?_
  refine q_i2l (n := 19) dX0_passes_18 rfl ?_
  have b51_ := bd_mul (C := 7680000) b50_ hx (by decide)
  refine q_lmulS (n := 20) dX0_passes_19 rfl (bd_64 b51_ (by decide)) ?_
  have b52_ := bd_sub (C := 10240000) b49_ b51_ (by decide)
  refine q_lsubS (n := 21) dX0_passes_20 rfl (bd_64 b52_ (by decide)) ?_
  refine q_aload_n (n := 22) dX0_passes_21 rfl rfl ?_
  refine q_getJ (kI := 2) (n := 25) dX0_passes_22 rfl fX0_18 hc rfl rfl ?_
  have b53_ := h2
  refine q_iload_n (n := 26) dX0_passes_25 rfl rfl ?_
  refine q_i2l (n := 27) dX0_passes_26 rfl ?_
  have b54_ := bd_mul (C := 7680000) b53_ hy (by decide)
  refine q_lmulS (n := 28) dX0_passes_27 rfl (bd_64 b54_ (by decide)) ?_
  have b55_ := bd_sub (C := 17920000) b52_ b54_ (by decide)
  refine q_lsubS (n := 29) dX0_passes_28 rfl (bd_64 b55_ (by decide)) ?_
  refine q_aload_n (n := 30) dX0_passes_29 rfl rfl ?_
  refine q_getJ (kI := 3) (n := 33) dX0_passes_30 rfl fX0_21 hc rfl rfl ?_
  have b56_ := h3
  have b57_ := bd_add (C := 35840000) b55_ b56_ (by decide)
  refine q_laddS (n := 34) dX0_passes_33 rfl (bd_64 b57_ (by decide)) ?_
  refine q_lconst (x := 0) (n := 35) dX0_passes_34 rfl (k := ?_)
  refine q_lcmp (n := 36) dX0_passes_35 rfl ?_
  refine q_if_ne (n := 39) (t := 43) dX0_passes_36 rfl (by decide) (fun h36 => ?_) (fun h36 => ?_)
  · have h36 := q_knet.mp h36
    refine q_iconst (n := 44) dX0_passes_43 rfl (k := ?_)
    refine q_iret dX0_passes_44 rfl (fun _ => rfl) ?_
    first | exact ⟨q_lf1 (by first | assumption | omega | simp_all), rfl⟩ | exact ⟨q_lf0 (by first | assumption | omega | simp_all), rfl⟩
  · have h36 := q_knef.mp h36
    refine q_iconst (n := 40) dX0_passes_39 rfl (k := ?_)
    refine q_go (t := 44) dX0_passes_40 (by decide) ?_
    refine q_iret dX0_passes_44 rfl (fun _ => rfl) ?_
    first | exact ⟨q_lf1 (by first | assumption | omega | simp_all), rfl⟩ | exact ⟨q_lf0 (by first | assumption | omega | simp_all), rfl⟩
set_option maxRecDepth 100000 in
theorem lpX7_cd (sh : q_H) (σ : q_S) : ∀ (n : Nat) (a b i : Int) (o5 o6 : Option q_V), (n : Int) + i = 128 → 0 ≤ i → q_WP mX7_commonDivisor sh 3 [some (.inr (.inl a)), none, some (.inr (.inl b)), none, some (.inl i), o5, o6] [] σ (fun r σ' => r = some (.inr (.inl (euc n a b))) ∧ σ' = σ) := by
  intro n
  induction n with
  | zero =>
    intro a b i o5 o6 hi h0
    refine q_iload (n := 5) dX7_commonDivisor_3 rfl rfl ?_
    refine q_sipush (n := 8) dX7_commonDivisor_5 rfl (k := ?_)
    refine q_icmp_ge (n := 11) (t := 33) dX7_commonDivisor_8 rfl (by decide) (fun h8 => ?_) (fun h8 => ?_)
    · skip
      refine q_lload_n (n := 34) dX7_commonDivisor_33 rfl rfl ?_
      refine q_lret dX7_commonDivisor_34 rfl ?_
      exact ⟨rfl, rfl⟩
    · exact absurd h8 (by omega)
  | succ n ih =>
    intro a b i o5 o6 hi h0
    refine q_iload (n := 5) dX7_commonDivisor_3 rfl rfl ?_
    refine q_sipush (n := 8) dX7_commonDivisor_5 rfl (k := ?_)
    refine q_icmp_ge (n := 11) (t := 33) dX7_commonDivisor_8 rfl (by decide) (fun h8 => ?_) (fun h8 => ?_)
    · exact absurd h8 (by omega)
    · skip
      refine q_lload_n (n := 12) dX7_commonDivisor_11 rfl rfl ?_
      refine q_lconst (x := 0) (n := 13) dX7_commonDivisor_12 rfl (k := ?_)
      refine q_lcmp (n := 14) dX7_commonDivisor_13 rfl ?_
      refine q_if_eq (n := 17) (t := 33) dX7_commonDivisor_14 rfl (by decide) (fun h14 => ?_) (fun h14 => ?_)
      · have h14 := q_keqt.mp h14
        refine q_lload_n (n := 34) dX7_commonDivisor_33 rfl rfl ?_
        refine q_lret dX7_commonDivisor_34 rfl ?_
        exact ⟨by rw [euc, if_pos h14], rfl⟩
      · have h14 := q_keqf.mp h14
        refine q_lload_n (n := 18) dX7_commonDivisor_17 rfl rfl ?_
        refine q_lload_n (n := 19) dX7_commonDivisor_18 rfl rfl ?_
        refine q_lrem (n := 20) dX7_commonDivisor_19 rfl (by omega) ?_
        refine q_lstore (n := 22) dX7_commonDivisor_20 rfl (by decide) (q_s2_s (q_s2_s (q_s2_s (q_s2_s (q_s2_1 rfl))))) ?_
        refine q_lload_n (n := 23) dX7_commonDivisor_22 rfl rfl ?_
        refine q_lstore_n (n := 24) dX7_commonDivisor_23 rfl (by decide) q_s2_0 ?_
        refine q_lload (n := 26) dX7_commonDivisor_24 rfl rfl ?_
        refine q_lstore_n (n := 27) dX7_commonDivisor_26 rfl (by decide) (q_s2_s (q_s2_1 rfl)) ?_
        refine q_iinc (n := 30) dX7_commonDivisor_27 rfl (by decide) rfl (q_nwid ⟨by omega, by omega⟩) (q_s1_s (q_s1_s (q_s1_s (q_s1_1 rfl)))) ?_
        refine q_go (t := 3) dX7_commonDivisor_30 (by decide) ?_
        rw [euc, if_neg h14]
        exact ih _ _ _ _ _ (by omega) (by omega)
set_option maxRecDepth 100000 in
theorem zX7_commonDivisor (sh : q_H) (a b : Int) (σ : q_S) : q_Ct mX7_commonDivisor sh [.inr (.inl a), .inr (.inl b)] σ (fun r σ' => r = some (.inr (.inl (euc 128 a b))) ∧ σ' = σ) := by
  refine q_ct 3 (by decide) rfl rfl ?_
  show q_WP mX7_commonDivisor sh 0 [some (.inr (.inl a)), none, some (.inr (.inl b)), none, none, none, none] [] σ _
  refine q_iconst (n := 1) dX7_commonDivisor_0 rfl (k := ?_)
  refine q_istore (n := 3) dX7_commonDivisor_1 rfl (by decide) (q_s1_s (q_s1_s (q_s1_s (q_s1_1 rfl)))) ?_
  exact lpX7_cd sh σ 128 a b 0 _ _ (by decide) (by decide)
set_option maxRecDepth 100000 in
theorem zX7_lowest (sh : q_H) (a b k : Int) (σ : q_S) (ha : -9223372036854775808 < a) : q_Ct mX7_lowest sh [.inr (.inl a), .inr (.inl b), .inl k] σ (fun r σ' => r = some (.inr (.inl (q_W ((if k = 0 then a else b).tdiv (if euc 128 (if 0 ≤ a then a else -a) b < 1 then 1 else euc 128 (if 0 ≤ a then a else -a) b))))) ∧ σ' = σ) := by
  refine q_ct 2 (by decide) rfl rfl ?_
  show q_WP mX7_lowest sh 0 [some (.inr (.inl a)), none, some (.inr (.inl b)), none, some (.inl k), none, none] [] σ _
  refine q_lconst (x := 1) (n := 1) dX7_lowest_0 rfl (k := ?_)
  refine q_lload_n (n := 2) dX7_lowest_1 rfl rfl ?_
  refine q_mabsL (n := 5) dX7_lowest_2 rfl lmX7_192 rfl rfl ha ?_
  refine q_lload_n (n := 6) dX7_lowest_5 rfl rfl ?_
  refine q_c2D (n := 9) dX7_lowest_6 rfl (zX7_commonDivisor _ _ _ _) vX7_commonDivisor lX7_346 rfl rfl ?_
  refine q_mmaxL (n := 12) dX7_lowest_9 rfl lmX7_350 rfl rfl ?_
  refine q_lstore (n := 14) dX7_lowest_12 rfl (by decide) (q_s2_s (q_s2_s (q_s2_s (q_s2_s (q_s2_1 rfl))))) ?_
  refine q_iload (n := 16) dX7_lowest_14 rfl rfl ?_
  refine q_if_ne (n := 19) (t := 23) dX7_lowest_16 rfl (by decide) (fun h16 => ?_) (fun h16 => ?_)
  · skip
    refine q_lload_n (n := 24) dX7_lowest_23 rfl rfl ?_
    refine q_lload (n := 26) dX7_lowest_24 rfl rfl ?_
    refine q_ldiv (n := 27) dX7_lowest_26 rfl (by split <;> omega) ?_
    refine q_lret dX7_lowest_27 rfl ?_
    first | exact ⟨by rw [if_pos h16], rfl⟩ | exact ⟨by rw [if_neg h16], rfl⟩
  · skip
    refine q_lload_n (n := 20) dX7_lowest_19 rfl rfl ?_
    refine q_go (t := 24) dX7_lowest_20 (by decide) ?_
    refine q_lload (n := 26) dX7_lowest_24 rfl rfl ?_
    refine q_ldiv (n := 27) dX7_lowest_26 rfl (by split <;> omega) ?_
    refine q_lret dX7_lowest_27 rfl ?_
    first | exact ⟨by rw [if_pos h16], rfl⟩ | exact ⟨by rw [if_neg h16], rfl⟩
set_option maxRecDepth 100000 in
theorem lpX7_wr (sh : q_H) (σ : q_S) (a : Int) : ∀ (n : Nat) (r0 i : Int) (o5 o6 : Option q_V), i + 1 = n → n ≤ 31 → 0 ≤ r0 → r0 + 2 ^ n ≤ 2147483648 → q_WP mX7_wholeRoot sh 6 [some (.inr (.inl a)), none, some (.inr (.inl r0)), none, some (.inl i), o5, o6] [] σ (fun r σ' => r = some (.inr (.inl (rtl n r0 a))) ∧ σ' = σ) := by
  intro n
  induction n with
  | zero =>
    intro r0 i o5 o6 hi hn h0 h1
    refine q_iload (n := 8) dX7_wholeRoot_6 rfl rfl ?_
    refine q_if_lt (n := 11) (t := 38) dX7_wholeRoot_8 rfl (by decide) (fun h8 => ?_) (fun h8 => ?_)
    · skip
      refine q_lload_n (n := 39) dX7_wholeRoot_38 rfl rfl ?_
      refine q_lret dX7_wholeRoot_39 rfl ?_
      exact ⟨rfl, rfl⟩
    · exact absurd h8 (by omega)
  | succ n ih =>
    intro r0 i o5 o6 hi hn h0 h1
    have hin : i = n := by omega
    subst hin
    have hp : (2 : Int) ^ (n + 1) = 2 * 2 ^ n := by rw [Int.pow_succ]; omega
    have hq : (0 : Int) < 2 ^ n := Int.pow_pos (by decide)
    have hb : q_bd (r0 + 2 ^ n) 2147483648 := ⟨by omega, by omega⟩
    refine q_iload (n := 8) dX7_wholeRoot_6 rfl rfl ?_
    refine q_if_lt (n := 11) (t := 38) dX7_wholeRoot_8 rfl (by decide) (fun h8 => ?_) (fun h8 => ?_)
    · exact absurd h8 (by omega)
    · skip
      refine q_lload_n (n := 12) dX7_wholeRoot_11 rfl rfl ?_
      refine q_lconst (x := 1) (n := 13) dX7_wholeRoot_12 rfl (k := ?_)
      refine q_iload (n := 15) dX7_wholeRoot_13 rfl rfl ?_
      refine q_lshl (n := 16) dX7_wholeRoot_15 rfl ?_
      refine q_topJ (2 ^ n) (Lshl_1 (by omega)) ?_
      refine q_laddS (n := 17) dX7_wholeRoot_16 rfl ⟨by omega, by omega⟩ ?_
      refine q_lstore (n := 19) dX7_wholeRoot_17 rfl (by decide) (q_s2_s (q_s2_s (q_s2_s (q_s2_s (q_s2_1 rfl))))) ?_
      refine q_lload (n := 21) dX7_wholeRoot_19 rfl rfl ?_
      refine q_lload (n := 23) dX7_wholeRoot_21 rfl rfl ?_
      refine q_lmulS (n := 24) dX7_wholeRoot_23 rfl (bd_64 (bd_mul hb hb (C := 4611686018427387904) (by decide)) (by decide)) ?_
      refine q_lload_n (n := 25) dX7_wholeRoot_24 rfl rfl ?_
      refine q_lcmp (n := 26) dX7_wholeRoot_25 rfl ?_
      refine q_if_gt (n := 29) (t := 32) dX7_wholeRoot_26 rfl (by decide) (fun h26 => ?_) (fun h26 => ?_)
      · have h26 := q_kgtt.mp h26
        refine q_iinc (n := 35) dX7_wholeRoot_32 rfl (by decide) rfl (q_nwid ⟨by omega, by omega⟩) (q_s1_s (q_s1_s (q_s1_s (q_s1_1 rfl)))) ?_
        refine q_go (t := 6) dX7_wholeRoot_35 (by decide) ?_
        rw [rtl]
        first
          | (rw [if_neg (by omega)]; exact ih _ _ _ _ (by omega) (by omega) (by omega) (by omega))
          | (rw [if_pos (by omega)]; exact ih _ _ _ _ (by omega) (by omega) (by omega) (by omega))
      · have h26 := q_kgtf.mp h26
        refine q_lload (n := 31) dX7_wholeRoot_29 rfl rfl ?_
        refine q_lstore_n (n := 32) dX7_wholeRoot_31 rfl (by decide) (q_s2_s (q_s2_1 rfl)) ?_
        refine q_iinc (n := 35) dX7_wholeRoot_32 rfl (by decide) rfl (q_nwid ⟨by omega, by omega⟩) (q_s1_s (q_s1_s (q_s1_s (q_s1_1 rfl)))) ?_
        refine q_go (t := 6) dX7_wholeRoot_35 (by decide) ?_
        rw [rtl]
        first
          | (rw [if_neg (by omega)]; exact ih _ _ _ _ (by omega) (by omega) (by omega) (by omega))
          | (rw [if_pos (by omega)]; exact ih _ _ _ _ (by omega) (by omega) (by omega) (by omega))
set_option maxRecDepth 100000 in
theorem zX7_wholeRoot (sh : q_H) (a : Int) (σ : q_S) : q_Ct mX7_wholeRoot sh [.inr (.inl a)] σ (fun r σ' => r = some (.inr (.inl (rtl 31 0 a))) ∧ σ' = σ) := by
  refine q_ct 5 (by decide) rfl rfl ?_
  show q_WP mX7_wholeRoot sh 0 [some (.inr (.inl a)), none, none, none, none, none, none] [] σ _
  refine q_lconst (x := 0) (n := 1) dX7_wholeRoot_0 rfl (k := ?_)
  refine q_lstore_n (n := 2) dX7_wholeRoot_1 rfl (by decide) (q_s2_s (q_s2_1 rfl)) ?_
  refine q_bipush (n := 4) dX7_wholeRoot_2 rfl (k := ?_)
  refine q_istore (n := 6) dX7_wholeRoot_4 rfl (by decide) (q_s1_s (q_s1_s (q_s1_s (q_s1_1 rfl)))) ?_
  exact lpX7_wr sh σ a 31 0 30 _ _ (by decide) (by decide) (by decide) (by decide)
