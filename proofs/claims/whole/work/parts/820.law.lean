abbrev cw0 : Cond := Cond.initialized RX0
theorem law_cmp {L i : Nat} (hL : L ≤ 2048) (hi : i ≤ 4000) : nI L - nI 4 < nI i ↔ L < i + 4 := by
  rw [Int32.lt_iff_toInt_lt, pk_sub_toInt (by omega) (by omega), nI_toInt (by omega)]
  omega
set_option maxHeartbeats 8000000 in
set_option maxRecDepth 100000 in
/-- THE LAW'S LOOP: at its head both objects bear the same points, way, reach and demand -/
theorem law_loop {l : Launch} {D : va_G} {t : Ty3} {X : Cx} {b L : Nat} {xs : Nat → Int32} (hL : L ≤ 2048) (F : Fx (EE l D t) X cL_law RL (cw0 :: wsL_law) room_1 4) (hS : Scr X b L xs) (hret : ∀ (pc : Nat) (lv : List (Nat × Value)) (ws : va_W), decode cL_law pc = .ok (.ireturn, 1) → GG (EE l D t) X 21 2310 pc lv [.int 1] ws) {a1 a2 : Nat → Nat} :
    ∀ (n i : Nat) (V : VT) (uX uM : va_W), i ≤ L + 4 → L + 8 ≤ i + n → XW a1 t V uX → MW a2 t V uM → GG (EE l D t) X 21 2310 18 [(0, .ref b), (1, .ref (a1 0)), (2, .ref (a2 0)), (3, .int (nI i))] [] (uX ++ uM) := by
  intro n
  induction n with
  | zero =>
    intro i V uX uM h1 h2
    exact absurd h2 (by omega)
  | succ n ih =>
    intro i V uX uM h1 h2 hX hM
    obtain ⟨co, cr, cc, sr, so, cf, ck, ng, nw, cs, se, rfl, hI⟩ := hX
    obtain ⟨is, wm, mco, mcr, mcc, mdn, mcs, mdf, rfl, hMI⟩ := hM
    show GG (EE l D t) X 21 2310 18 [(0, .ref b), (1, .ref (a1 0)), (2, .ref (a2 0)), (3, .int (nI i))] [] (WX a1 t V.1 V.2.1 V.2.2.1 V.2.2.2.1 V.2.2.2.2.1 V.2.2.2.2.2 co cr cc sr so cf ck ng nw cs se ++ WM a2 t is V.2.1 V.2.2.1 wm V.2.2.2.1 V.2.2.2.2.1 V.2.2.2.2.2 mco mcr mcc mdn mcs mdf)
    refine g_iload_n F dL_law_18 rfl rfl ?_
    refine g_aload_n F dL_law_19 rfl rfl ?_
    refine g_slen F hS dL_law_20 ?_
    refine g_iconst F (nI 4) dL_law_21 (by decide) ?_
    refine g_isub F dL_law_22 ?_
    refine g_icmp_gt F 646 dL_law_23 (by decide)  (fun h => ?_) (fun h => ?_)
    · refine g_iconst F 1 dL_law_646 (by decide) ?_
      exact hret _ _ _ dL_law_647
    · have hlt : i + 4 ≤ L := Nat.le_of_not_lt fun q => h ((law_cmp hL (by omega)).mpr q)
      refine g_aload_n F dL_law_26 rfl rfl ?_
      refine g_iload_n F dL_law_27 rfl rfl ?_
      refine g_sld F hS (show i < L by omega) (by omega) dL_law_28 ?_
      refine g_bipush F 31 dL_law_29 (by decide) ?_
      refine g_iand F dL_law_31 ?_
      obtain ⟨j, hj, ej⟩ := pk_andE (xs i) (m := 31) 5 (by decide)
      refine g_topi ej ?_
      by_cases hj2 : 17 ≤ j
      · refine g_tableOut F 640 dL_law_32 (Or.inr (by rw [nI_toInt (by omega)]; omega)) (by decide) ?_
        refine g_iinc (lv2 := [(0, .ref b), (1, .ref (a1 0)), (2, .ref (a2 0)), (3, .int (nI (i + 4)))]) F (nI (i + 4)) dL_law_640 rfl (nI_add i 4) (by decide) rfl ?_
        refine g_goto F 18 dL_law_643 (by decide) ?_
        exact ih (i + 4) V _ _ (by omega) (by omega) ⟨co, cr, cc, sr, so, cf, ck, ng, nw, cs, se, rfl, hI⟩ ⟨is, wm, mco, mcr, mcc, mdn, mcs, mdf, rfl, hMI⟩
      · rcases (show j = 0 ∨ j = 1 ∨ j = 2 ∨ j = 3 ∨ j = 4 ∨ j = 5 ∨ j = 6 ∨ j = 7 ∨ j = 8 ∨ j = 9 ∨ j = 10 ∨ j = 11 ∨ j = 12 ∨ j = 13 ∨ j = 14 ∨ j = 15 ∨ j = 16 by omega) with rfl | rfl | rfl | rfl | rfl | rfl | rfl | rfl | rfl | rfl | rfl | rfl | rfl | rfl | rfl | rfl | rfl
        · refine g_tableIn (off := 84) F 116 dL_law_32 (by decide) (by decide) (by decide +kernel) (by decide) ?_
          refine g_aload_n F dL_law_116 rfl rfl ?_
          refine g_aload_n F dL_law_117 rfl rfl ?_
          refine g_iload_n F dL_law_118 rfl rfl ?_
          refine g_iconst F (nI 1) dL_law_119 (by decide) ?_
          refine g_iadd_n F dL_law_120 ?_
          refine g_sld F hS (show i + 1 < L by omega) (by omega) dL_law_121 ?_
          refine g_aload_n F dL_law_122 rfl rfl ?_
          refine g_iload_n F dL_law_123 rfl rfl ?_
          refine g_iconst F (nI 2) dL_law_124 (by decide) ?_
          refine g_iadd_n F dL_law_125 ?_
          refine g_sld F hS (show i + 2 < L by omega) (by omega) dL_law_126 ?_
          refine g_aload_n F dL_law_127 rfl rfl ?_
          refine g_iload_n F dL_law_128 rfl rfl ?_
          refine g_iconst F (nI 3) dL_law_129 (by decide) ?_
          refine g_iadd_n F dL_law_130 ?_
          refine g_sld F hS (show i + 3 < L by omega) (by omega) dL_law_131 ?_
          refine g_swap ?_
          refine c_VI F [] (wr := WM a2 t is V.2.1 V.2.2.1 wm V.2.2.2.1 V.2.2.2.2.1 V.2.2.2.2.2 mco mcr mcc mdn mcs mdf) (cX_point hI (xs (i + 1)) (xs (i + 2)) (xs (i + 3))) cwL_X0_point ⟨by decide, by decide, rfl, rfl⟩ rfl rfl rfl rfl (Nat.le_of_ble_eq_true rfl) ⟨by decide, by decide⟩ dL_law_132 (fun r1 u1 hu1 => ?_)
          obtain ⟨e1, hX2⟩ := hu1
          refine g_swap ?_
          show GG (EE l D t) X 21 2310 135 [(0, .ref b), (1, .ref (a1 0)), (2, .ref (a2 0)), (3, .int (nI i))] [.int r1] (u1 ++ WM a2 t is V.2.1 V.2.2.1 wm V.2.2.2.1 V.2.2.2.2.1 V.2.2.2.2.2 mco mcr mcc mdn mcs mdf)
          refine g_aload_n F dL_law_135 rfl rfl ?_
          refine g_aload_n F dL_law_136 rfl rfl ?_
          refine g_iload_n F dL_law_137 rfl rfl ?_
          refine g_iconst F (nI 1) dL_law_138 (by decide) ?_
          refine g_iadd_n F dL_law_139 ?_
          refine g_sld F hS (show i + 1 < L by omega) (by omega) dL_law_140 ?_
          refine g_aload_n F dL_law_141 rfl rfl ?_
          refine g_iload_n F dL_law_142 rfl rfl ?_
          refine g_iconst F (nI 2) dL_law_143 (by decide) ?_
          refine g_iadd_n F dL_law_144 ?_
          refine g_sld F hS (show i + 2 < L by omega) (by omega) dL_law_145 ?_
          refine g_aload_n F dL_law_146 rfl rfl ?_
          refine g_iload_n F dL_law_147 rfl rfl ?_
          refine g_iconst F (nI 3) dL_law_148 (by decide) ?_
          refine g_iadd_n F dL_law_149 ?_
          refine g_sld F hS (show i + 3 < L by omega) (by omega) dL_law_150 ?_
          refine c_VI F [.int r1] (wr := u1) (cM_point hMI (xs (i + 1)) (xs (i + 2)) (xs (i + 3))) cwL_X1_point ⟨by decide, by decide, rfl, rfl⟩ rfl rfl rfl rfl (Nat.le_of_ble_eq_true rfl) ⟨by decide, by decide⟩ dL_law_151 (fun r2 u2 hu2 => ?_)
          obtain ⟨e2, hM2⟩ := hu2
          refine g_icmp_eq_t F 640 dL_law_154 (by decide) (e1.trans e2.symm) ?_
          refine g_iinc (lv2 := [(0, .ref b), (1, .ref (a1 0)), (2, .ref (a2 0)), (3, .int (nI (i + 4)))]) F (nI (i + 4)) dL_law_640 rfl (nI_add i 4) (by decide) rfl ?_
          refine g_goto F 18 dL_law_643 (by decide) ?_
          exact ih (i + 4) (pointF V.1 V.2.1 V.2.2.1 V.2.2.2.1 V.2.2.2.2.1 V.2.2.2.2.2 (xs (i + 1)) (xs (i + 2)) (xs (i + 3))).2 u1 u2 (by omega) (by omega) hX2 hM2
        · refine g_tableIn (off := 127) F 159 dL_law_32 (by decide) (by decide) (by decide +kernel) (by decide) ?_
          refine g_aload_n F dL_law_159 rfl rfl ?_
          refine g_aload_n F dL_law_160 rfl rfl ?_
          refine g_iload_n F dL_law_161 rfl rfl ?_
          refine g_iconst F (nI 1) dL_law_162 (by decide) ?_
          refine g_iadd_n F dL_law_163 ?_
          refine g_sld F hS (show i + 1 < L by omega) (by omega) dL_law_164 ?_
          refine g_swap ?_
          refine c_VI F [] (wr := WM a2 t is V.2.1 V.2.2.1 wm V.2.2.2.1 V.2.2.2.2.1 V.2.2.2.2.2 mco mcr mcc mdn mcs mdf) (cX_remove hI (xs (i + 1))) cwL_X0_remove ⟨by decide, by decide, rfl, rfl⟩ rfl rfl rfl rfl (Nat.le_of_ble_eq_true rfl) ⟨by decide, by decide⟩ dL_law_165 (fun r1 u1 hu1 => ?_)
          obtain ⟨e1, hX2⟩ := hu1
          refine g_swap ?_
          show GG (EE l D t) X 21 2310 168 [(0, .ref b), (1, .ref (a1 0)), (2, .ref (a2 0)), (3, .int (nI i))] [.int r1] (u1 ++ WM a2 t is V.2.1 V.2.2.1 wm V.2.2.2.1 V.2.2.2.2.1 V.2.2.2.2.2 mco mcr mcc mdn mcs mdf)
          refine g_aload_n F dL_law_168 rfl rfl ?_
          refine g_aload_n F dL_law_169 rfl rfl ?_
          refine g_iload_n F dL_law_170 rfl rfl ?_
          refine g_iconst F (nI 1) dL_law_171 (by decide) ?_
          refine g_iadd_n F dL_law_172 ?_
          refine g_sld F hS (show i + 1 < L by omega) (by omega) dL_law_173 ?_
          refine c_VI F [.int r1] (wr := u1) (cM_remove hMI (xs (i + 1))) cwL_X1_remove ⟨by decide, by decide, rfl, rfl⟩ rfl rfl rfl rfl (Nat.le_of_ble_eq_true rfl) ⟨by decide, by decide⟩ dL_law_174 (fun r2 u2 hu2 => ?_)
          obtain ⟨e2, hM2⟩ := hu2
          refine g_icmp_eq_t F 640 dL_law_177 (by decide) (e1.trans e2.symm) ?_
          refine g_iinc (lv2 := [(0, .ref b), (1, .ref (a1 0)), (2, .ref (a2 0)), (3, .int (nI (i + 4)))]) F (nI (i + 4)) dL_law_640 rfl (nI_add i 4) (by decide) rfl ?_
          refine g_goto F 18 dL_law_643 (by decide) ?_
          exact ih (i + 4) (removeF V.1 V.2.1 V.2.2.1 V.2.2.2.1 V.2.2.2.2.1 V.2.2.2.2.2 (xs (i + 1))).2 u1 u2 (by omega) (by omega) hX2 hM2
        · refine g_tableIn (off := 150) F 182 dL_law_32 (by decide) (by decide) (by decide +kernel) (by decide) ?_
          refine g_aload_n F dL_law_182 rfl rfl ?_
          refine g_aload_n F dL_law_183 rfl rfl ?_
          refine g_iload_n F dL_law_184 rfl rfl ?_
          refine g_iconst F (nI 1) dL_law_185 (by decide) ?_
          refine g_iadd_n F dL_law_186 ?_
          refine g_sld F hS (show i + 1 < L by omega) (by omega) dL_law_187 ?_
          refine g_aload_n F dL_law_188 rfl rfl ?_
          refine g_iload_n F dL_law_189 rfl rfl ?_
          refine g_iconst F (nI 2) dL_law_190 (by decide) ?_
          refine g_iadd_n F dL_law_191 ?_
          refine g_sld F hS (show i + 2 < L by omega) (by omega) dL_law_192 ?_
          refine g_aload_n F dL_law_193 rfl rfl ?_
          refine g_iload_n F dL_law_194 rfl rfl ?_
          refine g_iconst F (nI 3) dL_law_195 (by decide) ?_
          refine g_iadd_n F dL_law_196 ?_
          refine g_sld F hS (show i + 3 < L by omega) (by omega) dL_law_197 ?_
          refine g_swap ?_
          refine c_VI F [] (wr := WM a2 t is V.2.1 V.2.2.1 wm V.2.2.2.1 V.2.2.2.2.1 V.2.2.2.2.2 mco mcr mcc mdn mcs mdf) (cX_move hI (xs (i + 1)) (xs (i + 2)) (xs (i + 3))) cwL_X0_move ⟨by decide, by decide, rfl, rfl⟩ rfl rfl rfl rfl (Nat.le_of_ble_eq_true rfl) ⟨by decide, by decide⟩ dL_law_198 (fun r1 u1 hu1 => ?_)
          obtain ⟨e1, hX2⟩ := hu1
          refine g_swap ?_
          show GG (EE l D t) X 21 2310 201 [(0, .ref b), (1, .ref (a1 0)), (2, .ref (a2 0)), (3, .int (nI i))] [.int r1] (u1 ++ WM a2 t is V.2.1 V.2.2.1 wm V.2.2.2.1 V.2.2.2.2.1 V.2.2.2.2.2 mco mcr mcc mdn mcs mdf)
          refine g_aload_n F dL_law_201 rfl rfl ?_
          refine g_aload_n F dL_law_202 rfl rfl ?_
          refine g_iload_n F dL_law_203 rfl rfl ?_
          refine g_iconst F (nI 1) dL_law_204 (by decide) ?_
          refine g_iadd_n F dL_law_205 ?_
          refine g_sld F hS (show i + 1 < L by omega) (by omega) dL_law_206 ?_
          refine g_aload_n F dL_law_207 rfl rfl ?_
          refine g_iload_n F dL_law_208 rfl rfl ?_
          refine g_iconst F (nI 2) dL_law_209 (by decide) ?_
          refine g_iadd_n F dL_law_210 ?_
          refine g_sld F hS (show i + 2 < L by omega) (by omega) dL_law_211 ?_
          refine g_aload_n F dL_law_212 rfl rfl ?_
          refine g_iload_n F dL_law_213 rfl rfl ?_
          refine g_iconst F (nI 3) dL_law_214 (by decide) ?_
          refine g_iadd_n F dL_law_215 ?_
          refine g_sld F hS (show i + 3 < L by omega) (by omega) dL_law_216 ?_
          refine c_VI F [.int r1] (wr := u1) (cM_move hMI (xs (i + 1)) (xs (i + 2)) (xs (i + 3))) cwL_X1_move ⟨by decide, by decide, rfl, rfl⟩ rfl rfl rfl rfl (Nat.le_of_ble_eq_true rfl) ⟨by decide, by decide⟩ dL_law_217 (fun r2 u2 hu2 => ?_)
          obtain ⟨e2, hM2⟩ := hu2
          refine g_icmp_eq_t F 640 dL_law_220 (by decide) (e1.trans e2.symm) ?_
          refine g_iinc (lv2 := [(0, .ref b), (1, .ref (a1 0)), (2, .ref (a2 0)), (3, .int (nI (i + 4)))]) F (nI (i + 4)) dL_law_640 rfl (nI_add i 4) (by decide) rfl ?_
          refine g_goto F 18 dL_law_643 (by decide) ?_
          exact ih (i + 4) (moveF V.1 V.2.1 V.2.2.1 V.2.2.2.1 V.2.2.2.2.1 V.2.2.2.2.2 (xs (i + 1)) (xs (i + 2)) (xs (i + 3))).2 u1 u2 (by omega) (by omega) hX2 hM2
        · refine g_tableIn (off := 193) F 225 dL_law_32 (by decide) (by decide) (by decide +kernel) (by decide) ?_
          refine g_aload_n F dL_law_225 rfl rfl ?_
          refine g_aload_n F dL_law_226 rfl rfl ?_
          refine g_iload_n F dL_law_227 rfl rfl ?_
          refine g_iconst F (nI 1) dL_law_228 (by decide) ?_
          refine g_iadd_n F dL_law_229 ?_
          refine g_sld F hS (show i + 1 < L by omega) (by omega) dL_law_230 ?_
          refine g_swap ?_
          refine c_VI F [] (wr := WM a2 t is V.2.1 V.2.2.1 wm V.2.2.2.1 V.2.2.2.2.1 V.2.2.2.2.2 mco mcr mcc mdn mcs mdf) (cX_way hI (xs (i + 1))) cwL_X0_way ⟨by decide, by decide, rfl, rfl⟩ rfl rfl rfl rfl (Nat.le_of_ble_eq_true rfl) ⟨by decide, by decide⟩ dL_law_231 (fun r1 u1 hu1 => ?_)
          obtain ⟨e1, hX2⟩ := hu1
          refine g_swap ?_
          show GG (EE l D t) X 21 2310 234 [(0, .ref b), (1, .ref (a1 0)), (2, .ref (a2 0)), (3, .int (nI i))] [.int r1] (u1 ++ WM a2 t is V.2.1 V.2.2.1 wm V.2.2.2.1 V.2.2.2.2.1 V.2.2.2.2.2 mco mcr mcc mdn mcs mdf)
          refine g_aload_n F dL_law_234 rfl rfl ?_
          refine g_aload_n F dL_law_235 rfl rfl ?_
          refine g_iload_n F dL_law_236 rfl rfl ?_
          refine g_iconst F (nI 1) dL_law_237 (by decide) ?_
          refine g_iadd_n F dL_law_238 ?_
          refine g_sld F hS (show i + 1 < L by omega) (by omega) dL_law_239 ?_
          refine c_VI F [.int r1] (wr := u1) (cM_way hMI (xs (i + 1))) cwL_X1_way ⟨by decide, by decide, rfl, rfl⟩ rfl rfl rfl rfl (Nat.le_of_ble_eq_true rfl) ⟨by decide, by decide⟩ dL_law_240 (fun r2 u2 hu2 => ?_)
          obtain ⟨e2, hM2⟩ := hu2
          refine g_icmp_eq_t F 640 dL_law_243 (by decide) (e1.trans e2.symm) ?_
          refine g_iinc (lv2 := [(0, .ref b), (1, .ref (a1 0)), (2, .ref (a2 0)), (3, .int (nI (i + 4)))]) F (nI (i + 4)) dL_law_640 rfl (nI_add i 4) (by decide) rfl ?_
          refine g_goto F 18 dL_law_643 (by decide) ?_
          exact ih (i + 4) (wayF V.1 V.2.1 V.2.2.1 V.2.2.2.1 V.2.2.2.2.1 V.2.2.2.2.2 (xs (i + 1))).2 u1 u2 (by omega) (by omega) hX2 hM2
        · refine g_tableIn (off := 216) F 248 dL_law_32 (by decide) (by decide) (by decide +kernel) (by decide) ?_
          refine g_aload_n F dL_law_248 rfl rfl ?_
          refine g_aload_n F dL_law_249 rfl rfl ?_
          refine g_iload_n F dL_law_250 rfl rfl ?_
          refine g_iconst F (nI 1) dL_law_251 (by decide) ?_
          refine g_iadd_n F dL_law_252 ?_
          refine g_sld F hS (show i + 1 < L by omega) (by omega) dL_law_253 ?_
          refine g_i2l F dL_law_254 ?_
          refine g_bipush F (nI 32) dL_law_255 (by decide) ?_
          refine g_lshl F dL_law_257 ?_
          refine g_aload_n F dL_law_258 rfl rfl ?_
          refine g_iload_n F dL_law_259 rfl rfl ?_
          refine g_iconst F (nI 2) dL_law_260 (by decide) ?_
          refine g_iadd_n F dL_law_261 ?_
          refine g_sld F hS (show i + 2 < L by omega) (by omega) dL_law_262 ?_
          refine g_i2l F dL_law_263 ?_
          refine g_ldc2 F (4294967295) dL_law_264 (List.mem_cons_of_mem _ mw1_6) ?_
          refine g_land F dL_law_267 ?_
          refine g_lor F dL_law_268 ?_
          refine g_swap ?_
          refine c_VI F [] (wr := WM a2 t is V.2.1 V.2.2.1 wm V.2.2.2.1 V.2.2.2.2.1 V.2.2.2.2.2 mco mcr mcc mdn mcs mdf) (cX_reach hI ((((xs (i + 1)).toInt64) <<< ((nI 32).toInt64 &&& 63)) ||| (((xs (i + 2)).toInt64) &&& (4294967295)))) cwL_X0_reach ⟨by decide, by decide, rfl, rfl⟩ rfl rfl rfl rfl (Nat.le_of_ble_eq_true rfl) ⟨by decide, by decide⟩ dL_law_269 (fun r1 u1 hu1 => ?_)
          obtain ⟨e1, hX2⟩ := hu1
          refine g_swap ?_
          show GG (EE l D t) X 21 2310 272 [(0, .ref b), (1, .ref (a1 0)), (2, .ref (a2 0)), (3, .int (nI i))] [.int r1] (u1 ++ WM a2 t is V.2.1 V.2.2.1 wm V.2.2.2.1 V.2.2.2.2.1 V.2.2.2.2.2 mco mcr mcc mdn mcs mdf)
          refine g_aload_n F dL_law_272 rfl rfl ?_
          refine g_aload_n F dL_law_273 rfl rfl ?_
          refine g_iload_n F dL_law_274 rfl rfl ?_
          refine g_iconst F (nI 1) dL_law_275 (by decide) ?_
          refine g_iadd_n F dL_law_276 ?_
          refine g_sld F hS (show i + 1 < L by omega) (by omega) dL_law_277 ?_
          refine g_i2l F dL_law_278 ?_
          refine g_bipush F (nI 32) dL_law_279 (by decide) ?_
          refine g_lshl F dL_law_281 ?_
          refine g_aload_n F dL_law_282 rfl rfl ?_
          refine g_iload_n F dL_law_283 rfl rfl ?_
          refine g_iconst F (nI 2) dL_law_284 (by decide) ?_
          refine g_iadd_n F dL_law_285 ?_
          refine g_sld F hS (show i + 2 < L by omega) (by omega) dL_law_286 ?_
          refine g_i2l F dL_law_287 ?_
          refine g_ldc2 F (4294967295) dL_law_288 (List.mem_cons_of_mem _ mw1_6) ?_
          refine g_land F dL_law_291 ?_
          refine g_lor F dL_law_292 ?_
          refine c_VI F [.int r1] (wr := u1) (cM_reach hMI ((((xs (i + 1)).toInt64) <<< ((nI 32).toInt64 &&& 63)) ||| (((xs (i + 2)).toInt64) &&& (4294967295)))) cwL_X1_reach ⟨by decide, by decide, rfl, rfl⟩ rfl rfl rfl rfl (Nat.le_of_ble_eq_true rfl) ⟨by decide, by decide⟩ dL_law_293 (fun r2 u2 hu2 => ?_)
          obtain ⟨e2, hM2⟩ := hu2
          refine g_icmp_eq_t F 640 dL_law_296 (by decide) (e1.trans e2.symm) ?_
          refine g_iinc (lv2 := [(0, .ref b), (1, .ref (a1 0)), (2, .ref (a2 0)), (3, .int (nI (i + 4)))]) F (nI (i + 4)) dL_law_640 rfl (nI_add i 4) (by decide) rfl ?_
          refine g_goto F 18 dL_law_643 (by decide) ?_
          exact ih (i + 4) (reachF V.1 V.2.1 V.2.2.1 V.2.2.2.1 V.2.2.2.2.1 V.2.2.2.2.2 ((((xs (i + 1)).toInt64) <<< ((nI 32).toInt64 &&& 63)) ||| (((xs (i + 2)).toInt64) &&& (4294967295)))).2 u1 u2 (by omega) (by omega) hX2 hM2
        · refine g_tableIn (off := 269) F 301 dL_law_32 (by decide) (by decide) (by decide +kernel) (by decide) ?_
          refine g_aload_n F dL_law_301 rfl rfl ?_
          refine g_aload_n F dL_law_302 rfl rfl ?_
          refine g_iload_n F dL_law_303 rfl rfl ?_
          refine g_iconst F (nI 1) dL_law_304 (by decide) ?_
          refine g_iadd_n F dL_law_305 ?_
          refine g_sld F hS (show i + 1 < L by omega) (by omega) dL_law_306 ?_
          refine g_swap ?_
          refine c_VI F [] (wr := WM a2 t is V.2.1 V.2.2.1 wm V.2.2.2.1 V.2.2.2.2.1 V.2.2.2.2.2 mco mcr mcc mdn mcs mdf) (cX_demand hI (xs (i + 1))) cwL_X0_demand ⟨by decide, by decide, rfl, rfl⟩ rfl rfl rfl rfl (Nat.le_of_ble_eq_true rfl) ⟨by decide, by decide⟩ dL_law_307 (fun r1 u1 hu1 => ?_)
          obtain ⟨e1, hX2⟩ := hu1
          refine g_swap ?_
          show GG (EE l D t) X 21 2310 310 [(0, .ref b), (1, .ref (a1 0)), (2, .ref (a2 0)), (3, .int (nI i))] [.int r1] (u1 ++ WM a2 t is V.2.1 V.2.2.1 wm V.2.2.2.1 V.2.2.2.2.1 V.2.2.2.2.2 mco mcr mcc mdn mcs mdf)
          refine g_aload_n F dL_law_310 rfl rfl ?_
          refine g_aload_n F dL_law_311 rfl rfl ?_
          refine g_iload_n F dL_law_312 rfl rfl ?_
          refine g_iconst F (nI 1) dL_law_313 (by decide) ?_
          refine g_iadd_n F dL_law_314 ?_
          refine g_sld F hS (show i + 1 < L by omega) (by omega) dL_law_315 ?_
          refine c_VI F [.int r1] (wr := u1) (cM_demand hMI (xs (i + 1))) cwL_X1_demand ⟨by decide, by decide, rfl, rfl⟩ rfl rfl rfl rfl (Nat.le_of_ble_eq_true rfl) ⟨by decide, by decide⟩ dL_law_316 (fun r2 u2 hu2 => ?_)
          obtain ⟨e2, hM2⟩ := hu2
          refine g_icmp_eq_t F 640 dL_law_319 (by decide) (e1.trans e2.symm) ?_
          refine g_iinc (lv2 := [(0, .ref b), (1, .ref (a1 0)), (2, .ref (a2 0)), (3, .int (nI (i + 4)))]) F (nI (i + 4)) dL_law_640 rfl (nI_add i 4) (by decide) rfl ?_
          refine g_goto F 18 dL_law_643 (by decide) ?_
          exact ih (i + 4) (demandF V.1 V.2.1 V.2.2.1 V.2.2.2.1 V.2.2.2.2.1 V.2.2.2.2.2 (xs (i + 1))).2 u1 u2 (by omega) (by omega) hX2 hM2
        · refine g_tableIn (off := 292) F 324 dL_law_32 (by decide) (by decide) (by decide +kernel) (by decide) ?_
          refine g_aload_n F dL_law_324 rfl rfl ?_
          refine g_aload_n F dL_law_325 rfl rfl ?_
          refine g_iload_n F dL_law_326 rfl rfl ?_
          refine g_iconst F (nI 1) dL_law_327 (by decide) ?_
          refine g_iadd_n F dL_law_328 ?_
          refine g_sld F hS (show i + 1 < L by omega) (by omega) dL_law_329 ?_
          refine g_aload_n F dL_law_330 rfl rfl ?_
          refine g_iload_n F dL_law_331 rfl rfl ?_
          refine g_iconst F (nI 2) dL_law_332 (by decide) ?_
          refine g_iadd_n F dL_law_333 ?_
          refine g_sld F hS (show i + 2 < L by omega) (by omega) dL_law_334 ?_
          refine g_swap ?_
          refine c_VL F [] (wr := WM a2 t is V.2.1 V.2.2.1 wm V.2.2.2.1 V.2.2.2.2.1 V.2.2.2.2.2 mco mcr mcc mdn mcs mdf) (cX_distance hI (xs (i + 1)) (xs (i + 2))) cwL_X0_distance ⟨by decide, by decide, rfl, rfl⟩ rfl rfl rfl rfl (Nat.le_of_ble_eq_true rfl) ⟨by decide, by decide⟩ dL_law_335 (fun r1 u1 hu1 => ?_)
          obtain ⟨e1, hX2⟩ := hu1
          refine g_swap ?_
          show GG (EE l D t) X 21 2310 338 [(0, .ref b), (1, .ref (a1 0)), (2, .ref (a2 0)), (3, .int (nI i))] [.long r1] (u1 ++ WM a2 t is V.2.1 V.2.2.1 wm V.2.2.2.1 V.2.2.2.2.1 V.2.2.2.2.2 mco mcr mcc mdn mcs mdf)
          refine g_aload_n F dL_law_338 rfl rfl ?_
          refine g_aload_n F dL_law_339 rfl rfl ?_
          refine g_iload_n F dL_law_340 rfl rfl ?_
          refine g_iconst F (nI 1) dL_law_341 (by decide) ?_
          refine g_iadd_n F dL_law_342 ?_
          refine g_sld F hS (show i + 1 < L by omega) (by omega) dL_law_343 ?_
          refine g_aload_n F dL_law_344 rfl rfl ?_
          refine g_iload_n F dL_law_345 rfl rfl ?_
          refine g_iconst F (nI 2) dL_law_346 (by decide) ?_
          refine g_iadd_n F dL_law_347 ?_
          refine g_sld F hS (show i + 2 < L by omega) (by omega) dL_law_348 ?_
          refine c_VL F [.long r1] (wr := u1) (cM_distance hMI (xs (i + 1)) (xs (i + 2))) cwL_X1_distance ⟨by decide, by decide, rfl, rfl⟩ rfl rfl rfl rfl (Nat.le_of_ble_eq_true rfl) ⟨by decide, by decide⟩ dL_law_349 (fun r2 u2 hu2 => ?_)
          obtain ⟨e2, hM2⟩ := hu2
          refine g_lc_eq F 640 dL_law_352 dL_law_353 (by decide) (fun _ => ?_) (fun z => absurd (e1.trans e2.symm) z)
          refine g_iinc (lv2 := [(0, .ref b), (1, .ref (a1 0)), (2, .ref (a2 0)), (3, .int (nI (i + 4)))]) F (nI (i + 4)) dL_law_640 rfl (nI_add i 4) (by decide) rfl ?_
          refine g_goto F 18 dL_law_643 (by decide) ?_
          exact ih (i + 4) V u1 u2 (by omega) (by omega) hX2 hM2
        · refine g_tableIn (off := 326) F 358 dL_law_32 (by decide) (by decide) (by decide +kernel) (by decide) ?_
          refine g_aload_n F dL_law_358 rfl rfl ?_
          refine g_aload_n F dL_law_359 rfl rfl ?_
          refine g_iload_n F dL_law_360 rfl rfl ?_
          refine g_iconst F (nI 1) dL_law_361 (by decide) ?_
          refine g_iadd_n F dL_law_362 ?_
          refine g_sld F hS (show i + 1 < L by omega) (by omega) dL_law_363 ?_
          refine g_swap ?_
          refine c_VI F [] (wr := WM a2 t is V.2.1 V.2.2.1 wm V.2.2.2.1 V.2.2.2.2.1 V.2.2.2.2.2 mco mcr mcc mdn mcs mdf) (cX_kind hI (xs (i + 1))) cwL_X0_kind ⟨by decide, by decide, rfl, rfl⟩ rfl rfl rfl rfl (Nat.le_of_ble_eq_true rfl) ⟨by decide, by decide⟩ dL_law_364 (fun r1 u1 hu1 => ?_)
          obtain ⟨e1, hX2⟩ := hu1
          refine g_swap ?_
          show GG (EE l D t) X 21 2310 367 [(0, .ref b), (1, .ref (a1 0)), (2, .ref (a2 0)), (3, .int (nI i))] [.int r1] (u1 ++ WM a2 t is V.2.1 V.2.2.1 wm V.2.2.2.1 V.2.2.2.2.1 V.2.2.2.2.2 mco mcr mcc mdn mcs mdf)
          refine g_aload_n F dL_law_367 rfl rfl ?_
          refine g_aload_n F dL_law_368 rfl rfl ?_
          refine g_iload_n F dL_law_369 rfl rfl ?_
          refine g_iconst F (nI 1) dL_law_370 (by decide) ?_
          refine g_iadd_n F dL_law_371 ?_
          refine g_sld F hS (show i + 1 < L by omega) (by omega) dL_law_372 ?_
          refine c_VI F [.int r1] (wr := u1) (cM_kind hMI (xs (i + 1))) cwL_X1_kind ⟨by decide, by decide, rfl, rfl⟩ rfl rfl rfl rfl (Nat.le_of_ble_eq_true rfl) ⟨by decide, by decide⟩ dL_law_373 (fun r2 u2 hu2 => ?_)
          obtain ⟨e2, hM2⟩ := hu2
          refine g_icmp_eq_t F 640 dL_law_376 (by decide) (kindR_un e1 e2) ?_
          refine g_iinc (lv2 := [(0, .ref b), (1, .ref (a1 0)), (2, .ref (a2 0)), (3, .int (nI (i + 4)))]) F (nI (i + 4)) dL_law_640 rfl (nI_add i 4) (by decide) rfl ?_
          refine g_goto F 18 dL_law_643 (by decide) ?_
          exact ih (i + 4) V u1 u2 (by omega) (by omega) hX2 hM2
        · refine g_tableIn (off := 349) F 381 dL_law_32 (by decide) (by decide) (by decide +kernel) (by decide) ?_
          refine g_aload_n F dL_law_381 rfl rfl ?_
          refine g_aload_n F dL_law_382 rfl rfl ?_
          refine g_iload_n F dL_law_383 rfl rfl ?_
          refine g_iconst F (nI 1) dL_law_384 (by decide) ?_
          refine g_iadd_n F dL_law_385 ?_
          refine g_sld F hS (show i + 1 < L by omega) (by omega) dL_law_386 ?_
          refine g_swap ?_
          refine c_VI F [] (wr := WM a2 t is V.2.1 V.2.2.1 wm V.2.2.2.1 V.2.2.2.2.1 V.2.2.2.2.2 mco mcr mcc mdn mcs mdf) (cX_crowd hI (xs (i + 1))) cwL_X0_crowd ⟨by decide, by decide, rfl, rfl⟩ rfl rfl rfl rfl (Nat.le_of_ble_eq_true rfl) ⟨by decide, by decide⟩ dL_law_387 (fun r1 u1 hu1 => ?_)
          obtain ⟨e1, hX2⟩ := hu1
          refine g_swap ?_
          show GG (EE l D t) X 21 2310 390 [(0, .ref b), (1, .ref (a1 0)), (2, .ref (a2 0)), (3, .int (nI i))] [.int r1] (u1 ++ WM a2 t is V.2.1 V.2.2.1 wm V.2.2.2.1 V.2.2.2.2.1 V.2.2.2.2.2 mco mcr mcc mdn mcs mdf)
          refine g_aload_n F dL_law_390 rfl rfl ?_
          refine g_aload_n F dL_law_391 rfl rfl ?_
          refine g_iload_n F dL_law_392 rfl rfl ?_
          refine g_iconst F (nI 1) dL_law_393 (by decide) ?_
          refine g_iadd_n F dL_law_394 ?_
          refine g_sld F hS (show i + 1 < L by omega) (by omega) dL_law_395 ?_
          refine c_VI F [.int r1] (wr := u1) (cM_crowd hMI (xs (i + 1))) cwL_X1_crowd ⟨by decide, by decide, rfl, rfl⟩ rfl rfl rfl rfl (Nat.le_of_ble_eq_true rfl) ⟨by decide, by decide⟩ dL_law_396 (fun r2 u2 hu2 => ?_)
          obtain ⟨e2, hM2⟩ := hu2
          refine g_icmp_eq_t F 640 dL_law_399 (by decide) (crowdR_un e1 e2) ?_
          refine g_iinc (lv2 := [(0, .ref b), (1, .ref (a1 0)), (2, .ref (a2 0)), (3, .int (nI (i + 4)))]) F (nI (i + 4)) dL_law_640 rfl (nI_add i 4) (by decide) rfl ?_
          refine g_goto F 18 dL_law_643 (by decide) ?_
          exact ih (i + 4) V u1 u2 (by omega) (by omega) hX2 hM2
        · refine g_tableIn (off := 372) F 404 dL_law_32 (by decide) (by decide) (by decide +kernel) (by decide) ?_
          refine g_aload_n F dL_law_404 rfl rfl ?_
          refine g_aload_n F dL_law_405 rfl rfl ?_
          refine g_iload_n F dL_law_406 rfl rfl ?_
          refine g_iconst F (nI 1) dL_law_407 (by decide) ?_
          refine g_iadd_n F dL_law_408 ?_
          refine g_sld F hS (show i + 1 < L by omega) (by omega) dL_law_409 ?_
          refine g_swap ?_
          refine c_VI F [] (wr := WM a2 t is V.2.1 V.2.2.1 wm V.2.2.2.1 V.2.2.2.2.1 V.2.2.2.2.2 mco mcr mcc mdn mcs mdf) (cX_count hI (xs (i + 1))) cwL_X0_count ⟨by decide, by decide, rfl, rfl⟩ rfl rfl rfl rfl (Nat.le_of_ble_eq_true rfl) ⟨by decide, by decide⟩ dL_law_410 (fun r1 u1 hu1 => ?_)
          obtain ⟨e1, hX2⟩ := hu1
          refine g_swap ?_
          show GG (EE l D t) X 21 2310 413 [(0, .ref b), (1, .ref (a1 0)), (2, .ref (a2 0)), (3, .int (nI i))] [.int r1] (u1 ++ WM a2 t is V.2.1 V.2.2.1 wm V.2.2.2.1 V.2.2.2.2.1 V.2.2.2.2.2 mco mcr mcc mdn mcs mdf)
          refine g_aload_n F dL_law_413 rfl rfl ?_
          refine g_aload_n F dL_law_414 rfl rfl ?_
          refine g_iload_n F dL_law_415 rfl rfl ?_
          refine g_iconst F (nI 1) dL_law_416 (by decide) ?_
          refine g_iadd_n F dL_law_417 ?_
          refine g_sld F hS (show i + 1 < L by omega) (by omega) dL_law_418 ?_
          refine c_VI F [.int r1] (wr := u1) (cM_count hMI (xs (i + 1))) cwL_X1_count ⟨by decide, by decide, rfl, rfl⟩ rfl rfl rfl rfl (Nat.le_of_ble_eq_true rfl) ⟨by decide, by decide⟩ dL_law_419 (fun r2 u2 hu2 => ?_)
          obtain ⟨e2, hM2⟩ := hu2
          refine g_icmp_eq_t F 640 dL_law_422 (by decide) (countR_un e1 e2) ?_
          refine g_iinc (lv2 := [(0, .ref b), (1, .ref (a1 0)), (2, .ref (a2 0)), (3, .int (nI (i + 4)))]) F (nI (i + 4)) dL_law_640 rfl (nI_add i 4) (by decide) rfl ?_
          refine g_goto F 18 dL_law_643 (by decide) ?_
          exact ih (i + 4) V u1 u2 (by omega) (by omega) hX2 hM2
        · refine g_tableIn (off := 395) F 427 dL_law_32 (by decide) (by decide) (by decide +kernel) (by decide) ?_
          refine g_aload_n F dL_law_427 rfl rfl ?_
          refine g_aload_n F dL_law_428 rfl rfl ?_
          refine g_iload_n F dL_law_429 rfl rfl ?_
          refine g_iconst F (nI 1) dL_law_430 (by decide) ?_
          refine g_iadd_n F dL_law_431 ?_
          refine g_sld F hS (show i + 1 < L by omega) (by omega) dL_law_432 ?_
          refine g_aload_n F dL_law_433 rfl rfl ?_
          refine g_iload_n F dL_law_434 rfl rfl ?_
          refine g_iconst F (nI 2) dL_law_435 (by decide) ?_
          refine g_iadd_n F dL_law_436 ?_
          refine g_sld F hS (show i + 2 < L by omega) (by omega) dL_law_437 ?_
          refine g_swap ?_
          refine c_VI F [] (wr := WM a2 t is V.2.1 V.2.2.1 wm V.2.2.2.1 V.2.2.2.2.1 V.2.2.2.2.2 mco mcr mcc mdn mcs mdf) (cX_about hI (xs (i + 1)) (xs (i + 2))) cwL_X0_about ⟨by decide, by decide, rfl, rfl⟩ rfl rfl rfl rfl (Nat.le_of_ble_eq_true rfl) ⟨by decide, by decide⟩ dL_law_438 (fun r1 u1 hu1 => ?_)
          obtain ⟨e1, hX2⟩ := hu1
          refine g_swap ?_
          show GG (EE l D t) X 21 2310 441 [(0, .ref b), (1, .ref (a1 0)), (2, .ref (a2 0)), (3, .int (nI i))] [.int r1] (u1 ++ WM a2 t is V.2.1 V.2.2.1 wm V.2.2.2.1 V.2.2.2.2.1 V.2.2.2.2.2 mco mcr mcc mdn mcs mdf)
          refine g_aload_n F dL_law_441 rfl rfl ?_
          refine g_aload_n F dL_law_442 rfl rfl ?_
          refine g_iload_n F dL_law_443 rfl rfl ?_
          refine g_iconst F (nI 1) dL_law_444 (by decide) ?_
          refine g_iadd_n F dL_law_445 ?_
          refine g_sld F hS (show i + 1 < L by omega) (by omega) dL_law_446 ?_
          refine g_aload_n F dL_law_447 rfl rfl ?_
          refine g_iload_n F dL_law_448 rfl rfl ?_
          refine g_iconst F (nI 2) dL_law_449 (by decide) ?_
          refine g_iadd_n F dL_law_450 ?_
          refine g_sld F hS (show i + 2 < L by omega) (by omega) dL_law_451 ?_
          refine c_VI F [.int r1] (wr := u1) (cM_about hMI (xs (i + 1)) (xs (i + 2))) cwL_X1_about ⟨by decide, by decide, rfl, rfl⟩ rfl rfl rfl rfl (Nat.le_of_ble_eq_true rfl) ⟨by decide, by decide⟩ dL_law_452 (fun r2 u2 hu2 => ?_)
          obtain ⟨e2, hM2⟩ := hu2
          refine g_icmp_eq_t F 640 dL_law_455 (by decide) (aboutR_un e1 e2) ?_
          refine g_iinc (lv2 := [(0, .ref b), (1, .ref (a1 0)), (2, .ref (a2 0)), (3, .int (nI (i + 4)))]) F (nI (i + 4)) dL_law_640 rfl (nI_add i 4) (by decide) rfl ?_
          refine g_goto F 18 dL_law_643 (by decide) ?_
          exact ih (i + 4) V u1 u2 (by omega) (by omega) hX2 hM2
        · refine g_tableIn (off := 428) F 460 dL_law_32 (by decide) (by decide) (by decide +kernel) (by decide) ?_
          refine g_aload_n F dL_law_460 rfl rfl ?_
          refine g_aload_n F dL_law_461 rfl rfl ?_
          refine g_iload_n F dL_law_462 rfl rfl ?_
          refine g_iconst F (nI 1) dL_law_463 (by decide) ?_
          refine g_iadd_n F dL_law_464 ?_
          refine g_sld F hS (show i + 1 < L by omega) (by omega) dL_law_465 ?_
          refine g_swap ?_
          refine c_VI F [] (wr := WM a2 t is V.2.1 V.2.2.1 wm V.2.2.2.1 V.2.2.2.2.1 V.2.2.2.2.2 mco mcr mcc mdn mcs mdf) (cX_around hI (xs (i + 1))) cwL_X0_around ⟨by decide, by decide, rfl, rfl⟩ rfl rfl rfl rfl (Nat.le_of_ble_eq_true rfl) ⟨by decide, by decide⟩ dL_law_466 (fun r1 u1 hu1 => ?_)
          obtain ⟨e1, hX2⟩ := hu1
          refine g_swap ?_
          show GG (EE l D t) X 21 2310 469 [(0, .ref b), (1, .ref (a1 0)), (2, .ref (a2 0)), (3, .int (nI i))] [.int r1] (u1 ++ WM a2 t is V.2.1 V.2.2.1 wm V.2.2.2.1 V.2.2.2.2.1 V.2.2.2.2.2 mco mcr mcc mdn mcs mdf)
          refine g_aload_n F dL_law_469 rfl rfl ?_
          refine g_aload_n F dL_law_470 rfl rfl ?_
          refine g_iload_n F dL_law_471 rfl rfl ?_
          refine g_iconst F (nI 1) dL_law_472 (by decide) ?_
          refine g_iadd_n F dL_law_473 ?_
          refine g_sld F hS (show i + 1 < L by omega) (by omega) dL_law_474 ?_
          refine c_VI F [.int r1] (wr := u1) (cM_around hMI (xs (i + 1))) cwL_X1_around ⟨by decide, by decide, rfl, rfl⟩ rfl rfl rfl rfl (Nat.le_of_ble_eq_true rfl) ⟨by decide, by decide⟩ dL_law_475 (fun r2 u2 hu2 => ?_)
          obtain ⟨e2, hM2⟩ := hu2
          refine g_icmp_eq_t F 640 dL_law_478 (by decide) (e1.trans e2.symm) ?_
          refine g_iinc (lv2 := [(0, .ref b), (1, .ref (a1 0)), (2, .ref (a2 0)), (3, .int (nI (i + 4)))]) F (nI (i + 4)) dL_law_640 rfl (nI_add i 4) (by decide) rfl ?_
          refine g_goto F 18 dL_law_643 (by decide) ?_
          exact ih (i + 4) V u1 u2 (by omega) (by omega) hX2 hM2
        · refine g_tableIn (off := 451) F 483 dL_law_32 (by decide) (by decide) (by decide +kernel) (by decide) ?_
          refine g_aload_n F dL_law_483 rfl rfl ?_
          refine g_aload_n F dL_law_484 rfl rfl ?_
          refine g_iload_n F dL_law_485 rfl rfl ?_
          refine g_iconst F (nI 1) dL_law_486 (by decide) ?_
          refine g_iadd_n F dL_law_487 ?_
          refine g_sld F hS (show i + 1 < L by omega) (by omega) dL_law_488 ?_
          refine g_aload_n F dL_law_489 rfl rfl ?_
          refine g_iload_n F dL_law_490 rfl rfl ?_
          refine g_iconst F (nI 2) dL_law_491 (by decide) ?_
          refine g_iadd_n F dL_law_492 ?_
          refine g_sld F hS (show i + 2 < L by omega) (by omega) dL_law_493 ?_
          refine g_swap ?_
          refine c_VI F [] (wr := WM a2 t is V.2.1 V.2.2.1 wm V.2.2.2.1 V.2.2.2.2.1 V.2.2.2.2.2 mco mcr mcc mdn mcs mdf) (cX_belongs hI (xs (i + 1)) (xs (i + 2))) cwL_X0_belongs ⟨by decide, by decide, rfl, rfl⟩ rfl rfl rfl rfl (Nat.le_of_ble_eq_true rfl) ⟨by decide, by decide⟩ dL_law_494 (fun r1 u1 hu1 => ?_)
          obtain ⟨e1, hX2⟩ := hu1
          refine g_swap ?_
          show GG (EE l D t) X 21 2310 497 [(0, .ref b), (1, .ref (a1 0)), (2, .ref (a2 0)), (3, .int (nI i))] [.int r1] (u1 ++ WM a2 t is V.2.1 V.2.2.1 wm V.2.2.2.1 V.2.2.2.2.1 V.2.2.2.2.2 mco mcr mcc mdn mcs mdf)
          refine g_aload_n F dL_law_497 rfl rfl ?_
          refine g_aload_n F dL_law_498 rfl rfl ?_
          refine g_iload_n F dL_law_499 rfl rfl ?_
          refine g_iconst F (nI 1) dL_law_500 (by decide) ?_
          refine g_iadd_n F dL_law_501 ?_
          refine g_sld F hS (show i + 1 < L by omega) (by omega) dL_law_502 ?_
          refine g_aload_n F dL_law_503 rfl rfl ?_
          refine g_iload_n F dL_law_504 rfl rfl ?_
          refine g_iconst F (nI 2) dL_law_505 (by decide) ?_
          refine g_iadd_n F dL_law_506 ?_
          refine g_sld F hS (show i + 2 < L by omega) (by omega) dL_law_507 ?_
          refine c_VI F [.int r1] (wr := u1) (cM_belongs hMI (xs (i + 1)) (xs (i + 2))) cwL_X1_belongs ⟨by decide, by decide, rfl, rfl⟩ rfl rfl rfl rfl (Nat.le_of_ble_eq_true rfl) ⟨by decide, by decide⟩ dL_law_508 (fun r2 u2 hu2 => ?_)
          obtain ⟨e2, hM2⟩ := hu2
          refine g_icmp_eq_t F 640 dL_law_511 (by decide) (belongsR_un e1 e2) ?_
          refine g_iinc (lv2 := [(0, .ref b), (1, .ref (a1 0)), (2, .ref (a2 0)), (3, .int (nI (i + 4)))]) F (nI (i + 4)) dL_law_640 rfl (nI_add i 4) (by decide) rfl ?_
          refine g_goto F 18 dL_law_643 (by decide) ?_
          exact ih (i + 4) V u1 u2 (by omega) (by omega) hX2 hM2
        · refine g_tableIn (off := 484) F 516 dL_law_32 (by decide) (by decide) (by decide +kernel) (by decide) ?_
          refine g_aload_n F dL_law_516 rfl rfl ?_
          refine g_aload_n F dL_law_517 rfl rfl ?_
          refine g_iload_n F dL_law_518 rfl rfl ?_
          refine g_iconst F (nI 1) dL_law_519 (by decide) ?_
          refine g_iadd_n F dL_law_520 ?_
          refine g_sld F hS (show i + 1 < L by omega) (by omega) dL_law_521 ?_
          refine g_swap ?_
          refine c_VL F [] (wr := WM a2 t is V.2.1 V.2.2.1 wm V.2.2.2.1 V.2.2.2.2.1 V.2.2.2.2.2 mco mcr mcc mdn mcs mdf) (cX_dense hI (xs (i + 1))) cwL_X0_dense ⟨by decide, by decide, rfl, rfl⟩ rfl rfl rfl rfl (Nat.le_of_ble_eq_true rfl) ⟨by decide, by decide⟩ dL_law_522 (fun r1 u1 hu1 => ?_)
          obtain ⟨e1, hX2⟩ := hu1
          refine g_swap ?_
          show GG (EE l D t) X 21 2310 525 [(0, .ref b), (1, .ref (a1 0)), (2, .ref (a2 0)), (3, .int (nI i))] [.long r1] (u1 ++ WM a2 t is V.2.1 V.2.2.1 wm V.2.2.2.1 V.2.2.2.2.1 V.2.2.2.2.2 mco mcr mcc mdn mcs mdf)
          refine g_aload_n F dL_law_525 rfl rfl ?_
          refine g_aload_n F dL_law_526 rfl rfl ?_
          refine g_iload_n F dL_law_527 rfl rfl ?_
          refine g_iconst F (nI 1) dL_law_528 (by decide) ?_
          refine g_iadd_n F dL_law_529 ?_
          refine g_sld F hS (show i + 1 < L by omega) (by omega) dL_law_530 ?_
          refine c_VL F [.long r1] (wr := u1) (cM_dense hMI (xs (i + 1))) cwL_X1_dense ⟨by decide, by decide, rfl, rfl⟩ rfl rfl rfl rfl (Nat.le_of_ble_eq_true rfl) ⟨by decide, by decide⟩ dL_law_531 (fun r2 u2 hu2 => ?_)
          obtain ⟨e2, hM2⟩ := hu2
          refine g_lc_eq F 640 dL_law_534 dL_law_535 (by decide) (fun _ => ?_) (fun z => absurd (denseR_un e1 e2) z)
          refine g_iinc (lv2 := [(0, .ref b), (1, .ref (a1 0)), (2, .ref (a2 0)), (3, .int (nI (i + 4)))]) F (nI (i + 4)) dL_law_640 rfl (nI_add i 4) (by decide) rfl ?_
          refine g_goto F 18 dL_law_643 (by decide) ?_
          exact ih (i + 4) V u1 u2 (by omega) (by omega) hX2 hM2
        · refine g_tableIn (off := 508) F 540 dL_law_32 (by decide) (by decide) (by decide +kernel) (by decide) ?_
          refine g_aload_n F dL_law_540 rfl rfl ?_
          refine g_aload_n F dL_law_541 rfl rfl ?_
          refine g_iload_n F dL_law_542 rfl rfl ?_
          refine g_iconst F (nI 1) dL_law_543 (by decide) ?_
          refine g_iadd_n F dL_law_544 ?_
          refine g_sld F hS (show i + 1 < L by omega) (by omega) dL_law_545 ?_
          refine g_aload_n F dL_law_546 rfl rfl ?_
          refine g_iload_n F dL_law_547 rfl rfl ?_
          refine g_iconst F (nI 2) dL_law_548 (by decide) ?_
          refine g_iadd_n F dL_law_549 ?_
          refine g_sld F hS (show i + 2 < L by omega) (by omega) dL_law_550 ?_
          refine g_swap ?_
          refine c_VL F [] (wr := WM a2 t is V.2.1 V.2.2.1 wm V.2.2.2.1 V.2.2.2.2.1 V.2.2.2.2.2 mco mcr mcc mdn mcs mdf) (cX_meet hI (xs (i + 1)) (xs (i + 2))) cwL_X0_meet ⟨by decide, by decide, rfl, rfl⟩ rfl rfl rfl rfl (Nat.le_of_ble_eq_true rfl) ⟨by decide, by decide⟩ dL_law_551 (fun r1 u1 hu1 => ?_)
          obtain ⟨e1, hX2⟩ := hu1
          refine g_swap ?_
          show GG (EE l D t) X 21 2310 554 [(0, .ref b), (1, .ref (a1 0)), (2, .ref (a2 0)), (3, .int (nI i))] [.long r1] (u1 ++ WM a2 t is V.2.1 V.2.2.1 wm V.2.2.2.1 V.2.2.2.2.1 V.2.2.2.2.2 mco mcr mcc mdn mcs mdf)
          refine g_aload_n F dL_law_554 rfl rfl ?_
          refine g_aload_n F dL_law_555 rfl rfl ?_
          refine g_iload_n F dL_law_556 rfl rfl ?_
          refine g_iconst F (nI 1) dL_law_557 (by decide) ?_
          refine g_iadd_n F dL_law_558 ?_
          refine g_sld F hS (show i + 1 < L by omega) (by omega) dL_law_559 ?_
          refine g_aload_n F dL_law_560 rfl rfl ?_
          refine g_iload_n F dL_law_561 rfl rfl ?_
          refine g_iconst F (nI 2) dL_law_562 (by decide) ?_
          refine g_iadd_n F dL_law_563 ?_
          refine g_sld F hS (show i + 2 < L by omega) (by omega) dL_law_564 ?_
          refine c_VL F [.long r1] (wr := u1) (cM_meet hMI (xs (i + 1)) (xs (i + 2))) cwL_X1_meet ⟨by decide, by decide, rfl, rfl⟩ rfl rfl rfl rfl (Nat.le_of_ble_eq_true rfl) ⟨by decide, by decide⟩ dL_law_565 (fun r2 u2 hu2 => ?_)
          obtain ⟨e2, hM2⟩ := hu2
          refine g_lc_eq F 640 dL_law_568 dL_law_569 (by decide) (fun _ => ?_) (fun z => absurd (meetR_un e1 e2) z)
          refine g_iinc (lv2 := [(0, .ref b), (1, .ref (a1 0)), (2, .ref (a2 0)), (3, .int (nI (i + 4)))]) F (nI (i + 4)) dL_law_640 rfl (nI_add i 4) (by decide) rfl ?_
          refine g_goto F 18 dL_law_643 (by decide) ?_
          exact ih (i + 4) V u1 u2 (by omega) (by omega) hX2 hM2
        · refine g_tableIn (off := 542) F 574 dL_law_32 (by decide) (by decide) (by decide +kernel) (by decide) ?_
          refine g_aload_n F dL_law_574 rfl rfl ?_
          refine g_aload_n F dL_law_575 rfl rfl ?_
          refine g_iload_n F dL_law_576 rfl rfl ?_
          refine g_iconst F (nI 1) dL_law_577 (by decide) ?_
          refine g_iadd_n F dL_law_578 ?_
          refine g_sld F hS (show i + 1 < L by omega) (by omega) dL_law_579 ?_
          refine g_i2l F dL_law_580 ?_
          refine g_bipush F (nI 32) dL_law_581 (by decide) ?_
          refine g_lshl F dL_law_583 ?_
          refine g_aload_n F dL_law_584 rfl rfl ?_
          refine g_iload_n F dL_law_585 rfl rfl ?_
          refine g_iconst F (nI 2) dL_law_586 (by decide) ?_
          refine g_iadd_n F dL_law_587 ?_
          refine g_sld F hS (show i + 2 < L by omega) (by omega) dL_law_588 ?_
          refine g_i2l F dL_law_589 ?_
          refine g_ldc2 F (4294967295) dL_law_590 (List.mem_cons_of_mem _ mw1_6) ?_
          refine g_land F dL_law_593 ?_
          refine g_lor F dL_law_594 ?_
          refine g_swap ?_
          refine c_VI F [] (wr := WM a2 t is V.2.1 V.2.2.1 wm V.2.2.2.1 V.2.2.2.2.1 V.2.2.2.2.2 mco mcr mcc mdn mcs mdf) (cX_crowds hI ((((xs (i + 1)).toInt64) <<< ((nI 32).toInt64 &&& 63)) ||| (((xs (i + 2)).toInt64) &&& (4294967295)))) cwL_X0_crowds ⟨by decide, by decide, rfl, rfl⟩ rfl rfl rfl rfl (Nat.le_of_ble_eq_true rfl) ⟨by decide, by decide⟩ dL_law_595 (fun r1 u1 hu1 => ?_)
          obtain ⟨e1, hX2⟩ := hu1
          refine g_swap ?_
          show GG (EE l D t) X 21 2310 598 [(0, .ref b), (1, .ref (a1 0)), (2, .ref (a2 0)), (3, .int (nI i))] [.int r1] (u1 ++ WM a2 t is V.2.1 V.2.2.1 wm V.2.2.2.1 V.2.2.2.2.1 V.2.2.2.2.2 mco mcr mcc mdn mcs mdf)
          refine g_aload_n F dL_law_598 rfl rfl ?_
          refine g_aload_n F dL_law_599 rfl rfl ?_
          refine g_iload_n F dL_law_600 rfl rfl ?_
          refine g_iconst F (nI 1) dL_law_601 (by decide) ?_
          refine g_iadd_n F dL_law_602 ?_
          refine g_sld F hS (show i + 1 < L by omega) (by omega) dL_law_603 ?_
          refine g_i2l F dL_law_604 ?_
          refine g_bipush F (nI 32) dL_law_605 (by decide) ?_
          refine g_lshl F dL_law_607 ?_
          refine g_aload_n F dL_law_608 rfl rfl ?_
          refine g_iload_n F dL_law_609 rfl rfl ?_
          refine g_iconst F (nI 2) dL_law_610 (by decide) ?_
          refine g_iadd_n F dL_law_611 ?_
          refine g_sld F hS (show i + 2 < L by omega) (by omega) dL_law_612 ?_
          refine g_i2l F dL_law_613 ?_
          refine g_ldc2 F (4294967295) dL_law_614 (List.mem_cons_of_mem _ mw1_6) ?_
          refine g_land F dL_law_617 ?_
          refine g_lor F dL_law_618 ?_
          refine c_VI F [.int r1] (wr := u1) (cM_crowds hMI ((((xs (i + 1)).toInt64) <<< ((nI 32).toInt64 &&& 63)) ||| (((xs (i + 2)).toInt64) &&& (4294967295)))) cwL_X1_crowds ⟨by decide, by decide, rfl, rfl⟩ rfl rfl rfl rfl (Nat.le_of_ble_eq_true rfl) ⟨by decide, by decide⟩ dL_law_619 (fun r2 u2 hu2 => ?_)
          obtain ⟨e2, hM2⟩ := hu2
          refine g_icmp_eq_t F 640 dL_law_622 (by decide) (crowdsR_un e1 e2) ?_
          refine g_iinc (lv2 := [(0, .ref b), (1, .ref (a1 0)), (2, .ref (a2 0)), (3, .int (nI (i + 4)))]) F (nI (i + 4)) dL_law_640 rfl (nI_add i 4) (by decide) rfl ?_
          refine g_goto F 18 dL_law_643 (by decide) ?_
          exact ih (i + 4) V u1 u2 (by omega) (by omega) hX2 hM2
        · refine g_tableIn (off := 595) F 627 dL_law_32 (by decide) (by decide) (by decide +kernel) (by decide) ?_
          refine g_aload_n F dL_law_627 rfl rfl ?_
          refine g_swap ?_
          refine c_VI F [] (wr := WM a2 t is V.2.1 V.2.2.1 wm V.2.2.2.1 V.2.2.2.2.1 V.2.2.2.2.2 mco mcr mcc mdn mcs mdf) (cX_check hI) cwL_X0_check ⟨by decide, by decide, rfl, rfl⟩ rfl rfl rfl rfl (Nat.le_of_ble_eq_true rfl) ⟨by decide, by decide⟩ dL_law_628 (fun r1 u1 hu1 => ?_)
          obtain ⟨e1, hX2⟩ := hu1
          refine g_swap ?_
          show GG (EE l D t) X 21 2310 631 [(0, .ref b), (1, .ref (a1 0)), (2, .ref (a2 0)), (3, .int (nI i))] [.int r1] (u1 ++ WM a2 t is V.2.1 V.2.2.1 wm V.2.2.2.1 V.2.2.2.2.1 V.2.2.2.2.2 mco mcr mcc mdn mcs mdf)
          refine g_aload_n F dL_law_631 rfl rfl ?_
          refine c_VI F [.int r1] (wr := u1) (cM_check hMI) cwL_X1_check ⟨by decide, by decide, rfl, rfl⟩ rfl rfl rfl rfl (Nat.le_of_ble_eq_true rfl) ⟨by decide, by decide⟩ dL_law_632 (fun r2 u2 hu2 => ?_)
          obtain ⟨e2, hM2⟩ := hu2
          refine g_icmp_eq_t F 640 dL_law_635 (by decide) (e1.trans e2.symm) ?_
          refine g_iinc (lv2 := [(0, .ref b), (1, .ref (a1 0)), (2, .ref (a2 0)), (3, .int (nI (i + 4)))]) F (nI (i + 4)) dL_law_640 rfl (nI_add i 4) (by decide) rfl ?_
          refine g_goto F 18 dL_law_643 (by decide) ?_
          exact ih (i + 4) V u1 u2 (by omega) (by omega) hX2 hM2
