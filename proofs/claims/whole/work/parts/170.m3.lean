set_option maxHeartbeats 4000000 in
set_option maxRecDepth 100000 in
/-- meet -/
theorem cM_meet {l : Launch} {D : va_G} {t : Ty3} {a : Nat → Nat} {is : Nat → Bool} {x : Nat → Int32} {y : Nat → Int32} {w : Nat → Nat} {wy : Nat} {re : Nat} {de : Nat} {co : Nat → Bool} {cr : Nat → Option Nat} {cc : Nat} {dn : Nat → Bool} {cs : Nat → Option Nat} {df : Nat → Option Nat} {v : Nat → Nat} (hM : MI v x y wy re de is w) (p q : Int32) : CtL (EE l D t) yX1_meet tsX1_meet (RM 3 80) [.ref (a 0), .int p, .int q] (WM a t is x y w wy re de co cr cc dn cs df) 0 0 (fun r u => meetR v x y wy de p q r ∧ MW a t (v, x, y, wy, re, de) u) := by
  refine CtL.of (by decide +kernel) rfl (Nat.le_of_ble_eq_true rfl) (fun X F E => ?_)
  show GG (EE l D t) X 0 0 0 [(0, .ref (a 0)), (1, .int p), (2, .int q)] [] (WM a t is x y w wy re de co cr cc dn cs df)
  refine g_aload_n F dX1_meet_0 rfl rfl ?_
  refine g_iload_n F dX1_meet_1 rfl rfl ?_
  refine c_VI F [] (wr := []) (cM_isPoint p) cwX1_X1_isPoint ⟨by decide, by decide, rfl, rfl⟩ rfl rfl rfl rfl (Nat.le_of_ble_eq_true rfl) ⟨by decide, by decide⟩ dX1_meet_2 (fun r u hu => ?_)
  obtain ⟨rfl, rfl⟩ := hu
  show GG (EE l D t) X 0 0 5 [(0, .ref (a 0)), (1, .int p), (2, .int q)] [.int (b2 (isPt is p))] (WM a t is x y w wy re de co cr cc dn cs df)
  refine g_if_eq_b F 16 dX1_meet_5 (by decide)  (fun h => ?_) (fun h => ?_)
  · rw [hM.isv] at h
    refine g_ldc2 F (oL none) dX1_meet_16 (List.mem_cons_of_mem _ mw7_15) ?_
    exact E _ _ _ _ dX1_meet_19 ⟨by unfold meetR; rw [pt_f h], ⟨_, _, _, _, _, _, _, _, rfl, hM⟩⟩
  · obtain ⟨i0, hi0, rfl, hsi0⟩ := isPt_t h
    have hwi0 : 0 < v i0 := (hM.y hsi0).1
    refine g_aload_n F dX1_meet_8 rfl rfl ?_
    refine g_iload_n F dX1_meet_9 rfl rfl ?_
    refine c_VI F [] (wr := []) (cM_isPoint q) cwX1_X1_isPoint ⟨by decide, by decide, rfl, rfl⟩ rfl rfl rfl rfl (Nat.le_of_ble_eq_true rfl) ⟨by decide, by decide⟩ dX1_meet_10 (fun r u hu => ?_)
    obtain ⟨rfl, rfl⟩ := hu
    show GG (EE l D t) X 0 0 13 [(0, .ref (a 0)), (1, .int (nI i0)), (2, .int q)] [.int (b2 (isPt is q))] (WM a t is x y w wy re de co cr cc dn cs df)
    refine g_if_ne_b F 20 dX1_meet_13 (by decide)  (fun h2 => ?_) (fun h2 => ?_)
    · obtain ⟨j0, hj0, rfl, hsj0⟩ := isPt_t h2
      have hwj0 : 0 < v j0 := (hM.y hsj0).1
      refine g_iconst F (nI 0) dX1_meet_20 (by decide) ?_
      refine g_istore_n (lv2 := [(0, .ref (a 0)), (1, .int (nI i0)), (2, .int (nI j0)), (3, .int (nI 0))]) F dX1_meet_21 rfl (by decide) rfl ?_
      have hd1 : 1 ≤ de := hM.1.2.2.2.2.2.1
      have ph1 : ∀ (m i : Nat) (f1 : Nat → Option Nat), i + m = 120 → (∀ k, k < i → 0 < v k → isDn v (gp wy x y k) de (f1 k) ∧ ∀ d, f1 k = some d → d < MX) ∧ (∀ k, k < i → v k = 0 → f1 k = none) → GG (EE l D t) X 0 0 22 [(0, .ref (a 0)), (1, .int (nI i0)), (2, .int (nI j0)), (3, .int (nI i))] [] (WM a t is x y w wy re de co cr cc (fill dn (fun _ => false) i) (fill cs (fun _ => none) i) f1) := by
        intro m
        induction m with
        | zero =>
          intro i f1 him hF
          have hi : i = 120 := by omega
          subst hi
          obtain ⟨hF1, hF2⟩ := hF
          refine g_iload_n F dX1_meet_22 rfl rfl ?_
          refine g_bipush F (nI 120) dX1_meet_23 (by decide) ?_
          refine g_icmp_ge_t F 76 dX1_meet_25 (by decide) (nI_le (Nat.le_refl 120) (by decide)) ?_
          refine g_aload_n F dX1_meet_76 rfl rfl ?_
          refine gM_get_cost F dX1_meet_77 ?_
          refine g_iload_n F dX1_meet_80 rfl rfl ?_
          refine g_aload_n F dX1_meet_81 rfl rfl ?_
          refine gM_get_denseOf F dX1_meet_82 ?_
          refine g_iload_n F dX1_meet_85 rfl rfl ?_
          refine gM_ld_denseOf F hi0 dX1_meet_86 ?_
          refine gM_st_cost F hi0 dX1_meet_87 ?_
          refine g_iconst F (b2 true) dX1_meet_88 (by decide) ?_
          refine g_istore_n (lv2 := [(0, .ref (a 0)), (1, .int (nI i0)), (2, .int (nI j0)), (3, .int (b2 true))]) F dX1_meet_89 rfl (by decide) rfl ?_
          have hdf : ∀ k, k < 120 → f1 k ≠ none → f1 k = some ((f1 k).getD 0) ∧ (f1 k).getD 0 < MX := fun k hk hn => by
            have hv : 0 < v k := Nat.pos_of_ne_zero fun z => hn (hF2 k hk z)
            cases e : f1 k with
            | none => exact absurd e hn
            | some d => exact ⟨rfl, (hF1 k hk hv).2 d e⟩
          have sel : ∀ (c1 : Nat → Option Nat) (d1 : Nat → Bool), bdM c1 → (chp1 (mwt c1) d1 (cN c1) = none → meetR v x y wy de (nI i0) (nI j0) (oL (c1 j0))) → (∀ b, chp1 (mwt c1) d1 (cN c1) = some b → GG (EE l D t) X 0 0 90 [(0, .ref (a 0)), (1, .int (nI i0)), (2, .int (nI j0)), (3, .int (b2 true))] [] (WM a t is x y w wy re de co cr cc (up d1 b true) (fill c1 (rlM (fun k => (f1 k).getD 0) (gp wy x y b) (cN c1 b) c1 (up d1 b true) f1) 120) f1)) → GG (EE l D t) X 0 0 90 [(0, .ref (a 0)), (1, .int (nI i0)), (2, .int (nI j0)), (3, .int (b2 true))] [] (WM a t is x y w wy re de co cr cc d1 c1 f1) := by
            intro c1 d1 hb hnone hsome
            refine g_iload_n F dX1_meet_90 rfl rfl ?_
            refine g_if_eq_b F 311 dX1_meet_91 (by decide) (fun h9 => by cases h9) (fun h9 => ?_)
            refine g_iconst F (oI none) dX1_meet_94 (by decide) ?_
            refine g_istore (lv2 := [(0, .ref (a 0)), (1, .int (nI i0)), (2, .int (nI j0)), (3, .int (b2 true)), (4, .int (oI none))]) F dX1_meet_95 (by decide) rfl ?_
            refine g_iconst F (nI 0) dX1_meet_97 (by decide) ?_
            refine g_istore (lv2 := [(0, .ref (a 0)), (1, .int (nI i0)), (2, .int (nI j0)), (3, .int (b2 true)), (4, .int (oI none)), (5, .int (nI 0))]) F dX1_meet_98 (by decide) rfl ?_
            have e9 : chp (mwt c1) d1 (cN c1) 0 = none := rfl
            refine up_loop (P := fun i => GG (EE l D t) X 0 0 100 [(0, .ref (a 0)), (1, .int (nI i0)), (2, .int (nI j0)), (3, .int (b2 true)), (4, .int (oI (chp (mwt c1) d1 (cN c1) i))), (5, .int (nI i))] [] (WM a t is x y w wy re de co cr cc d1 c1 f1)) 120 ?_ (fun i hi ih => ?_)
            · show GG (EE l D t) X 0 0 100 [(0, .ref (a 0)), (1, .int (nI i0)), (2, .int (nI j0)), (3, .int (b2 true)), (4, .int (oI (chp (mwt c1) d1 (cN c1) 120))), (5, .int (nI 120))] [] (WM a t is x y w wy re de co cr cc d1 c1 f1)
              refine g_iload F dX1_meet_100 rfl ?_
              refine g_bipush F (nI 120) dX1_meet_102 (by decide) ?_
              refine g_icmp_ge_t F 162 dX1_meet_104 (by decide) (nI_le (Nat.le_refl 120) (by decide)) ?_
              rw [← chp1_eq]
              cases hz : chp1 (mwt c1) d1 (cN c1) with
              | none =>
                refine g_iload F dX1_meet_162 rfl ?_
                refine g_if_lt_o F 171 dX1_meet_164 (by decide) (fun k hk => by cases hk) (fun h9 => ?_) (fun h9 => absurd rfl h9)
                refine g_iconst F (b2 false) dX1_meet_171 (by decide) ?_
                refine g_istore_n (lv2 := [(0, .ref (a 0)), (1, .int (nI i0)), (2, .int (nI j0)), (3, .int (b2 false)), (4, .int (oI none)), (5, .int (nI 120))]) F dX1_meet_172 rfl (by decide) rfl ?_
                refine g_iload_n F dX1_meet_173 rfl rfl ?_
                refine g_if_eq_b F 185 dX1_meet_174 (by decide) (fun h9 => ?_) (fun h9 => by cases h9)
                refine g_iconst F (nI 0) dX1_meet_185 (by decide) ?_
                refine g_istore (lv2 := [(0, .ref (a 0)), (1, .int (nI i0)), (2, .int (nI j0)), (3, .int (b2 false)), (4, .int (oI none)), (5, .int (nI 0))]) F dX1_meet_186 (by decide) rfl ?_
                refine g_iload F dX1_meet_188 rfl ?_
                refine g_bipush F (nI 120) dX1_meet_190 (by decide) ?_
                refine g_icmp_ge_f F 308 dX1_meet_192 (by decide) (nI_ge (show 0 < 120 by decide) (by decide)) ?_
                refine g_iload_n F dX1_meet_195 rfl rfl ?_
                refine g_if_eq_b F 308 dX1_meet_196 (by decide) (fun h9 => ?_) (fun h9 => by cases h9)
                refine g_goto F 90 dX1_meet_308 (by decide) ?_
                refine g_iload_n F dX1_meet_90 rfl rfl ?_
                refine g_if_eq_b F 311 dX1_meet_91 (by decide) (fun h9 => ?_) (fun h9 => by cases h9)
                refine g_aload_n F dX1_meet_311 rfl rfl ?_
                refine gM_get_cost F dX1_meet_312 ?_
                refine g_iload_n F dX1_meet_315 rfl rfl ?_
                refine gM_ld_cost F hj0 dX1_meet_316 ?_
                exact E _ _ _ _ dX1_meet_317 ⟨hnone hz, ⟨_, _, _, _, _, _, _, _, rfl, hM⟩⟩
              | some b =>
                obtain ⟨hb1, hb2, hb3, hb4⟩ := (chp_ok 120).1 b (by rw [← chp1_eq]; exact hz)
                obtain ⟨cb, hcb⟩ := Option.ne_none_iff_exists'.mp (mwt_y.mp hb2)
                have hcb2 := hb b hb1 cb hcb
                have hcb3 : cN c1 b = cb := cN_s hcb
                refine g_iload F dX1_meet_162 rfl ?_
                refine g_if_lt_o F 171 dX1_meet_164 (by decide) (fun k hk => by cases hk; omega) (fun h9 => by cases h9) (fun h9 => ?_)
                show GG (EE l D t) X 0 0 167 [(0, .ref (a 0)), (1, .int (nI i0)), (2, .int (nI j0)), (3, .int (b2 true)), (4, .int (nI b)), (5, .int (nI 120))] [] (WM a t is x y w wy re de co cr cc d1 c1 f1)
                refine g_iconst F (b2 true) dX1_meet_167 (by decide) ?_
                refine g_goto F 172 dX1_meet_168 (by decide) ?_
                refine g_istore_n (lv2 := [(0, .ref (a 0)), (1, .int (nI i0)), (2, .int (nI j0)), (3, .int (b2 true)), (4, .int (nI b)), (5, .int (nI 120))]) F dX1_meet_172 rfl (by decide) rfl ?_
                refine g_iload_n F dX1_meet_173 rfl rfl ?_
                refine g_if_eq_b F 185 dX1_meet_174 (by decide) (fun h9 => by cases h9) (fun h9 => ?_)
                refine g_aload_n F dX1_meet_177 rfl rfl ?_
                refine gM_get_done F dX1_meet_178 ?_
                refine g_iload F dX1_meet_181 rfl ?_
                refine g_iconst F (b2 true) dX1_meet_183 (by decide) ?_
                refine gM_st_done F hb1 dX1_meet_184 ?_
                refine g_iconst F (nI 0) dX1_meet_185 (by decide) ?_
                refine g_istore (lv2 := [(0, .ref (a 0)), (1, .int (nI i0)), (2, .int (nI j0)), (3, .int (b2 true)), (4, .int (nI b)), (5, .int (nI 0))]) F dX1_meet_186 (by decide) rfl ?_
                have hR : ∀ i, fill c1 (rlM (fun k => (f1 k).getD 0) (gp wy x y b) (cN c1 b) c1 (up d1 b true) f1) i b = c1 b := fun i => by
                  unfold fill rlM
                  split
                  · rw [if_neg (by rw [up_s]; simp)]
                  · rfl
                have e0 : WM a t is x y w wy re de co cr cc (up d1 b true) (fill c1 (rlM (fun k => (f1 k).getD 0) (gp wy x y b) (cN c1 b) c1 (up d1 b true) f1) 0) f1 = WM a t is x y w wy re de co cr cc (up d1 b true) c1 f1 := by rw [fill_0]
                rw [← e0]
                refine up_loop (P := fun i => GG (EE l D t) X 0 0 188 [(0, .ref (a 0)), (1, .int (nI i0)), (2, .int (nI j0)), (3, .int (b2 true)), (4, .int (nI b)), (5, .int (nI i))] [] (WM a t is x y w wy re de co cr cc (up d1 b true) (fill c1 (rlM (fun k => (f1 k).getD 0) (gp wy x y b) (cN c1 b) c1 (up d1 b true) f1) i) f1)) 120 ?_ (fun i hi ih => ?_)
                · show GG (EE l D t) X 0 0 188 [(0, .ref (a 0)), (1, .int (nI i0)), (2, .int (nI j0)), (3, .int (b2 true)), (4, .int (nI b)), (5, .int (nI 120))] [] (WM a t is x y w wy re de co cr cc (up d1 b true) (fill c1 (rlM (fun k => (f1 k).getD 0) (gp wy x y b) (cN c1 b) c1 (up d1 b true) f1) 120) f1)
                  refine g_iload F dX1_meet_188 rfl ?_
                  refine g_bipush F (nI 120) dX1_meet_190 (by decide) ?_
                  refine g_icmp_ge_t F 308 dX1_meet_192 (by decide) (nI_le (Nat.le_refl 120) (by decide)) ?_
                  refine g_goto F 90 dX1_meet_308 (by decide) ?_
                  refine g_lv [0, 1, 2, 3] rfl ?_
                  exact hsome b hz
                · show GG (EE l D t) X 0 0 188 [(0, .ref (a 0)), (1, .int (nI i0)), (2, .int (nI j0)), (3, .int (b2 true)), (4, .int (nI b)), (5, .int (nI i))] [] (WM a t is x y w wy re de co cr cc (up d1 b true) (fill c1 (rlM (fun k => (f1 k).getD 0) (gp wy x y b) (cN c1 b) c1 (up d1 b true) f1) i) f1)
                  refine g_iload F dX1_meet_188 rfl ?_
                  refine g_bipush F (nI 120) dX1_meet_190 (by decide) ?_
                  refine g_icmp_ge_f F 308 dX1_meet_192 (by decide) (nI_ge hi (by decide)) ?_
                  refine g_iload_n F dX1_meet_195 rfl rfl ?_
                  refine g_if_eq_b F 308 dX1_meet_196 (by decide) (fun h9 => by cases h9) (fun h9 => ?_)
                  refine g_aload_n F dX1_meet_199 rfl rfl ?_
                  refine gM_get_done F dX1_meet_200 ?_
                  refine g_iload F dX1_meet_203 rfl ?_
                  refine gM_ld_done F hi dX1_meet_205 ?_
                  refine g_if_ne_b F 302 dX1_meet_206 (by decide)  (fun h3 => ?_) (fun h3 => ?_)
                  · refine g_iinc (lv2 := [(0, .ref (a 0)), (1, .int (nI i0)), (2, .int (nI j0)), (3, .int (b2 true)), (4, .int (nI b)), (5, .int (nI (i + 1)))]) F (nI (i + 1)) dX1_meet_302 rfl (nI_add i 1) (by decide) rfl ?_
                    refine g_goto F 188 dX1_meet_305 (by decide) ?_
                    rw [fill_same (f := c1) (g := (rlM (fun k => (f1 k).getD 0) (gp wy x y b) (cN c1 b) c1 (up d1 b true) f1)) (by unfold rlM; rw [if_neg (by simp [h3])])] at ih
                    exact ih
                  · refine g_aload_n F dX1_meet_209 rfl rfl ?_
                    refine gM_get_denseOf F dX1_meet_210 ?_
                    refine g_iload F dX1_meet_213 rfl ?_
                    refine gM_ld_denseOf F hi dX1_meet_215 ?_
                    refine g_lconst F (lN 0) dX1_meet_216 rfl ?_
                    refine g_lc_ge_o F 224 dX1_meet_217 dX1_meet_218 (by decide) (fun k hk => Nat.lt_trans (by have := hdf i hi (by rw [hk]; simp); rw [hk] at this; exact this.2) (by decide)) (fun h4 => ?_) (fun h4 => ?_)
                    · obtain ⟨hd1_, hd2_⟩ := hdf i hi h4
                      refine g_aload_n F dX1_meet_224 rfl rfl ?_
                      refine gM_get_cost F dX1_meet_225 ?_
                      refine g_iload F dX1_meet_228 rfl ?_
                      refine gM_ld_cost F hb1 dX1_meet_230 ?_
                      refine g_topl (y := lN cb) (by rw [hR i, hcb]; rfl) ?_
                      refine g_aload_n F dX1_meet_231 rfl rfl ?_
                      refine gM_get_denseOf F dX1_meet_232 ?_
                      refine g_iload F dX1_meet_235 rfl ?_
                      refine gM_ld_denseOf F hi dX1_meet_237 ?_
                      refine g_topl (y := lN ((f1 i).getD 0)) (by rw [hd1_]; rfl) ?_
                      refine c_SL F [] (wr := []) (cM_greater (Nat.lt_trans hcb2 (by decide)) (Nat.lt_trans hd2_ (by decide))) cwX1_X1_greater ⟨by decide, by decide, rfl, rfl⟩ rfl rfl (Nat.le_of_ble_eq_true rfl) ⟨by decide, by decide⟩ dX1_meet_238 (fun r u hu => ?_)
                      obtain ⟨rfl, rfl⟩ := hu
                      show GG (EE l D t) X 0 0 241 [(0, .ref (a 0)), (1, .int (nI i0)), (2, .int (nI j0)), (3, .int (b2 true)), (4, .int (nI b)), (5, .int (nI i))] [.long (lN (max cb ((f1 i).getD 0)))] (WM a t is x y w wy re de co cr cc (up d1 b true) (fill c1 (rlM (fun k => (f1 k).getD 0) (gp wy x y b) (cN c1 b) c1 (up d1 b true) f1) i) f1)
                      refine g_aload_n F dX1_meet_241 rfl rfl ?_
                      refine g_iload F dX1_meet_242 rfl ?_
                      refine g_aload_n F dX1_meet_244 rfl rfl ?_
                      refine gM_get_xs F dX1_meet_245 ?_
                      refine g_iload F dX1_meet_248 rfl ?_
                      refine gM_ld_xs F hi dX1_meet_250 ?_
                      refine g_i2l F dX1_meet_251 ?_
                      refine g_aload_n F dX1_meet_252 rfl rfl ?_
                      refine gM_get_ys F dX1_meet_253 ?_
                      refine g_iload F dX1_meet_256 rfl ?_
                      refine gM_ld_ys F hi dX1_meet_258 ?_
                      refine g_i2l F dX1_meet_259 ?_
                      refine c_VL F [.long (lN (max cb ((f1 i).getD 0)))] (wr := []) (cM_far hM.1.2.2.2.1 hb1 (x i) (y i)) cwX1_X1_far ⟨by decide, by decide, rfl, rfl⟩ rfl rfl rfl rfl (Nat.le_of_ble_eq_true rfl) ⟨by decide, by decide⟩ dX1_meet_260 (fun r u hu => ?_)
                      obtain ⟨rfl, rfl⟩ := hu
                      show GG (EE l D t) X 0 0 263 [(0, .ref (a 0)), (1, .int (nI i0)), (2, .int (nI j0)), (3, .int (b2 true)), (4, .int (nI b)), (5, .int (nI i))] [.long (lN (gapN wy (x b) (y b) (x i) (y i))), .long (lN (max cb ((f1 i).getD 0)))] (WM a t is x y w wy re de co cr cc (up d1 b true) (fill c1 (rlM (fun k => (f1 k).getD 0) (gp wy x y b) (cN c1 b) c1 (up d1 b true) f1) i) f1)
                      refine g_topl (y := lN (gp wy x y b i)) (congrArg lN (gapN_comm _ _ _ _ _)) ?_
                      refine c_SL F [] (wr := []) (cM_greater (Nat.max_lt.mpr ⟨(Nat.lt_trans hcb2 (by decide)), (Nat.lt_trans hd2_ (by decide))⟩) (Nat.lt_trans (gp_lt hM.1 b i) (by decide))) cwX1_X1_greater ⟨by decide, by decide, rfl, rfl⟩ rfl rfl (Nat.le_of_ble_eq_true rfl) ⟨by decide, by decide⟩ dX1_meet_263 (fun r u hu => ?_)
                      obtain ⟨rfl, rfl⟩ := hu
                      show GG (EE l D t) X 0 0 266 [(0, .ref (a 0)), (1, .int (nI i0)), (2, .int (nI j0)), (3, .int (b2 true)), (4, .int (nI b)), (5, .int (nI i))] [.long (lN (max (max cb ((f1 i).getD 0)) (gp wy x y b i)))] (WM a t is x y w wy re de co cr cc (up d1 b true) (fill c1 (rlM (fun k => (f1 k).getD 0) (gp wy x y b) (cN c1 b) c1 (up d1 b true) f1) i) f1)
                      have hnu : max (max cb ((f1 i).getD 0)) (gp wy x y b i) < MX := Nat.max_lt.mpr ⟨Nat.max_lt.mpr ⟨hcb2, hd2_⟩, gp_lt hM.1 b i⟩
                      refine g_lstore (lv2 := [(0, .ref (a 0)), (1, .int (nI i0)), (2, .int (nI j0)), (3, .int (b2 true)), (4, .int (nI b)), (5, .int (nI i)), (6, .long (lN (max (max cb ((f1 i).getD 0)) (gp wy x y b i))))]) F dX1_meet_266 (by decide) rfl ?_
                      refine g_aload_n F dX1_meet_268 rfl rfl ?_
                      refine gM_get_cost F dX1_meet_269 ?_
                      refine g_iload F dX1_meet_272 rfl ?_
                      refine gM_ld_cost F hi dX1_meet_274 ?_
                      refine g_topl (y := oL (c1 i)) (by rw [fill_at]) ?_
                      refine g_lconst F (lN 0) dX1_meet_275 rfl ?_
                      refine g_lc_lt_o F 293 dX1_meet_276 dX1_meet_277 (by decide) (fun k hk => Nat.lt_trans (hb i hi k hk) (by decide)) (fun h5 => ?_) (fun h5 => ?_)
                      · refine g_aload_n F dX1_meet_293 rfl rfl ?_
                        refine gM_get_cost F dX1_meet_294 ?_
                        refine g_iload F dX1_meet_297 rfl ?_
                        refine g_lload F dX1_meet_299 rfl ?_
                        refine gM_st_cost (e := (some (max (max cb ((f1 i).getD 0)) (gp wy x y b i)))) F hi dX1_meet_301 ?_
                        refine g_iinc (lv2 := [(0, .ref (a 0)), (1, .int (nI i0)), (2, .int (nI j0)), (3, .int (b2 true)), (4, .int (nI b)), (5, .int (nI (i + 1))), (6, .long (lN (max (max cb ((f1 i).getD 0)) (gp wy x y b i))))]) F (nI (i + 1)) dX1_meet_302 rfl (nI_add i 1) (by decide) rfl ?_
                        refine g_goto F 188 dX1_meet_305 (by decide) ?_
                        rw [fill_up (f := c1) (g := (rlM (fun k => (f1 k).getD 0) (gp wy x y b) (cN c1 b) c1 (up d1 b true) f1)) (v := some (max (max cb ((f1 i).getD 0)) (gp wy x y b i))) (by unfold rlM; rw [if_pos ⟨h3, h4⟩, hcb3]; rw [h5]; rfl)] at ih
                        refine g_lv [0, 1, 2, 3, 4, 5] rfl ?_
                        exact ih
                      · obtain ⟨u, hu⟩ := Option.ne_none_iff_exists'.mp h5
                        have hu2 := hb i hi u hu
                        refine g_lload F dX1_meet_280 rfl ?_
                        refine g_aload_n F dX1_meet_282 rfl rfl ?_
                        refine gM_get_cost F dX1_meet_283 ?_
                        refine g_iload F dX1_meet_286 rfl ?_
                        refine gM_ld_cost F hi dX1_meet_288 ?_
                        refine g_topl (y := lN u) (by rw [fill_at, hu]; rfl) ?_
                        refine g_lc_ge_n F 302 dX1_meet_289 dX1_meet_290 (by decide) (Nat.lt_trans hnu (by decide)) (Nat.lt_trans hu2 (by decide)) (fun h6 => ?_) (fun h6 => ?_)
                        · refine g_iinc (lv2 := [(0, .ref (a 0)), (1, .int (nI i0)), (2, .int (nI j0)), (3, .int (b2 true)), (4, .int (nI b)), (5, .int (nI (i + 1))), (6, .long (lN (max (max cb ((f1 i).getD 0)) (gp wy x y b i))))]) F (nI (i + 1)) dX1_meet_302 rfl (nI_add i 1) (by decide) rfl ?_
                          refine g_goto F 188 dX1_meet_305 (by decide) ?_
                          rw [fill_same (f := c1) (g := (rlM (fun k => (f1 k).getD 0) (gp wy x y b) (cN c1 b) c1 (up d1 b true) f1)) (by unfold rlM; rw [if_pos ⟨h3, h4⟩, hcb3, hu]; exact congrArg some (Nat.min_eq_left h6))] at ih
                          refine g_lv [0, 1, 2, 3, 4, 5] rfl ?_
                          exact ih
                        · refine g_aload_n F dX1_meet_293 rfl rfl ?_
                          refine gM_get_cost F dX1_meet_294 ?_
                          refine g_iload F dX1_meet_297 rfl ?_
                          refine g_lload F dX1_meet_299 rfl ?_
                          refine gM_st_cost (e := (some (max (max cb ((f1 i).getD 0)) (gp wy x y b i)))) F hi dX1_meet_301 ?_
                          refine g_iinc (lv2 := [(0, .ref (a 0)), (1, .int (nI i0)), (2, .int (nI j0)), (3, .int (b2 true)), (4, .int (nI b)), (5, .int (nI (i + 1))), (6, .long (lN (max (max cb ((f1 i).getD 0)) (gp wy x y b i))))]) F (nI (i + 1)) dX1_meet_302 rfl (nI_add i 1) (by decide) rfl ?_
                          refine g_goto F 188 dX1_meet_305 (by decide) ?_
                          rw [fill_up (f := c1) (g := (rlM (fun k => (f1 k).getD 0) (gp wy x y b) (cN c1 b) c1 (up d1 b true) f1)) (v := some (max (max cb ((f1 i).getD 0)) (gp wy x y b i))) (by unfold rlM; rw [if_pos ⟨h3, h4⟩, hcb3]; rw [hu]; exact congrArg some (Nat.min_eq_right (Nat.le_of_lt h6)))] at ih
                          refine g_lv [0, 1, 2, 3, 4, 5] rfl ?_
                          exact ih
                    · refine g_goto F 302 dX1_meet_221 (by decide) ?_
                      refine g_iinc (lv2 := [(0, .ref (a 0)), (1, .int (nI i0)), (2, .int (nI j0)), (3, .int (b2 true)), (4, .int (nI b)), (5, .int (nI (i + 1)))]) F (nI (i + 1)) dX1_meet_302 rfl (nI_add i 1) (by decide) rfl ?_
                      refine g_goto F 188 dX1_meet_305 (by decide) ?_
                      rw [fill_same (f := c1) (g := (rlM (fun k => (f1 k).getD 0) (gp wy x y b) (cN c1 b) c1 (up d1 b true) f1)) (by unfold rlM; rw [if_neg (by simp [h4])])] at ih
                      exact ih
            · show GG (EE l D t) X 0 0 100 [(0, .ref (a 0)), (1, .int (nI i0)), (2, .int (nI j0)), (3, .int (b2 true)), (4, .int (oI (chp (mwt c1) d1 (cN c1) i))), (5, .int (nI i))] [] (WM a t is x y w wy re de co cr cc d1 c1 f1)
              refine g_iload F dX1_meet_100 rfl ?_
              refine g_bipush F (nI 120) dX1_meet_102 (by decide) ?_
              refine g_icmp_ge_f F 162 dX1_meet_104 (by decide) (nI_ge hi (by decide)) ?_
              cases hz : chp (mwt c1) d1 (cN c1) i with
              | none =>
                refine g_aload_n F dX1_meet_107 rfl rfl ?_
                refine gM_get_done F dX1_meet_108 ?_
                refine g_iload F dX1_meet_111 rfl ?_
                refine gM_ld_done F hi dX1_meet_113 ?_
                refine g_if_ne_b F 156 dX1_meet_114 (by decide)  (fun h3 => ?_) (fun h3 => ?_)
                · refine g_iinc (lv2 := [(0, .ref (a 0)), (1, .int (nI i0)), (2, .int (nI j0)), (3, .int (b2 true)), (4, .int (oI none)), (5, .int (nI (i + 1)))]) F (nI (i + 1)) dX1_meet_156 rfl (nI_add i 1) (by decide) rfl ?_
                  refine g_goto F 100 dX1_meet_159 (by decide) ?_
                  rw [chp_n (by simp [h3]), hz] at ih
                  exact ih
                · refine g_aload_n F dX1_meet_117 rfl rfl ?_
                  refine gM_get_cost F dX1_meet_118 ?_
                  refine g_iload F dX1_meet_121 rfl ?_
                  refine gM_ld_cost F hi dX1_meet_123 ?_
                  refine g_lconst F (lN 0) dX1_meet_124 rfl ?_
                  refine g_lc_lt_o F 156 dX1_meet_125 dX1_meet_126 (by decide) (fun k hk => Nat.lt_trans (hb i hi k hk) (by decide)) (fun h4 => ?_) (fun h4 => ?_)
                  · refine g_iinc (lv2 := [(0, .ref (a 0)), (1, .int (nI i0)), (2, .int (nI j0)), (3, .int (b2 true)), (4, .int (oI none)), (5, .int (nI (i + 1)))]) F (nI (i + 1)) dX1_meet_156 rfl (nI_add i 1) (by decide) rfl ?_
                    refine g_goto F 100 dX1_meet_159 (by decide) ?_
                    rw [chp_n (fun z => mwt_y.mp z.1 h4), hz] at ih
                    exact ih
                  · refine g_iload F dX1_meet_129 rfl ?_
                    refine g_if_lt_o F 152 dX1_meet_131 (by decide) (fun k hk => by cases hk) (fun h9 => ?_) (fun h9 => absurd rfl h9)
                    refine g_iload F dX1_meet_152 rfl ?_
                    refine g_istore (lv2 := [(0, .ref (a 0)), (1, .int (nI i0)), (2, .int (nI j0)), (3, .int (b2 true)), (4, .int (nI i)), (5, .int (nI i))]) F dX1_meet_154 (by decide) rfl ?_
                    refine g_iinc (lv2 := [(0, .ref (a 0)), (1, .int (nI i0)), (2, .int (nI j0)), (3, .int (b2 true)), (4, .int (nI i)), (5, .int (nI (i + 1)))]) F (nI (i + 1)) dX1_meet_156 rfl (nI_add i 1) (by decide) rfl ?_
                    refine g_goto F 100 dX1_meet_159 (by decide) ?_
                    rw [chp_y (mwt_y.mpr h4) h3 (by rw [hz]; rfl)] at ih
                    exact ih
              | some b =>
                obtain ⟨hb1, hb2, -, -⟩ := (chp_ok i).1 b hz
                show GG (EE l D t) X 0 0 107 [(0, .ref (a 0)), (1, .int (nI i0)), (2, .int (nI j0)), (3, .int (b2 true)), (4, .int (nI b)), (5, .int (nI i))] [] (WM a t is x y w wy re de co cr cc d1 c1 f1)
                refine g_aload_n F dX1_meet_107 rfl rfl ?_
                refine gM_get_done F dX1_meet_108 ?_
                refine g_iload F dX1_meet_111 rfl ?_
                refine gM_ld_done F hi dX1_meet_113 ?_
                refine g_if_ne_b F 156 dX1_meet_114 (by decide)  (fun h3 => ?_) (fun h3 => ?_)
                · refine g_iinc (lv2 := [(0, .ref (a 0)), (1, .int (nI i0)), (2, .int (nI j0)), (3, .int (b2 true)), (4, .int (nI b)), (5, .int (nI (i + 1)))]) F (nI (i + 1)) dX1_meet_156 rfl (nI_add i 1) (by decide) rfl ?_
                  refine g_goto F 100 dX1_meet_159 (by decide) ?_
                  rw [chp_n (by simp [h3]), hz] at ih
                  exact ih
                · refine g_aload_n F dX1_meet_117 rfl rfl ?_
                  refine gM_get_cost F dX1_meet_118 ?_
                  refine g_iload F dX1_meet_121 rfl ?_
                  refine gM_ld_cost F hi dX1_meet_123 ?_
                  refine g_lconst F (lN 0) dX1_meet_124 rfl ?_
                  refine g_lc_lt_o F 156 dX1_meet_125 dX1_meet_126 (by decide) (fun k hk => Nat.lt_trans (hb i hi k hk) (by decide)) (fun h4 => ?_) (fun h4 => ?_)
                  · refine g_iinc (lv2 := [(0, .ref (a 0)), (1, .int (nI i0)), (2, .int (nI j0)), (3, .int (b2 true)), (4, .int (nI b)), (5, .int (nI (i + 1)))]) F (nI (i + 1)) dX1_meet_156 rfl (nI_add i 1) (by decide) rfl ?_
                    refine g_goto F 100 dX1_meet_159 (by decide) ?_
                    rw [chp_n (fun z => mwt_y.mp z.1 h4), hz] at ih
                    exact ih
                  · refine g_iload F dX1_meet_129 rfl ?_
                    refine g_if_lt_o (q := some b) F 152 dX1_meet_131 (by decide) (fun k hk => by cases hk; omega) (fun h9 => by cases h9) (fun h9 => ?_)
                    obtain ⟨u1, hu1⟩ := Option.ne_none_iff_exists'.mp h4
                    obtain ⟨u2, hu2⟩ := Option.ne_none_iff_exists'.mp (mwt_y.mp hb2)
                    have l1 := hb i hi u1 hu1
                    have l2 := hb b (by omega) u2 hu2
                    refine g_aload_n F dX1_meet_134 rfl rfl ?_
                    refine gM_get_cost F dX1_meet_135 ?_
                    refine g_iload F dX1_meet_138 rfl ?_
                    refine gM_ld_cost F hi dX1_meet_140 ?_
                    refine g_aload_n F dX1_meet_141 rfl rfl ?_
                    refine gM_get_cost F dX1_meet_142 ?_
                    refine g_iload F dX1_meet_145 rfl ?_
                    refine gM_ld_cost F (by omega) dX1_meet_147 ?_
                    refine g_eq (lv' := [(0, .ref (a 0)), (1, .int (nI i0)), (2, .int (nI j0)), (3, .int (b2 true)), (4, .int (nI b)), (5, .int (nI i))]) (st' := [.long (lN u2), .long (lN u1)]) ?_ rfl rfl (by rw [hu1, hu2]; rfl) rfl
                    refine g_lc_ge_n F 156 dX1_meet_148 dX1_meet_149 (by decide) (Nat.lt_trans l1 (by decide)) (Nat.lt_trans l2 (by decide)) (fun h5 => ?_) (fun h5 => ?_)
                    · refine g_iinc (lv2 := [(0, .ref (a 0)), (1, .int (nI i0)), (2, .int (nI j0)), (3, .int (b2 true)), (4, .int (nI b)), (5, .int (nI (i + 1)))]) F (nI (i + 1)) dX1_meet_156 rfl (nI_add i 1) (by decide) rfl ?_
                      refine g_goto F 100 dX1_meet_159 (by decide) ?_
                      rw [chp_n (by rw [hz]; simp [chps, cN_s hu1, cN_s hu2]; omega), hz] at ih
                      exact ih
                    · refine g_iload F dX1_meet_152 rfl ?_
                      refine g_istore (lv2 := [(0, .ref (a 0)), (1, .int (nI i0)), (2, .int (nI j0)), (3, .int (b2 true)), (4, .int (nI i)), (5, .int (nI i))]) F dX1_meet_154 (by decide) rfl ?_
                      refine g_iinc (lv2 := [(0, .ref (a 0)), (1, .int (nI i0)), (2, .int (nI j0)), (3, .int (b2 true)), (4, .int (nI i)), (5, .int (nI (i + 1)))]) F (nI (i + 1)) dX1_meet_156 rfl (nI_add i 1) (by decide) rfl ?_
                      refine g_goto F 100 dX1_meet_159 (by decide) ?_
                      rw [chp_y (mwt_y.mpr h4) h3 (by rw [hz]; simp [chps, cN_s hu1, cN_s hu2]; omega)] at ih
                      exact ih
          have hbd0 : bdM (up (fill cs (fun _ => none) 120) i0 (f1 i0)) := fun j hj k hk => by
            by_cases e : j = i0
            · subst e
              rw [up_s] at hk
              exact (hF1 j hj hwi0).2 k hk
            · rw [up_n e, fill_in hj] at hk
              cases hk
          by_cases htot : sum1 v < de
          · have hall : ∀ k, k < 120 → f1 k = none := fun k hk => by
              by_cases e : 0 < v k
              · cases e2 : f1 k with
                | none => rfl
                | some d =>
                  have h8 := (hF1 k hk e).1
                  rw [e2] at h8
                  exact absurd (isDn_some h8) (by omega)
              · exact hF2 k hk (by omega)
            have hcs : ∀ k, k < 120 → (up (fill cs (fun _ => none) 120) i0 (f1 i0)) k = none := fun k hk => by
              by_cases e : k = i0
              · rw [e, up_s]; exact hall i0 hi0
              · rw [up_n e, fill_in hk]
            refine sel _ _ hbd0 (fun _ => ?_) (fun b hb => ?_)
            · unfold meetR
              rw [pt_nI hi0 hwi0, pt_nI hj0 hwj0]
              dsimp only
              rw [if_pos htot, hcs j0 hj0]
            · obtain ⟨hb1, hb2, -⟩ := (chp_ok 120).1 b (by rw [← chp1_eq]; exact hb)
              exact absurd (hcs b hb1) (mwt_y.mp hb2)
          · have hdd : ∀ k, k < 120 → 0 < v k → f1 k = some ((f1 k).getD 0) ∧ (f1 k).getD 0 < MX := fun k hk hv => hdf k hk (fun e => by
              have h8 := (hF1 k hk hv).1
              rw [e] at h8
              exact absurd (isDn_none ⟨MX, fun z => Nat.le_of_lt (gp_lt hM.1 k z)⟩ h8) htot)
            have hnp : ∀ k, k < 120 → ¬ 0 < v k → f1 k = none := fun k hk hv => hF2 k hk (by omega)
            have dij : ∀ (n : Nat) (c1 : Nat → Option Nat) (d1 : Nat → Bool), unS d1 120 ≤ n → bdM c1 → (∀ j, j < 120 → c1 j ≠ none → 0 < v j) → DJ v (fun k => (f1 k).getD 0) (gp wy x y) i0 (cN c1) d1 → GG (EE l D t) X 0 0 90 [(0, .ref (a 0)), (1, .int (nI i0)), (2, .int (nI j0)), (3, .int (b2 true))] [] (WM a t is x y w wy re de co cr cc d1 c1 f1) := by
              intro n
              induction n with
              | zero =>
                intro c1 d1 hu hb hpts hJ
                refine sel c1 d1 hb (fun hz => ?_) (fun b hz => ?_)
                · obtain ⟨m, m1, m2⟩ := DJ_end hJ hj0 hwj0 ((chp_ok 120).2 (by rw [← chp1_eq]; exact hz))
                  unfold meetR
                  rw [pt_nI hi0 hwi0, pt_nI hj0 hwj0]
                  dsimp only
                  rw [if_neg htot]
                  exact ⟨(fun k => (f1 k).getD 0), m, fun k hk hv => by have h8 := (hF1 k hk hv).1; rw [(hdd k hk hv).1] at h8; exact h8, m2, by rw [m1]; rfl⟩
                · obtain ⟨hb1, hb2, hb3, hb4⟩ := (chp_ok 120).1 b (by rw [← chp1_eq]; exact hz)
                  rw [unS_0 (se := d1) 120 (by omega) b hb1] at hb3
                  cases hb3
              | succ n ihn =>
                intro c1 d1 hu hb hpts hJ
                refine sel c1 d1 hb (fun hz => ?_) (fun b hz => ?_)
                · obtain ⟨m, m1, m2⟩ := DJ_end hJ hj0 hwj0 ((chp_ok 120).2 (by rw [← chp1_eq]; exact hz))
                  unfold meetR
                  rw [pt_nI hi0 hwi0, pt_nI hj0 hwj0]
                  dsimp only
                  rw [if_neg htot]
                  exact ⟨(fun k => (f1 k).getD 0), m, fun k hk hv => by have h8 := (hF1 k hk hv).1; rw [(hdd k hk hv).1] at h8; exact h8, m2, by rw [m1]; rfl⟩
                · obtain ⟨hb1, hb2, hb3, hb4⟩ := (chp_ok 120).1 b (by rw [← chp1_eq]; exact hz)
                  have hbn := mwt_y.mp hb2
                  have hbv := hpts b hb1 hbn
                  obtain ⟨cb, hcb⟩ := Option.ne_none_iff_exists'.mp hbn
                  have hcb2 : cN c1 b < MX := by rw [cN_s hcb]; exact hb b hb1 cb hcb
                  refine ihn _ _ (by have := unS_up hb3 120 hb1; omega) (rlM_bd hb hcb2 (fun j hj hn => (hdf j hj hn).2) (fun j => gp_lt hM.1 b j)) (fun j hj hn => ?_) (DJ_step hJ hb1 hbv hb3 (fun j hj hv hd => ?_) (rlM_rlx (w := v) hcb2 hdd hnp (fun j => gp_lt hM.1 b j)))
                  · rw [fill_in hj] at hn
                    unfold rlM at hn
                    split at hn
                    · next c9 => exact Nat.pos_of_ne_zero fun z => c9.2 (hF2 j hj z)
                    · exact hpts j hj hn
                  · by_cases e : c1 j = none
                    · rw [cN_n e]
                      exact Nat.le_of_lt hcb2
                    · exact hb4 j hj (mwt_y.mpr e) hd
            refine dij 120 _ _ (unS_le _ 120) hbd0 (fun j hj hn => ?_) (DJ_0 hi0 hwi0 (fun j hj hv => (hdd j hj hv).2) (fun a b => gp_lt hM.1 a b) ?_ (fun j hj hne => ?_) (fun j hj => fill_in hj))
            · by_cases e : j = i0
              · rw [e]; exact hwi0
              · rw [up_n e, fill_in hj] at hn
                exact absurd rfl hn
            · rw [cN_s (c := (f1 i0).getD 0) (by rw [up_s]; exact (hdd i0 hi0 hwi0).1)]
            · exact cN_n (by rw [up_n hne, fill_in hj])
        | succ m ih =>
          intro i f1 him hF
          have hi : i < 120 := by omega
          obtain ⟨hF1, hF2⟩ := hF
          refine g_iload_n F dX1_meet_22 rfl rfl ?_
          refine g_bipush F (nI 120) dX1_meet_23 (by decide) ?_
          refine g_icmp_ge_f F 76 dX1_meet_25 (by decide) (nI_ge hi (by decide)) ?_
          refine g_aload_n F dX1_meet_28 rfl rfl ?_
          refine gM_get_denseOf F dX1_meet_29 ?_
          refine g_iload_n F dX1_meet_32 rfl rfl ?_
          refine g_aload_n F dX1_meet_33 rfl rfl ?_
          refine gM_get_is F dX1_meet_34 ?_
          refine g_iload_n F dX1_meet_37 rfl rfl ?_
          refine gM_ld_is F hi dX1_meet_38 ?_
          refine g_if_eq_b F 50 dX1_meet_39 (by decide)  (fun h3 => ?_) (fun h3 => ?_)
          · refine g_ldc2 F (oL none) dX1_meet_50 (List.mem_cons_of_mem _ mw7_15) ?_
            refine gM_st_denseOf F hi dX1_meet_53 ?_
            refine g_aload_n F dX1_meet_54 rfl rfl ?_
            refine gM_get_done F dX1_meet_55 ?_
            refine g_iload_n F dX1_meet_58 rfl rfl ?_
            refine g_iconst F (b2 false) dX1_meet_59 (by decide) ?_
            refine gM_st_done F hi dX1_meet_60 ?_
            refine g_aload_n F dX1_meet_61 rfl rfl ?_
            refine gM_get_cost F dX1_meet_62 ?_
            refine g_iload_n F dX1_meet_65 rfl rfl ?_
            refine g_ldc2 F (oL none) dX1_meet_66 (List.mem_cons_of_mem _ mw7_15) ?_
            refine gM_st_cost F hi dX1_meet_69 ?_
            refine g_iinc (lv2 := [(0, .ref (a 0)), (1, .int (nI i0)), (2, .int (nI j0)), (3, .int (nI (i + 1)))]) F (nI (i + 1)) dX1_meet_70 rfl (nI_add i 1) (by decide) rfl ?_
            refine g_goto F 22 dX1_meet_73 (by decide) ?_
            have e9 := ih (i + 1) (up f1 i none) (by omega) ⟨fun k hk hv => by
              by_cases e : k = i
              · subst e
                rw [up_s]
                have := hM.n h3; omega
              · rw [up_n e]
                exact hF1 k (by omega) hv, fun k hk hv => by
              by_cases e : k = i
              · subst e
                rw [up_s]
              · rw [up_n e]
                exact hF2 k (by omega) hv⟩
            rw [fill_up (f := dn) (g := fun _ => false) (v := false) rfl, fill_up (f := cs) (g := fun _ => none) (v := none) rfl] at e9
            exact e9
          · refine g_aload_n F dX1_meet_42 rfl rfl ?_
            refine g_iload_n F dX1_meet_43 rfl rfl ?_
            refine c_VL F [.int (nI i), .ref (a 9)] (wr := []) (cM_findDense hM hi) cwX1_X1_findDense ⟨by decide, by decide, rfl, rfl⟩ rfl rfl rfl rfl (Nat.le_of_ble_eq_true rfl) ⟨by decide, by decide⟩ dX1_meet_44 (fun r u hu => ?_)
            obtain ⟨rfl, o, rfl, ho1, ho2⟩ := hu
            show GG (EE l D t) X 0 0 47 [(0, .ref (a 0)), (1, .int (nI i0)), (2, .int (nI j0)), (3, .int (nI i))] [.long (oL o), .int (nI i), .ref (a 9)] (WM a t is x y w wy re de co cr cc (fill dn (fun _ => false) i) (fill cs (fun _ => none) i) f1)
            refine g_goto F 53 dX1_meet_47 (by decide) ?_
            refine gM_st_denseOf F hi dX1_meet_53 ?_
            refine g_aload_n F dX1_meet_54 rfl rfl ?_
            refine gM_get_done F dX1_meet_55 ?_
            refine g_iload_n F dX1_meet_58 rfl rfl ?_
            refine g_iconst F (b2 false) dX1_meet_59 (by decide) ?_
            refine gM_st_done F hi dX1_meet_60 ?_
            refine g_aload_n F dX1_meet_61 rfl rfl ?_
            refine gM_get_cost F dX1_meet_62 ?_
            refine g_iload_n F dX1_meet_65 rfl rfl ?_
            refine g_ldc2 F (oL none) dX1_meet_66 (List.mem_cons_of_mem _ mw7_15) ?_
            refine gM_st_cost F hi dX1_meet_69 ?_
            refine g_iinc (lv2 := [(0, .ref (a 0)), (1, .int (nI i0)), (2, .int (nI j0)), (3, .int (nI (i + 1)))]) F (nI (i + 1)) dX1_meet_70 rfl (nI_add i 1) (by decide) rfl ?_
            refine g_goto F 22 dX1_meet_73 (by decide) ?_
            have e9 := ih (i + 1) (up f1 i o) (by omega) ⟨fun k hk hv => by
              by_cases e : k = i
              · subst e
                rw [up_s]
                exact ⟨ho1, ho2⟩
              · rw [up_n e]
                exact hF1 k (by omega) hv, fun k hk hv => by
              by_cases e : k = i
              · subst e
                rw [up_s]
                have := (hM.y h3).1; omega
              · rw [up_n e]
                exact hF2 k (by omega) hv⟩
            rw [fill_up (f := dn) (g := fun _ => false) (v := false) rfl, fill_up (f := cs) (g := fun _ => none) (v := none) rfl] at e9
            exact e9
      have e0 : WM a t is x y w wy re de co cr cc (fill dn (fun _ => false) 0) (fill cs (fun _ => none) 0) df = WM a t is x y w wy re de co cr cc dn cs df := by rw [fill_0, fill_0]
      rw [← e0]
      exact ph1 120 0 df rfl ⟨fun k hk => absurd hk (by omega), fun k hk => absurd hk (by omega)⟩
    · rw [hM.isv] at h2
      refine g_ldc2 F (oL none) dX1_meet_16 (List.mem_cons_of_mem _ mw7_15) ?_
      exact E _ _ _ _ dX1_meet_19 ⟨by unfold meetR; rw [pt_nI hi0 hwi0, pt_f h2], ⟨_, _, _, _, _, _, _, _, rfl, hM⟩⟩
