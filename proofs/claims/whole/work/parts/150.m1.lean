set_option maxHeartbeats 4000000 in
set_option maxRecDepth 100000 in
/-- isPlace -/
theorem cM_isPlace {l : Launch} {D : va_G} {t : Ty3} {a : Nat → Nat} {is : Nat → Bool} {x : Nat → Int32} {y : Nat → Int32} {w : Nat → Nat} {wy : Nat} {re : Nat} {de : Nat} {co : Nat → Bool} {cr : Nat → Option Nat} {cc : Nat} {dn : Nat → Bool} {cs : Nat → Option Nat} {df : Nat → Option Nat} (p0 p1 : Int32) : CtI (EE l D t) yX1_isPlace tsX1_isPlace (RM 0 0) [.int p0, .int p1] (WM a t is x y w wy re de co cr cc dn cs df) 0 0 (fun r u => u = WM a t is x y w wy re de co cr cc dn cs df ∧ r = b2 (isPl p0 p1)) := by
  refine CtZ.of (by decide +kernel) rfl (Nat.le_of_ble_eq_true rfl) (fun v u h => by obtain ⟨_, rfl⟩ := h; exact narrow_b2 _) (fun X F E => ?_)
  show GG (EE l D t) X 0 0 0 [(0, .int p0), (1, .int p1)] [] (WM a t is x y w wy re de co cr cc dn cs df)
  refine g_iload_n F dX1_isPlace_0 rfl rfl ?_
  refine g_ldc F (-1073741823) dX1_isPlace_1 (List.mem_cons_of_mem _ mw4_3) ?_
  refine g_icmp_lt F 28 dX1_isPlace_3 (by decide)  (fun h1 => ?_) (fun h1 => ?_)
  · refine g_iconst F (b2 false) dX1_isPlace_28 (by decide) ?_
    exact E _ _ _ _ dX1_isPlace_29 ⟨rfl, by rw [show isPl p0 p1 = false from by simp [isPl, h1]]⟩
  · refine g_iload_n F dX1_isPlace_6 rfl rfl ?_
    refine g_ldc F (1073741823) dX1_isPlace_7 (List.mem_cons_of_mem _ mw4_4) ?_
    refine g_icmp_gt F 28 dX1_isPlace_9 (by decide)  (fun h2 => ?_) (fun h2 => ?_)
    · refine g_iconst F (b2 false) dX1_isPlace_28 (by decide) ?_
      exact E _ _ _ _ dX1_isPlace_29 ⟨rfl, by rw [show isPl p0 p1 = false from by simp [isPl, h1, h2]]⟩
    · refine g_iload_n F dX1_isPlace_12 rfl rfl ?_
      refine g_ldc F (-1073741823) dX1_isPlace_13 (List.mem_cons_of_mem _ mw4_3) ?_
      refine g_icmp_lt F 28 dX1_isPlace_15 (by decide)  (fun h3 => ?_) (fun h3 => ?_)
      · refine g_iconst F (b2 false) dX1_isPlace_28 (by decide) ?_
        exact E _ _ _ _ dX1_isPlace_29 ⟨rfl, by rw [show isPl p0 p1 = false from by simp [isPl, h1, h2, h3]]⟩
      · refine g_iload_n F dX1_isPlace_18 rfl rfl ?_
        refine g_ldc F (1073741823) dX1_isPlace_19 (List.mem_cons_of_mem _ mw4_4) ?_
        refine g_icmp_gt F 28 dX1_isPlace_21 (by decide)  (fun h4 => ?_) (fun h4 => ?_)
        · refine g_iconst F (b2 false) dX1_isPlace_28 (by decide) ?_
          exact E _ _ _ _ dX1_isPlace_29 ⟨rfl, by rw [show isPl p0 p1 = false from by simp [isPl, h1, h2, h3, h4]]⟩
        · refine g_iconst F (b2 true) dX1_isPlace_24 (by decide) ?_
          refine g_goto F 29 dX1_isPlace_25 (by decide) ?_
          exact E _ _ _ _ dX1_isPlace_29 ⟨rfl, by rw [show isPl p0 p1 = true from by simp [isPl, h1, h2, h3, h4]]⟩
set_option maxHeartbeats 4000000 in
set_option maxRecDepth 100000 in
/-- isPoint -/
theorem cM_isPoint {l : Launch} {D : va_G} {t : Ty3} {a : Nat → Nat} {is : Nat → Bool} {x : Nat → Int32} {y : Nat → Int32} {w : Nat → Nat} {wy : Nat} {re : Nat} {de : Nat} {co : Nat → Bool} {cr : Nat → Option Nat} {cc : Nat} {dn : Nat → Bool} {cs : Nat → Option Nat} {df : Nat → Option Nat} (p : Int32) : CtI (EE l D t) yX1_isPoint tsX1_isPoint (RM 0 0) [.ref (a 0), .int p] (WM a t is x y w wy re de co cr cc dn cs df) 0 0 (fun r u => u = WM a t is x y w wy re de co cr cc dn cs df ∧ r = b2 (isPt is p)) := by
  refine CtZ.of (by decide +kernel) rfl (Nat.le_of_ble_eq_true rfl) (fun v u h => by obtain ⟨_, rfl⟩ := h; exact narrow_b2 _) (fun X F E => ?_)
  show GG (EE l D t) X 0 0 0 [(0, .ref (a 0)), (1, .int p)] [] (WM a t is x y w wy re de co cr cc dn cs df)
  rcases pk_ix p (n := 120) (by decide) with hp | hp | ⟨j, hj, rfl⟩
  · refine g_iload_n F dX1_isPoint_0 rfl rfl ?_
    refine g_if_lt_t F 23 dX1_isPoint_1 (by decide) hp ?_
    refine g_iconst F (b2 false) dX1_isPoint_23 (by decide) ?_
    exact E _ _ _ _ dX1_isPoint_24 ⟨rfl, by unfold isPt; rw [idx_neg hp]⟩
  · refine g_iload_n F dX1_isPoint_0 rfl rfl ?_
    refine g_if_lt_f F 23 dX1_isPoint_1 (by decide) (big_neg hp) ?_
    refine g_iload_n F dX1_isPoint_4 rfl rfl ?_
    refine g_bipush F (nI 120) dX1_isPoint_5 (by decide) ?_
    refine g_icmp_ge_t F 23 dX1_isPoint_7 (by decide) hp ?_
    refine g_iconst F (b2 false) dX1_isPoint_23 (by decide) ?_
    exact E _ _ _ _ dX1_isPoint_24 ⟨rfl, by unfold isPt; rw [idx_big hp]⟩
  · refine g_iload_n F dX1_isPoint_0 rfl rfl ?_
    refine g_if_lt_f F 23 dX1_isPoint_1 (by decide) (nI_pos (by omega)) ?_
    refine g_iload_n F dX1_isPoint_4 rfl rfl ?_
    refine g_bipush F (nI 120) dX1_isPoint_5 (by decide) ?_
    refine g_icmp_ge_f F 23 dX1_isPoint_7 (by decide) (nI_ge hj (by decide)) ?_
    refine g_aload_n F dX1_isPoint_10 rfl rfl ?_
    refine gM_get_is F dX1_isPoint_11 ?_
    refine g_iload_n F dX1_isPoint_14 rfl rfl ?_
    refine gM_ld_is F hj dX1_isPoint_15 ?_
    refine g_if_eq_b F 23 dX1_isPoint_16 (by decide)  (fun h => ?_) (fun h => ?_)
    · refine g_iconst F (b2 false) dX1_isPoint_23 (by decide) ?_
      exact E _ _ _ _ dX1_isPoint_24 ⟨rfl, by unfold isPt; rw [idx_nI hj]; simp [h]⟩
    · refine g_iconst F (b2 true) dX1_isPoint_19 (by decide) ?_
      refine g_goto F 24 dX1_isPoint_20 (by decide) ?_
      exact E _ _ _ _ dX1_isPoint_24 ⟨rfl, by unfold isPt; rw [idx_nI hj]; simp [h]⟩
set_option maxHeartbeats 4000000 in
set_option maxRecDepth 100000 in
/-- points -/
theorem cM_points {l : Launch} {D : va_G} {t : Ty3} {a : Nat → Nat} {is : Nat → Bool} {x : Nat → Int32} {y : Nat → Int32} {w : Nat → Nat} {wy : Nat} {re : Nat} {de : Nat} {co : Nat → Bool} {cr : Nat → Option Nat} {cc : Nat} {dn : Nat → Bool} {cs : Nat → Option Nat} {df : Nat → Option Nat}  : CtI (EE l D t) yX1_points tsX1_points (RM 0 0) [.ref (a 0)] (WM a t is x y w wy re de co cr cc dn cs df) 0 0 (fun r u => u = WM a t is x y w wy re de co cr cc dn cs df ∧ r = nI (sum1 (fun j => if is j = true then 1 else 0))) := by
  refine CtI.of (by decide +kernel) rfl (Nat.le_of_ble_eq_true rfl) (fun X F E => ?_)
  show GG (EE l D t) X 0 0 0 [(0, .ref (a 0))] [] (WM a t is x y w wy re de co cr cc dn cs df)
  refine g_iconst F (nI 0) dX1_points_0 (by decide) ?_
  refine g_istore_n (lv2 := [(0, .ref (a 0)), (1, .int (nI 0))]) F dX1_points_1 rfl (by decide) rfl ?_
  refine g_iconst F (nI 0) dX1_points_2 (by decide) ?_
  refine g_istore_n (lv2 := [(0, .ref (a 0)), (1, .int (nI 0)), (2, .int (nI 0))]) F dX1_points_3 rfl (by decide) rfl ?_
  refine up_loop (P := fun i => GG (EE l D t) X 0 0 4 [(0, .ref (a 0)), (1, .int (nI (sumN (fun j => if is j = true then 1 else 0) i))), (2, .int (nI i))] [] (WM a t is x y w wy re de co cr cc dn cs df)) 120 ?_ (fun i hi ih => ?_)
  · show GG (EE l D t) X 0 0 4 [(0, .ref (a 0)), (1, .int (nI (sumN (fun j => if is j = true then 1 else 0) 120))), (2, .int (nI 120))] [] (WM a t is x y w wy re de co cr cc dn cs df)
    refine g_iload_n F dX1_points_4 rfl rfl ?_
    refine g_bipush F (nI 120) dX1_points_5 (by decide) ?_
    refine g_icmp_ge_t F 33 dX1_points_7 (by decide) (nI_le (Nat.le_refl 120) (by decide)) ?_
    refine g_iload_n F dX1_points_33 rfl rfl ?_
    exact E _ _ _ _ dX1_points_34 ⟨rfl, by rw [sum1_eq]⟩
  · show GG (EE l D t) X 0 0 4 [(0, .ref (a 0)), (1, .int (nI (sumN (fun j => if is j = true then 1 else 0) i))), (2, .int (nI i))] [] (WM a t is x y w wy re de co cr cc dn cs df)
    refine g_iload_n F dX1_points_4 rfl rfl ?_
    refine g_bipush F (nI 120) dX1_points_5 (by decide) ?_
    refine g_icmp_ge_f F 33 dX1_points_7 (by decide) (nI_ge hi (by decide)) ?_
    refine g_iload_n F dX1_points_10 rfl rfl ?_
    refine g_aload_n F dX1_points_11 rfl rfl ?_
    refine gM_get_is F dX1_points_12 ?_
    refine g_iload_n F dX1_points_15 rfl rfl ?_
    refine gM_ld_is F hi dX1_points_16 ?_
    refine g_if_eq_b F 24 dX1_points_17 (by decide)  (fun h => ?_) (fun h => ?_)
    · refine g_iconst F (nI 0) dX1_points_24 (by decide) ?_
      refine g_iadd_n F dX1_points_25 ?_
      refine g_istore_n (lv2 := [(0, .ref (a 0)), (1, .int (nI ((sumN (fun j => if is j = true then 1 else 0) i) + 0))), (2, .int (nI i))]) F dX1_points_26 rfl (by decide) rfl ?_
      refine g_iinc (lv2 := [(0, .ref (a 0)), (1, .int (nI ((sumN (fun j => if is j = true then 1 else 0) i) + 0))), (2, .int (nI (i + 1)))]) F (nI (i + 1)) dX1_points_27 rfl (nI_add i 1) (by decide) rfl ?_
      refine g_goto F 4 dX1_points_30 (by decide) ?_
      rw [sumN_z (f := (fun j => if is j = true then 1 else 0)) (n := i) (c := is i = true) (v := 1) rfl (by simp [h])] at ih
      exact ih
    · refine g_iconst F (nI 1) dX1_points_20 (by decide) ?_
      refine g_goto F 25 dX1_points_21 (by decide) ?_
      refine g_iadd_n F dX1_points_25 ?_
      refine g_istore_n (lv2 := [(0, .ref (a 0)), (1, .int (nI ((sumN (fun j => if is j = true then 1 else 0) i) + 1))), (2, .int (nI i))]) F dX1_points_26 rfl (by decide) rfl ?_
      refine g_iinc (lv2 := [(0, .ref (a 0)), (1, .int (nI ((sumN (fun j => if is j = true then 1 else 0) i) + 1))), (2, .int (nI (i + 1)))]) F (nI (i + 1)) dX1_points_27 rfl (nI_add i 1) (by decide) rfl ?_
      refine g_goto F 4 dX1_points_30 (by decide) ?_
      rw [sumN_c (f := (fun j => if is j = true then 1 else 0)) (n := i) (c := is i = true) (v := 1) rfl h] at ih
      exact ih
set_option maxHeartbeats 4000000 in
set_option maxRecDepth 100000 in
/-- far -/
theorem cM_far {l : Launch} {D : va_G} {t : Ty3} {a : Nat → Nat} {is : Nat → Bool} {x : Nat → Int32} {y : Nat → Int32} {w : Nat → Nat} {wy : Nat} {re : Nat} {de : Nat} {co : Nat → Bool} {cr : Nat → Option Nat} {cc : Nat} {dn : Nat → Bool} {cs : Nat → Option Nat} {df : Nat → Option Nat} (hwy : wy ≤ 2) {j : Nat} (hj : j < 120) (p1 p2 : Int32) : CtL (EE l D t) yX1_far tsX1_far (RM 0 0) [.ref (a 0), .int (nI j), .long p1.toInt64, .long p2.toInt64] (WM a t is x y w wy re de co cr cc dn cs df) 0 0 (fun r u => u = WM a t is x y w wy re de co cr cc dn cs df ∧ r = lN (gapN wy (x j) (y j) p1 p2)) := by
  refine CtL.of (by decide +kernel) rfl (Nat.le_of_ble_eq_true rfl) (fun X F E => ?_)
  show GG (EE l D t) X 0 0 0 [(0, .ref (a 0)), (1, .int (nI j)), (2, .long p1.toInt64), (4, .long p2.toInt64)] [] (WM a t is x y w wy re de co cr cc dn cs df)
  have k3 : GG (EE l D t) X 0 0 73 [(0, .ref (a 0)), (1, .int (nI j)), (2, .long p1.toInt64), (4, .long p2.toInt64), (6, .long (lN (dist1 (x j) p1))), (8, .long (lN (dist1 (y j) p2)))] [] (WM a t is x y w wy re de co cr cc dn cs df) := by
    refine g_aload_n F dX1_far_73 rfl rfl ?_
    refine gM_get_way F dX1_far_74 ?_
    refine g_if_ne_n F 94 dX1_far_77 (by decide) (by omega) (fun h => ?_) (fun h => ?_)
    · refine g_aload_n F dX1_far_94 rfl rfl ?_
      refine gM_get_way F dX1_far_95 ?_
      refine g_iconst F (nI 1) dX1_far_98 (by decide) ?_
      refine g_icmp_ne_n F 120 dX1_far_99 (by decide) (by omega) (by decide) (fun h2 => ?_) (fun h2 => ?_)
      · refine g_lload F dX1_far_120 rfl ?_
        refine g_lload F dX1_far_122 rfl ?_
        refine g_ladd_n F dX1_far_124 ?_
        exact E _ _ _ _ dX1_far_125 ⟨rfl, by unfold gapN; rw [if_neg (by omega), if_neg h2]⟩
      · refine g_lload F dX1_far_102 rfl ?_
        refine g_lload F dX1_far_104 rfl ?_
        refine g_lc_le_n F 115 dX1_far_106 dX1_far_107 (by decide) (Nat.lt_trans (dist1_lt _ _) (by decide)) (Nat.lt_trans (dist1_lt _ _) (by decide)) (fun h3 => ?_) (fun h3 => ?_)
        · refine g_lload F dX1_far_115 rfl ?_
          refine g_goto F 125 dX1_far_117 (by decide) ?_
          exact E _ _ _ _ dX1_far_125 ⟨rfl, by unfold gapN; rw [if_neg (by omega), if_pos h2, Nat.max_eq_right h3]⟩
        · refine g_lload F dX1_far_110 rfl ?_
          refine g_goto F 125 dX1_far_112 (by decide) ?_
          exact E _ _ _ _ dX1_far_125 ⟨rfl, by unfold gapN; rw [if_neg (by omega), if_pos h2, Nat.max_eq_left (Nat.le_of_lt h3)]⟩
    · refine g_lload F dX1_far_80 rfl ?_
      refine g_lload F dX1_far_82 rfl ?_
      refine g_lmul_n F dX1_far_84 ?_
      refine g_lload F dX1_far_85 rfl ?_
      refine g_lload F dX1_far_87 rfl ?_
      refine g_lmul_n F dX1_far_89 ?_
      refine g_ladd_n F dX1_far_90 ?_
      refine g_goto F 125 dX1_far_91 (by decide) ?_
      exact E _ _ _ _ dX1_far_125 ⟨rfl, by unfold gapN; rw [if_pos h]⟩
  have k2 : GG (EE l D t) X 0 0 35 [(0, .ref (a 0)), (1, .int (nI j)), (2, .long p1.toInt64), (4, .long p2.toInt64), (6, .long (lN (dist1 (x j) p1)))] [] (WM a t is x y w wy re de co cr cc dn cs df) := by
    refine g_aload_n F dX1_far_35 rfl rfl ?_
    refine gM_get_ys F dX1_far_36 ?_
    refine g_iload_n F dX1_far_39 rfl rfl ?_
    refine gM_ld_ys F hj dX1_far_40 ?_
    refine g_i2l F dX1_far_41 ?_
    refine g_lload F dX1_far_42 rfl ?_
    refine g_lc_ge F 61 dX1_far_44 dX1_far_45 (by decide)  (fun h => ?_) (fun h => ?_)
    · refine g_aload_n F dX1_far_61 rfl rfl ?_
      refine gM_get_ys F dX1_far_62 ?_
      refine g_iload_n F dX1_far_65 rfl rfl ?_
      refine gM_ld_ys F hj dX1_far_66 ?_
      refine g_i2l F dX1_far_67 ?_
      refine g_lload F dX1_far_68 rfl ?_
      refine g_lsub F dX1_far_70 ?_
      refine g_topl (sub_dist h) ?_
      refine g_lstore (lv2 := [(0, .ref (a 0)), (1, .int (nI j)), (2, .long p1.toInt64), (4, .long p2.toInt64), (6, .long (lN (dist1 (x j) p1))), (8, .long (lN (dist1 (y j) p2)))]) F dX1_far_71 (by decide) rfl ?_
      exact k3
    · refine g_lload F dX1_far_48 rfl ?_
      refine g_aload_n F dX1_far_50 rfl rfl ?_
      refine gM_get_ys F dX1_far_51 ?_
      refine g_iload_n F dX1_far_54 rfl rfl ?_
      refine gM_ld_ys F hj dX1_far_55 ?_
      refine g_i2l F dX1_far_56 ?_
      refine g_lsub F dX1_far_57 ?_
      refine g_goto F 71 dX1_far_58 (by decide) ?_
      refine g_topl (sub_dist2 h) ?_
      refine g_lstore (lv2 := [(0, .ref (a 0)), (1, .int (nI j)), (2, .long p1.toInt64), (4, .long p2.toInt64), (6, .long (lN (dist1 (x j) p1))), (8, .long (lN (dist1 (y j) p2)))]) F dX1_far_71 (by decide) rfl ?_
      exact k3
  refine g_aload_n F dX1_far_0 rfl rfl ?_
  refine gM_get_xs F dX1_far_1 ?_
  refine g_iload_n F dX1_far_4 rfl rfl ?_
  refine gM_ld_xs F hj dX1_far_5 ?_
  refine g_i2l F dX1_far_6 ?_
  refine g_lload_n F dX1_far_7 rfl rfl ?_
  refine g_lc_ge F 24 dX1_far_8 dX1_far_9 (by decide)  (fun h => ?_) (fun h => ?_)
  · refine g_aload_n F dX1_far_24 rfl rfl ?_
    refine gM_get_xs F dX1_far_25 ?_
    refine g_iload_n F dX1_far_28 rfl rfl ?_
    refine gM_ld_xs F hj dX1_far_29 ?_
    refine g_i2l F dX1_far_30 ?_
    refine g_lload_n F dX1_far_31 rfl rfl ?_
    refine g_lsub F dX1_far_32 ?_
    refine g_topl (sub_dist h) ?_
    refine g_lstore (lv2 := [(0, .ref (a 0)), (1, .int (nI j)), (2, .long p1.toInt64), (4, .long p2.toInt64), (6, .long (lN (dist1 (x j) p1)))]) F dX1_far_33 (by decide) rfl ?_
    exact k2
  · refine g_lload_n F dX1_far_12 rfl rfl ?_
    refine g_aload_n F dX1_far_13 rfl rfl ?_
    refine gM_get_xs F dX1_far_14 ?_
    refine g_iload_n F dX1_far_17 rfl rfl ?_
    refine gM_ld_xs F hj dX1_far_18 ?_
    refine g_i2l F dX1_far_19 ?_
    refine g_lsub F dX1_far_20 ?_
    refine g_goto F 33 dX1_far_21 (by decide) ?_
    refine g_topl (sub_dist2 h) ?_
    refine g_lstore (lv2 := [(0, .ref (a 0)), (1, .int (nI j)), (2, .long p1.toInt64), (4, .long p2.toInt64), (6, .long (lN (dist1 (x j) p1)))]) F dX1_far_33 (by decide) rfl ?_
    exact k2
set_option maxHeartbeats 4000000 in
set_option maxRecDepth 100000 in
/-- weightWithin -/
theorem cM_weightWithin {l : Launch} {D : va_G} {t : Ty3} {a : Nat → Nat} {is : Nat → Bool} {x : Nat → Int32} {y : Nat → Int32} {w : Nat → Nat} {wy : Nat} {re : Nat} {de : Nat} {co : Nat → Bool} {cr : Nat → Option Nat} {cc : Nat} {dn : Nat → Bool} {cs : Nat → Option Nat} {df : Nat → Option Nat} {v : Nat → Nat} (hM : MI v x y wy re de is w) {p r0 : Nat} (hp : p < 120) (hr : r0 < 2 ^ 63) : CtI (EE l D t) yX1_weightWithin tsX1_weightWithin (RM 1 29) [.ref (a 0), .int (nI p), .long (lN r0)] (WM a t is x y w wy re de co cr cc dn cs df) 0 0 (fun r u => u = WM a t is x y w wy re de co cr cc dn cs df ∧ r = nI (ww v (gp wy x y p) r0)) := by
  refine CtI.of (by decide +kernel) rfl (Nat.le_of_ble_eq_true rfl) (fun X F E => ?_)
  show GG (EE l D t) X 0 0 0 [(0, .ref (a 0)), (1, .int (nI p)), (2, .long (lN r0))] [] (WM a t is x y w wy re de co cr cc dn cs df)
  refine g_iconst F (nI 0) dX1_weightWithin_0 (by decide) ?_
  refine g_istore (lv2 := [(0, .ref (a 0)), (1, .int (nI p)), (2, .long (lN r0)), (4, .int (nI 0))]) F dX1_weightWithin_1 (by decide) rfl ?_
  refine g_iconst F (nI 0) dX1_weightWithin_3 (by decide) ?_
  refine g_istore (lv2 := [(0, .ref (a 0)), (1, .int (nI p)), (2, .long (lN r0)), (4, .int (nI 0)), (5, .int (nI 0))]) F dX1_weightWithin_4 (by decide) rfl ?_
  refine up_loop (P := fun i => GG (EE l D t) X 0 0 6 [(0, .ref (a 0)), (1, .int (nI p)), (2, .long (lN r0)), (4, .int (nI (sumN (wwf v (gp wy x y p) r0) i))), (5, .int (nI i))] [] (WM a t is x y w wy re de co cr cc dn cs df)) 120 ?_ (fun i hi ih => ?_)
  · show GG (EE l D t) X 0 0 6 [(0, .ref (a 0)), (1, .int (nI p)), (2, .long (lN r0)), (4, .int (nI (sumN (wwf v (gp wy x y p) r0) 120))), (5, .int (nI 120))] [] (WM a t is x y w wy re de co cr cc dn cs df)
    refine g_iload F dX1_weightWithin_6 rfl ?_
    refine g_bipush F (nI 120) dX1_weightWithin_8 (by decide) ?_
    refine g_icmp_ge_t F 71 dX1_weightWithin_10 (by decide) (nI_le (Nat.le_refl 120) (by decide)) ?_
    refine g_iload F dX1_weightWithin_71 rfl ?_
    exact E _ _ _ _ dX1_weightWithin_73 ⟨rfl, by unfold ww; rw [sum1_eq]⟩
  · show GG (EE l D t) X 0 0 6 [(0, .ref (a 0)), (1, .int (nI p)), (2, .long (lN r0)), (4, .int (nI (sumN (wwf v (gp wy x y p) r0) i))), (5, .int (nI i))] [] (WM a t is x y w wy re de co cr cc dn cs df)
    refine g_iload F dX1_weightWithin_6 rfl ?_
    refine g_bipush F (nI 120) dX1_weightWithin_8 (by decide) ?_
    refine g_icmp_ge_f F 71 dX1_weightWithin_10 (by decide) (nI_ge hi (by decide)) ?_
    refine g_iload F dX1_weightWithin_13 rfl ?_
    refine g_aload_n F dX1_weightWithin_15 rfl rfl ?_
    refine gM_get_is F dX1_weightWithin_16 ?_
    refine g_iload F dX1_weightWithin_19 rfl ?_
    refine gM_ld_is F hi dX1_weightWithin_21 ?_
    refine g_if_eq_b F 61 dX1_weightWithin_22 (by decide)  (fun h => ?_) (fun h => ?_)
    · refine g_iconst F (nI 0) dX1_weightWithin_61 (by decide) ?_
      refine g_iadd_n F dX1_weightWithin_62 ?_
      refine g_istore (lv2 := [(0, .ref (a 0)), (1, .int (nI p)), (2, .long (lN r0)), (4, .int (nI ((sumN (wwf v (gp wy x y p) r0) i) + 0))), (5, .int (nI i))]) F dX1_weightWithin_63 (by decide) rfl ?_
      refine g_iinc (lv2 := [(0, .ref (a 0)), (1, .int (nI p)), (2, .long (lN r0)), (4, .int (nI ((sumN (wwf v (gp wy x y p) r0) i) + 0))), (5, .int (nI (i + 1)))]) F (nI (i + 1)) dX1_weightWithin_65 rfl (nI_add i 1) (by decide) rfl ?_
      refine g_goto F 6 dX1_weightWithin_68 (by decide) ?_
      rw [sumN_z (f := (wwf v (gp wy x y p) r0)) (n := i) (c := 0 < v i ∧ gp wy x y p i ≤ r0) (v := v i) rfl (by have := hM.n h; omega)] at ih
      exact ih
    · refine g_aload_n F dX1_weightWithin_25 rfl rfl ?_
      refine g_iload_n F dX1_weightWithin_26 rfl rfl ?_
      refine g_aload_n F dX1_weightWithin_27 rfl rfl ?_
      refine gM_get_xs F dX1_weightWithin_28 ?_
      refine g_iload F dX1_weightWithin_31 rfl ?_
      refine gM_ld_xs F hi dX1_weightWithin_33 ?_
      refine g_i2l F dX1_weightWithin_34 ?_
      refine g_aload_n F dX1_weightWithin_35 rfl rfl ?_
      refine gM_get_ys F dX1_weightWithin_36 ?_
      refine g_iload F dX1_weightWithin_39 rfl ?_
      refine gM_ld_ys F hi dX1_weightWithin_41 ?_
      refine g_i2l F dX1_weightWithin_42 ?_
      refine c_VL F [.int (nI (sumN (wwf v (gp wy x y p) r0) i))] (wr := []) (cM_far hM.1.2.2.2.1 hp (x i) (y i)) cwX1_X1_far ⟨by decide, by decide, rfl, rfl⟩ rfl rfl rfl rfl (Nat.le_of_ble_eq_true rfl) ⟨by decide, by decide⟩ dX1_weightWithin_43 (fun r u hu => ?_)
      obtain ⟨rfl, rfl⟩ := hu
      show GG (EE l D t) X 0 0 46 [(0, .ref (a 0)), (1, .int (nI p)), (2, .long (lN r0)), (4, .int (nI (sumN (wwf v (gp wy x y p) r0) i))), (5, .int (nI i))] [.long (lN (gapN wy (x p) (y p) (x i) (y i))), .int (nI (sumN (wwf v (gp wy x y p) r0) i))] (WM a t is x y w wy re de co cr cc dn cs df)
      refine g_topl (y := lN (gp wy x y p i)) (congrArg lN (gapN_comm _ _ _ _ _)) ?_
      refine g_lload_n F dX1_weightWithin_46 rfl rfl ?_
      refine g_lc_gt_n F 61 dX1_weightWithin_47 dX1_weightWithin_48 (by decide) (Nat.lt_trans (gp_lt hM.1 p i) (by decide)) hr (fun h2 => ?_) (fun h2 => ?_)
      · refine g_iconst F (nI 0) dX1_weightWithin_61 (by decide) ?_
        refine g_iadd_n F dX1_weightWithin_62 ?_
        refine g_istore (lv2 := [(0, .ref (a 0)), (1, .int (nI p)), (2, .long (lN r0)), (4, .int (nI ((sumN (wwf v (gp wy x y p) r0) i) + 0))), (5, .int (nI i))]) F dX1_weightWithin_63 (by decide) rfl ?_
        refine g_iinc (lv2 := [(0, .ref (a 0)), (1, .int (nI p)), (2, .long (lN r0)), (4, .int (nI ((sumN (wwf v (gp wy x y p) r0) i) + 0))), (5, .int (nI (i + 1)))]) F (nI (i + 1)) dX1_weightWithin_65 rfl (nI_add i 1) (by decide) rfl ?_
        refine g_goto F 6 dX1_weightWithin_68 (by decide) ?_
        rw [sumN_z (f := (wwf v (gp wy x y p) r0)) (n := i) (c := 0 < v i ∧ gp wy x y p i ≤ r0) (v := v i) rfl (by omega)] at ih
        exact ih
      · refine g_aload_n F dX1_weightWithin_51 rfl rfl ?_
        refine gM_get_weights F dX1_weightWithin_52 ?_
        refine g_iload F dX1_weightWithin_55 rfl ?_
        refine gM_ld_weights F hi dX1_weightWithin_57 ?_
        refine g_topi (y := nI (v i)) (congrArg nI (hM.y h).2) ?_
        refine g_goto F 62 dX1_weightWithin_58 (by decide) ?_
        refine g_iadd_n F dX1_weightWithin_62 ?_
        refine g_istore (lv2 := [(0, .ref (a 0)), (1, .int (nI p)), (2, .long (lN r0)), (4, .int (nI ((sumN (wwf v (gp wy x y p) r0) i) + (v i)))), (5, .int (nI i))]) F dX1_weightWithin_63 (by decide) rfl ?_
        refine g_iinc (lv2 := [(0, .ref (a 0)), (1, .int (nI p)), (2, .long (lN r0)), (4, .int (nI ((sumN (wwf v (gp wy x y p) r0) i) + (v i)))), (5, .int (nI (i + 1)))]) F (nI (i + 1)) dX1_weightWithin_65 rfl (nI_add i 1) (by decide) rfl ?_
        refine g_goto F 6 dX1_weightWithin_68 (by decide) ?_
        rw [sumN_c (f := (wwf v (gp wy x y p) r0)) (n := i) (c := 0 < v i ∧ gp wy x y p i ≤ r0) (v := v i) rfl ⟨(hM.y h).1, h2⟩] at ih
        exact ih
set_option maxHeartbeats 4000000 in
set_option maxRecDepth 100000 in
/-- spread -/
theorem cM_spread {l : Launch} {D : va_G} {t : Ty3} {a : Nat → Nat} {is : Nat → Bool} {x : Nat → Int32} {y : Nat → Int32} {w : Nat → Nat} {wy : Nat} {re : Nat} {de : Nat} {co : Nat → Bool} {cr : Nat → Option Nat} {cc : Nat} {dn : Nat → Bool} {cs : Nat → Option Nat} {df : Nat → Option Nat} {v : Nat → Nat} (hM : MI v x y wy re de is w) (hcr : ∀ j, j < 120 → ∀ k, cr j = some k → k < 120) {p r0 : Nat} (hp : p < 120) (hr : r0 < 2 ^ 63) : CtI (EE l D t) yX1_spread tsX1_spread (RM 1 29) [.ref (a 0), .int (nI p), .long (lN r0)] (WM a t is x y w wy re de co cr cc dn cs df) 0 0 (fun r u => u = WM a t is x y w wy re de co (fill cr (nearC co cr cc (gp wy x y p) r0) 120) cc dn cs df ∧ r = b2 (any1 (newS co cr (gp wy x y p) r0))) := by
  refine CtZ.of (by decide +kernel) rfl (Nat.le_of_ble_eq_true rfl) (fun v u h => by obtain ⟨_, rfl⟩ := h; exact narrow_b2 _) (fun X F E => ?_)
  show GG (EE l D t) X 0 0 0 [(0, .ref (a 0)), (1, .int (nI p)), (2, .long (lN r0))] [] (WM a t is x y w wy re de co cr cc dn cs df)
  refine g_iconst F (b2 false) dX1_spread_0 (by decide) ?_
  refine g_istore (lv2 := [(0, .ref (a 0)), (1, .int (nI p)), (2, .long (lN r0)), (4, .int (b2 false))]) F dX1_spread_1 (by decide) rfl ?_
  refine g_iconst F (nI 0) dX1_spread_3 (by decide) ?_
  refine g_istore (lv2 := [(0, .ref (a 0)), (1, .int (nI p)), (2, .long (lN r0)), (4, .int (b2 false)), (5, .int (nI 0))]) F dX1_spread_4 (by decide) rfl ?_
  have e0 : WM a t is x y w wy re de co (fill cr (nearC co cr cc (gp wy x y p) r0) 0) cc dn cs df = WM a t is x y w wy re de co cr cc dn cs df := by rw [fill_0]
  rw [← e0]
  refine up_loop (P := fun i => GG (EE l D t) X 0 0 6 [(0, .ref (a 0)), (1, .int (nI p)), (2, .long (lN r0)), (4, .int (b2 (anyN (newS co cr (gp wy x y p) r0) i))), (5, .int (nI i))] [] (WM a t is x y w wy re de co (fill cr (nearC co cr cc (gp wy x y p) r0) i) cc dn cs df)) 120 ?_ (fun i hi ih => ?_)
  · show GG (EE l D t) X 0 0 6 [(0, .ref (a 0)), (1, .int (nI p)), (2, .long (lN r0)), (4, .int (b2 (anyN (newS co cr (gp wy x y p) r0) 120))), (5, .int (nI 120))] [] (WM a t is x y w wy re de co (fill cr (nearC co cr cc (gp wy x y p) r0) 120) cc dn cs df)
    refine g_iload F dX1_spread_6 rfl ?_
    refine g_bipush F (nI 120) dX1_spread_8 (by decide) ?_
    refine g_icmp_ge_t F 82 dX1_spread_10 (by decide) (nI_le (Nat.le_refl 120) (by decide)) ?_
    refine g_iload F dX1_spread_82 rfl ?_
    exact E _ _ _ _ dX1_spread_84 ⟨rfl, by rw [any1_eq]⟩
  · show GG (EE l D t) X 0 0 6 [(0, .ref (a 0)), (1, .int (nI p)), (2, .long (lN r0)), (4, .int (b2 (anyN (newS co cr (gp wy x y p) r0) i))), (5, .int (nI i))] [] (WM a t is x y w wy re de co (fill cr (nearC co cr cc (gp wy x y p) r0) i) cc dn cs df)
    refine g_iload F dX1_spread_6 rfl ?_
    refine g_bipush F (nI 120) dX1_spread_8 (by decide) ?_
    refine g_icmp_ge_f F 82 dX1_spread_10 (by decide) (nI_ge hi (by decide)) ?_
    refine g_aload_n F dX1_spread_13 rfl rfl ?_
    refine gM_get_core F dX1_spread_14 ?_
    refine g_iload F dX1_spread_17 rfl ?_
    refine gM_ld_core F hi dX1_spread_19 ?_
    refine g_if_eq_b F 76 dX1_spread_20 (by decide)  (fun h => ?_) (fun h => ?_)
    · refine g_iinc (lv2 := [(0, .ref (a 0)), (1, .int (nI p)), (2, .long (lN r0)), (4, .int (b2 (anyN (newS co cr (gp wy x y p) r0) i))), (5, .int (nI (i + 1)))]) F (nI (i + 1)) dX1_spread_76 rfl (nI_add i 1) (by decide) rfl ?_
      refine g_goto F 6 dX1_spread_79 (by decide) ?_
      rw [fill_same (f := cr) (g := (nearC co cr cc (gp wy x y p) r0)) (nearC_n (by simp [newS, h])), anyN_f (s := (newS co cr (gp wy x y p) r0)) (n := i) (by simp [newS, h])] at ih
      exact ih
    · refine g_aload_n F dX1_spread_23 rfl rfl ?_
      refine gM_get_crowdOf F dX1_spread_24 ?_
      refine g_iload F dX1_spread_27 rfl ?_
      refine gM_ld_crowdOf F hi dX1_spread_29 ?_
      refine g_if_ge_o F 76 dX1_spread_30 (by decide) (by rw [fill_at]; exact fun k hk => by have := hcr i hi k hk; omega) (fun h2 => ?_) (fun h2 => ?_)
      · rw [fill_at] at h2
        refine g_iinc (lv2 := [(0, .ref (a 0)), (1, .int (nI p)), (2, .long (lN r0)), (4, .int (b2 (anyN (newS co cr (gp wy x y p) r0) i))), (5, .int (nI (i + 1)))]) F (nI (i + 1)) dX1_spread_76 rfl (nI_add i 1) (by decide) rfl ?_
        refine g_goto F 6 dX1_spread_79 (by decide) ?_
        rw [fill_same (f := cr) (g := (nearC co cr cc (gp wy x y p) r0)) (nearC_n (by simp [newS, h2])), anyN_f (s := (newS co cr (gp wy x y p) r0)) (n := i) (by simp [newS, h2])] at ih
        exact ih
      · rw [fill_at] at h2
        refine g_aload_n F dX1_spread_33 rfl rfl ?_
        refine g_iload_n F dX1_spread_34 rfl rfl ?_
        refine g_aload_n F dX1_spread_35 rfl rfl ?_
        refine gM_get_xs F dX1_spread_36 ?_
        refine g_iload F dX1_spread_39 rfl ?_
        refine gM_ld_xs F hi dX1_spread_41 ?_
        refine g_i2l F dX1_spread_42 ?_
        refine g_aload_n F dX1_spread_43 rfl rfl ?_
        refine gM_get_ys F dX1_spread_44 ?_
        refine g_iload F dX1_spread_47 rfl ?_
        refine gM_ld_ys F hi dX1_spread_49 ?_
        refine g_i2l F dX1_spread_50 ?_
        refine c_VL F [] (wr := []) (cM_far hM.1.2.2.2.1 hp (x i) (y i)) cwX1_X1_far ⟨by decide, by decide, rfl, rfl⟩ rfl rfl rfl rfl (Nat.le_of_ble_eq_true rfl) ⟨by decide, by decide⟩ dX1_spread_51 (fun r u hu => ?_)
        obtain ⟨rfl, rfl⟩ := hu
        show GG (EE l D t) X 0 0 54 [(0, .ref (a 0)), (1, .int (nI p)), (2, .long (lN r0)), (4, .int (b2 (anyN (newS co cr (gp wy x y p) r0) i))), (5, .int (nI i))] [.long (lN (gapN wy (x p) (y p) (x i) (y i)))] (WM a t is x y w wy re de co (fill cr (nearC co cr cc (gp wy x y p) r0) i) cc dn cs df)
        refine g_topl (y := lN (gp wy x y p i)) (congrArg lN (gapN_comm _ _ _ _ _)) ?_
        refine g_lload_n F dX1_spread_54 rfl rfl ?_
        refine g_lc_le_n F 62 dX1_spread_55 dX1_spread_56 (by decide) (Nat.lt_trans (gp_lt hM.1 p i) (by decide)) hr (fun h3 => ?_) (fun h3 => ?_)
        · have hn : newS co cr (gp wy x y p) r0 i = true := by simp [newS, h, h2, h3]
          refine g_aload_n F dX1_spread_62 rfl rfl ?_
          refine gM_get_crowdOf F dX1_spread_63 ?_
          refine g_iload F dX1_spread_66 rfl ?_
          refine g_aload_n F dX1_spread_68 rfl rfl ?_
          refine gM_get_crowds F dX1_spread_69 ?_
          refine gM_st_crowdOf (e := (some cc)) F hi dX1_spread_72 ?_
          refine g_iconst F (b2 true) dX1_spread_73 (by decide) ?_
          refine g_istore (lv2 := [(0, .ref (a 0)), (1, .int (nI p)), (2, .long (lN r0)), (4, .int (b2 true)), (5, .int (nI i))]) F dX1_spread_74 (by decide) rfl ?_
          refine g_iinc (lv2 := [(0, .ref (a 0)), (1, .int (nI p)), (2, .long (lN r0)), (4, .int (b2 true)), (5, .int (nI (i + 1)))]) F (nI (i + 1)) dX1_spread_76 rfl (nI_add i 1) (by decide) rfl ?_
          refine g_goto F 6 dX1_spread_79 (by decide) ?_
          rw [fill_up (f := cr) (g := (nearC co cr cc (gp wy x y p) r0)) (v := some cc) (nearC_y hn).1, anyN_t (s := (newS co cr (gp wy x y p) r0)) (n := i) hn] at ih
          exact ih
        · refine g_goto F 76 dX1_spread_59 (by decide) ?_
          refine g_iinc (lv2 := [(0, .ref (a 0)), (1, .int (nI p)), (2, .long (lN r0)), (4, .int (b2 (anyN (newS co cr (gp wy x y p) r0) i))), (5, .int (nI (i + 1)))]) F (nI (i + 1)) dX1_spread_76 rfl (nI_add i 1) (by decide) rfl ?_
          refine g_goto F 6 dX1_spread_79 (by decide) ?_
          rw [fill_same (f := cr) (g := (nearC co cr cc (gp wy x y p) r0)) (nearC_n (by simp [newS]; omega)), anyN_f (s := (newS co cr (gp wy x y p) r0)) (n := i) (by simp [newS]; omega)] at ih
          exact ih
set_option maxHeartbeats 4000000 in
set_option maxRecDepth 100000 in
/-- least -/
theorem cM_least {l : Launch} {D : va_G} {t : Ty3} {a : Nat → Nat} {is : Nat → Bool} {x : Nat → Int32} {y : Nat → Int32} {w : Nat → Nat} {wy : Nat} {re : Nat} {de : Nat} {co : Nat → Bool} {cr : Nat → Option Nat} {cc : Nat} {dn : Nat → Bool} {cs : Nat → Option Nat} {df : Nat → Option Nat} {v : Nat → Nat} (hM : MI v x y wy re de is w) (hcr : ∀ q, q < 120 → co q = true → ∃ k, cr q = some k ∧ k < 120) {p1 p2 : Int32} (hp1 : inR p1) (hp2 : inR p2) {r0 : Nat} (hr : r0 < 2 ^ 63) : CtI (EE l D t) yX1_least tsX1_least (RM 1 29) [.ref (a 0), .int p1, .int p2, .long (lN r0)] (WM a t is x y w wy re de co cr cc dn cs df) 0 0 (fun r u => u = WM a t is x y w wy re de co cr cc dn cs df ∧ r = oI (lcs1 co cr (fun q => gapN wy (x q) (y q) p1 p2) r0)) := by
  refine CtI.of (by decide +kernel) rfl (Nat.le_of_ble_eq_true rfl) (fun X F E => ?_)
  show GG (EE l D t) X 0 0 0 [(0, .ref (a 0)), (1, .int p1), (2, .int p2), (3, .long (lN r0))] [] (WM a t is x y w wy re de co cr cc dn cs df)
  refine g_iconst F (oI none) dX1_least_0 (by decide) ?_
  refine g_istore (lv2 := [(0, .ref (a 0)), (1, .int p1), (2, .int p2), (3, .long (lN r0)), (5, .int (oI none))]) F dX1_least_1 (by decide) rfl ?_
  refine g_iconst F (nI 0) dX1_least_3 (by decide) ?_
  refine g_istore (lv2 := [(0, .ref (a 0)), (1, .int p1), (2, .int p2), (3, .long (lN r0)), (5, .int (oI none)), (6, .int (nI 0))]) F dX1_least_4 (by decide) rfl ?_
  refine up_loop (P := fun i => GG (EE l D t) X 0 0 6 [(0, .ref (a 0)), (1, .int p1), (2, .int p2), (3, .long (lN r0)), (5, .int (oI (lcs co cr (fun q => gapN wy (x q) (y q) p1 p2) r0 i))), (6, .int (nI i))] [] (WM a t is x y w wy re de co cr cc dn cs df)) 120 ?_ (fun i hi ih => ?_)
  · show GG (EE l D t) X 0 0 6 [(0, .ref (a 0)), (1, .int p1), (2, .int p2), (3, .long (lN r0)), (5, .int (oI (lcs co cr (fun q => gapN wy (x q) (y q) p1 p2) r0 120))), (6, .int (nI 120))] [] (WM a t is x y w wy re de co cr cc dn cs df)
    refine g_iload F dX1_least_6 rfl ?_
    refine g_bipush F (nI 120) dX1_least_8 (by decide) ?_
    refine g_icmp_ge_t F 70 dX1_least_10 (by decide) (nI_le (Nat.le_refl 120) (by decide)) ?_
    refine g_iload F dX1_least_70 rfl ?_
    exact E _ _ _ _ dX1_least_72 ⟨rfl, by rw [lcs1_eq]⟩
  · show GG (EE l D t) X 0 0 6 [(0, .ref (a 0)), (1, .int p1), (2, .int p2), (3, .long (lN r0)), (5, .int (oI (lcs co cr (fun q => gapN wy (x q) (y q) p1 p2) r0 i))), (6, .int (nI i))] [] (WM a t is x y w wy re de co cr cc dn cs df)
    refine g_iload F dX1_least_6 rfl ?_
    refine g_bipush F (nI 120) dX1_least_8 (by decide) ?_
    refine g_icmp_ge_f F 70 dX1_least_10 (by decide) (nI_ge hi (by decide)) ?_
    refine g_aload_n F dX1_least_13 rfl rfl ?_
    refine gM_get_core F dX1_least_14 ?_
    refine g_iload F dX1_least_17 rfl ?_
    refine gM_ld_core F hi dX1_least_19 ?_
    refine g_if_eq_b F 64 dX1_least_20 (by decide)  (fun h => ?_) (fun h => ?_)
    · refine g_iinc (lv2 := [(0, .ref (a 0)), (1, .int p1), (2, .int p2), (3, .long (lN r0)), (5, .int (oI (lcs co cr (fun q => gapN wy (x q) (y q) p1 p2) r0 i))), (6, .int (nI (i + 1)))]) F (nI (i + 1)) dX1_least_64 rfl (nI_add i 1) (by decide) rfl ?_
      refine g_goto F 6 dX1_least_67 (by decide) ?_
      rw [lcs_keep (co := co) (cr := cr) (g := (fun q => gapN wy (x q) (y q) p1 p2)) (r := r0) (n := i) (fun z => absurd z (by simp [h]))] at ih
      exact ih
    · obtain ⟨k, hk, hk2⟩ := hcr i hi h
      have hl := lcs_lt (g := (fun q => gapN wy (x q) (y q) p1 p2)) (r := r0) hcr i (by omega)
      refine g_aload_n F dX1_least_23 rfl rfl ?_
      refine g_iload F dX1_least_24 rfl ?_
      refine g_iload_n F dX1_least_26 rfl rfl ?_
      refine g_i2l F dX1_least_27 ?_
      refine g_iload_n F dX1_least_28 rfl rfl ?_
      refine g_i2l F dX1_least_29 ?_
      refine c_VL F [] (wr := []) (cM_far hM.1.2.2.2.1 hi p1 p2) cwX1_X1_far ⟨by decide, by decide, rfl, rfl⟩ rfl rfl rfl rfl (Nat.le_of_ble_eq_true rfl) ⟨by decide, by decide⟩ dX1_least_30 (fun r u hu => ?_)
      obtain ⟨rfl, rfl⟩ := hu
      show GG (EE l D t) X 0 0 33 [(0, .ref (a 0)), (1, .int p1), (2, .int p2), (3, .long (lN r0)), (5, .int (oI (lcs co cr (fun q => gapN wy (x q) (y q) p1 p2) r0 i))), (6, .int (nI i))] [.long (lN (gapN wy (x i) (y i) p1 p2))] (WM a t is x y w wy re de co cr cc dn cs df)
      refine g_lload_n F dX1_least_33 rfl rfl ?_
      refine g_lc_gt_n F 64 dX1_least_34 dX1_least_35 (by decide) (Nat.lt_trans (gapN_lt wy (hM.1.2.1 i) (hM.1.2.2.1 i) hp1 hp2) (by decide)) hr (fun h4 => ?_) (fun h4 => ?_)
      · refine g_iinc (lv2 := [(0, .ref (a 0)), (1, .int p1), (2, .int p2), (3, .long (lN r0)), (5, .int (oI (lcs co cr (fun q => gapN wy (x q) (y q) p1 p2) r0 i))), (6, .int (nI (i + 1)))]) F (nI (i + 1)) dX1_least_64 rfl (nI_add i 1) (by decide) rfl ?_
        refine g_goto F 6 dX1_least_67 (by decide) ?_
        rw [lcs_keep (co := co) (cr := cr) (g := (fun q => gapN wy (x q) (y q) p1 p2)) (r := r0) (n := i) (fun _ z => absurd z (by show ¬ gapN wy (x i) (y i) p1 p2 ≤ r0; omega))] at ih
        exact ih
      · refine g_iload F dX1_least_38 rfl ?_
        refine g_if_lt_o F 55 dX1_least_40 (by decide) (fun z hz => by have := hl z hz; omega) (fun h2 => ?_) (fun h2 => ?_)
        · refine g_aload_n F dX1_least_55 rfl rfl ?_
          refine gM_get_crowdOf F dX1_least_56 ?_
          refine g_iload F dX1_least_59 rfl ?_
          refine gM_ld_crowdOf F hi dX1_least_61 ?_
          refine g_istore (lv2 := [(0, .ref (a 0)), (1, .int p1), (2, .int p2), (3, .long (lN r0)), (5, .int (oI (cr i))), (6, .int (nI i))]) F dX1_least_62 (by decide) rfl ?_
          refine g_iinc (lv2 := [(0, .ref (a 0)), (1, .int p1), (2, .int p2), (3, .long (lN r0)), (5, .int (oI (cr i))), (6, .int (nI (i + 1)))]) F (nI (i + 1)) dX1_least_64 rfl (nI_add i 1) (by decide) rfl ?_
          refine g_goto F 6 dX1_least_67 (by decide) ?_
          rw [lcs_new (co := co) (cr := cr) (g := (fun q => gapN wy (x q) (y q) p1 p2)) (r := r0) (n := i) h h4, h2, show minO none (cr i) = cr i from rfl] at ih
          exact ih
        · obtain ⟨b0, hb0⟩ := Option.ne_none_iff_exists'.mp h2
          have hb1 := hl b0 hb0
          refine g_aload_n F dX1_least_43 rfl rfl ?_
          refine gM_get_crowdOf F dX1_least_44 ?_
          refine g_iload F dX1_least_47 rfl ?_
          refine gM_ld_crowdOf F hi dX1_least_49 ?_
          refine g_iload F dX1_least_50 rfl ?_
          refine g_eq (lv' := [(0, .ref (a 0)), (1, .int p1), (2, .int p2), (3, .long (lN r0)), (5, .int (oI (lcs co cr (fun q => gapN wy (x q) (y q) p1 p2) r0 i))), (6, .int (nI i))]) (st' := [.int (nI b0), .int (nI k)]) ?_ rfl rfl (by rw [hk, hb0]; rfl) rfl
          refine g_icmp_ge_n F 64 dX1_least_52 (by decide) (by omega) (by omega) (fun h3 => ?_) (fun h3 => ?_)
          · refine g_iinc (lv2 := [(0, .ref (a 0)), (1, .int p1), (2, .int p2), (3, .long (lN r0)), (5, .int (oI (lcs co cr (fun q => gapN wy (x q) (y q) p1 p2) r0 i))), (6, .int (nI (i + 1)))]) F (nI (i + 1)) dX1_least_64 rfl (nI_add i 1) (by decide) rfl ?_
            refine g_goto F 6 dX1_least_67 (by decide) ?_
            rw [lcs_keep (co := co) (cr := cr) (g := (fun q => gapN wy (x q) (y q) p1 p2)) (r := r0) (n := i) (fun _ _ => by rw [hb0, hk]; exact congrArg some (Nat.min_eq_left h3))] at ih
            exact ih
          · refine g_aload_n F dX1_least_55 rfl rfl ?_
            refine gM_get_crowdOf F dX1_least_56 ?_
            refine g_iload F dX1_least_59 rfl ?_
            refine gM_ld_crowdOf F hi dX1_least_61 ?_
            refine g_istore (lv2 := [(0, .ref (a 0)), (1, .int p1), (2, .int p2), (3, .long (lN r0)), (5, .int (oI (cr i))), (6, .int (nI i))]) F dX1_least_62 (by decide) rfl ?_
            refine g_iinc (lv2 := [(0, .ref (a 0)), (1, .int p1), (2, .int p2), (3, .long (lN r0)), (5, .int (oI (cr i))), (6, .int (nI (i + 1)))]) F (nI (i + 1)) dX1_least_64 rfl (nI_add i 1) (by decide) rfl ?_
            refine g_goto F 6 dX1_least_67 (by decide) ?_
            rw [lcs_new (co := co) (cr := cr) (g := (fun q => gapN wy (x q) (y q) p1 p2)) (r := r0) (n := i) h h4, hb0, show minO (some b0) (cr i) = cr i from by rw [hk]; exact congrArg some (Nat.min_eq_right (by omega))] at ih
            exact ih
set_option maxHeartbeats 4000000 in
set_option maxRecDepth 100000 in
/-- find -/
theorem cM_find {l : Launch} {D : va_G} {t : Ty3} {a : Nat → Nat} {is : Nat → Bool} {x : Nat → Int32} {y : Nat → Int32} {w : Nat → Nat} {wy : Nat} {re : Nat} {de : Nat} {co : Nat → Bool} {cr : Nat → Option Nat} {cc : Nat} {dn : Nat → Bool} {cs : Nat → Option Nat} {df : Nat → Option Nat} {v : Nat → Nat} (hM : MI v x y wy re de is w) {r0 : Nat} (hr : r0 < 2 ^ 63) : CtV (EE l D t) yX1_find tsX1_find (RM 2 55) [.ref (a 0), .long (lN r0)] (WM a t is x y w wy re de co cr cc dn cs df) 0 0 (fun u => ∃ co2 cr2 cc2, u = WM a t is x y w wy re de co2 cr2 cc2 dn cs df ∧ Srt v x y wy de r0 co2 cr2 cc2) := by
  refine CtV.of (by decide +kernel) rfl (Nat.le_of_ble_eq_true rfl) (fun X F E => ?_)
  show GG (EE l D t) X 0 0 0 [(0, .ref (a 0)), (1, .long (lN r0))] [] (WM a t is x y w wy re de co cr cc dn cs df)
  refine g_aload_n F dX1_find_0 rfl rfl ?_
  refine g_iconst F (nI 0) dX1_find_1 (by decide) ?_
  refine gM_put_crowds F dX1_find_2 ?_
  refine g_iconst F (nI 0) dX1_find_5 (by decide) ?_
  refine g_istore_n (lv2 := [(0, .ref (a 0)), (1, .long (lN r0)), (3, .int (nI 0))]) F dX1_find_6 rfl (by decide) rfl ?_
  have e0 : WM a t is x y w wy re de (fill co (isC v x y wy de r0) 0) (fill cr (fun _ => none) 0) 0 dn cs df = WM a t is x y w wy re de co cr 0 dn cs df := by rw [fill_0, fill_0]
  rw [← e0]
  refine up_loop (P := fun i => GG (EE l D t) X 0 0 7 [(0, .ref (a 0)), (1, .long (lN r0)), (3, .int (nI i))] [] (WM a t is x y w wy re de (fill co (isC v x y wy de r0) i) (fill cr (fun _ => none) i) 0 dn cs df)) 120 ?_ (fun i hi ih => ?_)
  · show GG (EE l D t) X 0 0 7 [(0, .ref (a 0)), (1, .long (lN r0)), (3, .int (nI 120))] [] (WM a t is x y w wy re de (fill co (isC v x y wy de r0) 120) (fill cr (fun _ => none) 120) 0 dn cs df)
    refine g_iload_n F dX1_find_7 rfl rfl ?_
    refine g_bipush F (nI 120) dX1_find_8 (by decide) ?_
    refine g_icmp_ge_t F 59 dX1_find_10 (by decide) (nI_le (Nat.le_refl 120) (by decide)) ?_
    refine g_iconst F (nI 0) dX1_find_59 (by decide) ?_
    refine g_istore_n (lv2 := [(0, .ref (a 0)), (1, .long (lN r0)), (3, .int (nI 0))]) F dX1_find_60 rfl (by decide) rfl ?_
    have e1 : ∀ p, p < 120 → fill co (isC v x y wy de r0) 120 p = isC v x y wy de r0 p := fun p hp => fill_in hp
    have e2 : ∀ p, p < 120 → fill cr (fun _ => (none : Option Nat)) 120 p = none := fun p hp => fill_in hp
    generalize fill co (isC v x y wy de r0) 120 = C at e1 ⊢
    generalize fill cr (fun _ => (none : Option Nat)) 120 = cr0 at e2 ⊢
    have key : ∀ (m i : Nat) (c1 : Nat → Option Nat) (cc : Nat), i + m = 120 → GI C (gp wy x y) r0 i c1 cc → GG (EE l D t) X 0 0 61 [(0, .ref (a 0)), (1, .long (lN r0)), (3, .int (nI i))] [] (WM a t is x y w wy re de C c1 cc dn cs df) := by
      intro m
      induction m with
      | zero =>
        intro i c1 cc him hG
        have hi : i = 120 := by omega
        subst hi
        refine g_iload_n F dX1_find_61 rfl rfl ?_
        refine g_bipush F (nI 120) dX1_find_62 (by decide) ?_
        refine g_icmp_ge_t F 180 dX1_find_64 (by decide) (nI_le (Nat.le_refl 120) (by decide)) ?_
        refine g_iconst F (nI 0) dX1_find_180 (by decide) ?_
        refine g_istore_n (lv2 := [(0, .ref (a 0)), (1, .long (lN r0)), (3, .int (nI 0))]) F dX1_find_181 rfl (by decide) rfl ?_
        have hk : ∀ q, q < 120 → C q = true → ∃ k, c1 q = some k ∧ k < 120 := fun q hq hc => by
          obtain ⟨p, p1, p2, p3⟩ := rt_ex (A := adj C (gp wy x y) r0) hc
          have e := hG.2.1 q hq p (by omega) p2 p3
          exact ⟨_, e, hG.bd (Nat.le_refl 120) hq _ e⟩
        have e0 : WM a t is x y w wy re de C (fill c1 (jB v C c1 (fun p q => gapN wy (x q) (y q) (x p) (y p)) r0) 0) cc dn cs df = WM a t is x y w wy re de C c1 cc dn cs df := by rw [fill_0]
        rw [← e0]
        refine up_loop (P := fun i => GG (EE l D t) X 0 0 182 [(0, .ref (a 0)), (1, .long (lN r0)), (3, .int (nI i))] [] (WM a t is x y w wy re de C (fill c1 (jB v C c1 (fun p q => gapN wy (x q) (y q) (x p) (y p)) r0) i) cc dn cs df)) 120 ?_ (fun i hi ih => ?_)
        · show GG (EE l D t) X 0 0 182 [(0, .ref (a 0)), (1, .long (lN r0)), (3, .int (nI 120))] [] (WM a t is x y w wy re de C (fill c1 (jB v C c1 (fun p q => gapN wy (x q) (y q) (x p) (y p)) r0) 120) cc dn cs df)
          refine g_iload_n F dX1_find_182 rfl rfl ?_
          refine g_bipush F (nI 120) dX1_find_183 (by decide) ?_
          refine g_icmp_ge_t F 235 dX1_find_185 (by decide) (nI_le (Nat.le_refl 120) (by decide)) ?_
          exact E _ _ _ dX1_find_235 ⟨C, _, cc, rfl, hG.srt e1 (fun p hp => by rw [fill_in hp]; rfl)⟩
        · show GG (EE l D t) X 0 0 182 [(0, .ref (a 0)), (1, .long (lN r0)), (3, .int (nI i))] [] (WM a t is x y w wy re de C (fill c1 (jB v C c1 (fun p q => gapN wy (x q) (y q) (x p) (y p)) r0) i) cc dn cs df)
          refine g_iload_n F dX1_find_182 rfl rfl ?_
          refine g_bipush F (nI 120) dX1_find_183 (by decide) ?_
          refine g_icmp_ge_f F 235 dX1_find_185 (by decide) (nI_ge hi (by decide)) ?_
          refine g_aload_n F dX1_find_188 rfl rfl ?_
          refine gM_get_is F dX1_find_189 ?_
          refine g_iload_n F dX1_find_192 rfl rfl ?_
          refine gM_ld_is F hi dX1_find_193 ?_
          refine g_if_eq_b F 229 dX1_find_194 (by decide)  (fun h => ?_) (fun h => ?_)
          · refine g_iinc (lv2 := [(0, .ref (a 0)), (1, .long (lN r0)), (3, .int (nI (i + 1)))]) F (nI (i + 1)) dX1_find_229 rfl (nI_add i 1) (by decide) rfl ?_
            refine g_goto F 182 dX1_find_232 (by decide) ?_
            rw [fill_same (f := c1) (g := (jB v C c1 (fun p q => gapN wy (x q) (y q) (x p) (y p)) r0)) (by unfold jB; rw [if_neg (by have := hM.n h; omega)])] at ih
            exact ih
          · refine g_aload_n F dX1_find_197 rfl rfl ?_
            refine gM_get_core F dX1_find_198 ?_
            refine g_iload_n F dX1_find_201 rfl rfl ?_
            refine gM_ld_core F hi dX1_find_202 ?_
            refine g_if_ne_b F 229 dX1_find_203 (by decide)  (fun h2 => ?_) (fun h2 => ?_)
            · refine g_iinc (lv2 := [(0, .ref (a 0)), (1, .long (lN r0)), (3, .int (nI (i + 1)))]) F (nI (i + 1)) dX1_find_229 rfl (nI_add i 1) (by decide) rfl ?_
              refine g_goto F 182 dX1_find_232 (by decide) ?_
              rw [fill_same (f := c1) (g := (jB v C c1 (fun p q => gapN wy (x q) (y q) (x p) (y p)) r0)) (by unfold jB; rw [if_neg (by simp [h2])])] at ih
              exact ih
            · have hq : ∀ q, q < 120 → C q = true → fill c1 (jB v C c1 (fun p q => gapN wy (x q) (y q) (x p) (y p)) r0) i q = c1 q := fun q _ hq => by unfold fill jB; split <;> simp [hq]
              refine g_aload_n F dX1_find_206 rfl rfl ?_
              refine gM_get_crowdOf F dX1_find_207 ?_
              refine g_iload_n F dX1_find_210 rfl rfl ?_
              refine g_aload_n F dX1_find_211 rfl rfl ?_
              refine g_aload_n F dX1_find_212 rfl rfl ?_
              refine gM_get_xs F dX1_find_213 ?_
              refine g_iload_n F dX1_find_216 rfl rfl ?_
              refine gM_ld_xs F hi dX1_find_217 ?_
              refine g_aload_n F dX1_find_218 rfl rfl ?_
              refine gM_get_ys F dX1_find_219 ?_
              refine g_iload_n F dX1_find_222 rfl rfl ?_
              refine gM_ld_ys F hi dX1_find_223 ?_
              refine g_lload_n F dX1_find_224 rfl rfl ?_
              refine c_VI F [.int (nI i), .ref (a 6)] (wr := []) (cM_least hM (fun q h1 h2 => by rw [hq q h1 h2]; exact hk q h1 h2) (hM.1.2.1 i) (hM.1.2.2.1 i) hr) cwX1_X1_least ⟨by decide, by decide, rfl, rfl⟩ rfl rfl rfl rfl (Nat.le_of_ble_eq_true rfl) ⟨by decide, by decide⟩ dX1_find_225 (fun r u hu => ?_)
              obtain ⟨rfl, rfl⟩ := hu
              show GG (EE l D t) X 0 0 228 [(0, .ref (a 0)), (1, .long (lN r0)), (3, .int (nI i))] [.int (oI (lcs1 C (fill c1 (jB v C c1 (fun p q => gapN wy (x q) (y q) (x p) (y p)) r0) i) (fun q => gapN wy (x q) (y q) (x i) (y i)) r0)), .int (nI i), .ref (a 6)] (WM a t is x y w wy re de C (fill c1 (jB v C c1 (fun p q => gapN wy (x q) (y q) (x p) (y p)) r0) i) cc dn cs df)
              refine g_topi (y := oI (lcs1 C c1 (fun q => gapN wy (x q) (y q) (x i) (y i)) r0)) (congrArg oI (by rw [lcs1_eq, lcs1_eq]; exact lcs_congr 120 hq)) ?_
              refine gM_st_crowdOf F hi dX1_find_228 ?_
              refine g_iinc (lv2 := [(0, .ref (a 0)), (1, .long (lN r0)), (3, .int (nI (i + 1)))]) F (nI (i + 1)) dX1_find_229 rfl (nI_add i 1) (by decide) rfl ?_
              refine g_goto F 182 dX1_find_232 (by decide) ?_
              rw [fill_up (f := c1) (g := (jB v C c1 (fun p q => gapN wy (x q) (y q) (x p) (y p)) r0)) (v := lcs1 C c1 (fun q => gapN wy (x q) (y q) (x i) (y i)) r0) (by unfold jB; rw [if_pos ⟨(hM.y h).1, h2⟩])] at ih
              exact ih
      | succ m ih =>
        intro i c1 cc him hG
        have hi : i < 120 := by omega
        have hcc := hG.cc
        refine g_iload_n F dX1_find_61 rfl rfl ?_
        refine g_bipush F (nI 120) dX1_find_62 (by decide) ?_
        refine g_icmp_ge_f F 180 dX1_find_64 (by decide) (nI_ge hi (by decide)) ?_
        refine g_aload_n F dX1_find_67 rfl rfl ?_
        refine gM_get_core F dX1_find_68 ?_
        refine g_iload_n F dX1_find_71 rfl rfl ?_
        refine gM_ld_core F hi dX1_find_72 ?_
        refine g_if_eq_b F 174 dX1_find_73 (by decide)  (fun h => ?_) (fun h => ?_)
        · refine g_iinc (lv2 := [(0, .ref (a 0)), (1, .long (lN r0)), (3, .int (nI (i + 1)))]) F (nI (i + 1)) dX1_find_174 rfl (nI_add i 1) (by decide) rfl ?_
          refine g_goto F 61 dX1_find_177 (by decide) ?_
          exact ih (i + 1) c1 cc (by omega) (hG.no hi (by simp [h]))
        · refine g_aload_n F dX1_find_76 rfl rfl ?_
          refine gM_get_crowdOf F dX1_find_77 ?_
          refine g_iload_n F dX1_find_80 rfl rfl ?_
          refine gM_ld_crowdOf F hi dX1_find_81 ?_
          refine g_if_lt_o F 88 dX1_find_82 (by decide) (fun k hk => by have := hG.bd (by omega) hi k hk; omega) (fun h2 => ?_) (fun h2 => ?_)
          · obtain ⟨hroot, hfr, hun⟩ := hG.root (gp_comm wy x y) hi h h2
            refine g_aload_n F dX1_find_88 rfl rfl ?_
            refine gM_get_crowdOf F dX1_find_89 ?_
            refine g_iload_n F dX1_find_92 rfl rfl ?_
            refine g_aload_n F dX1_find_93 rfl rfl ?_
            refine gM_get_crowds F dX1_find_94 ?_
            refine gM_st_crowdOf (e := (some cc)) F hi dX1_find_97 ?_
            refine g_iconst F (b2 true) dX1_find_98 (by decide) ?_
            refine g_istore (lv2 := [(0, .ref (a 0)), (1, .long (lN r0)), (3, .int (nI i)), (4, .int (b2 true))]) F dX1_find_99 (by decide) rfl ?_
            have wh : ∀ (n : Nat) (c2 : Nat → Option Nat), unl c2 120 ≤ n → Lb C (gp wy x y) r0 cc i c1 c2 → GG (EE l D t) X 0 0 101 [(0, .ref (a 0)), (1, .long (lN r0)), (3, .int (nI i)), (4, .int (b2 true))] [] (WM a t is x y w wy re de C c2 cc dn cs df) := by
              intro n
              induction n with
              | zero =>
                intro c2 hu hL
                refine g_iload F dX1_find_101 rfl ?_
                refine g_if_eq_b F 164 dX1_find_103 (by decide) (fun h9 => by cases h9) (fun h9 => ?_)
                refine g_iconst F (b2 false) dX1_find_106 (by decide) ?_
                refine g_istore (lv2 := [(0, .ref (a 0)), (1, .long (lN r0)), (3, .int (nI i)), (4, .int (b2 false))]) F dX1_find_107 (by decide) rfl ?_
                refine g_iconst F (nI 0) dX1_find_109 (by decide) ?_
                refine g_istore (lv2 := [(0, .ref (a 0)), (1, .long (lN r0)), (3, .int (nI i)), (4, .int (b2 false)), (5, .int (nI 0))]) F dX1_find_110 (by decide) rfl ?_
                have ps : ∀ (m z : Nat) (c3 : Nat → Option Nat) (mo : Bool), z + m = 120 → Ps C (gp wy x y) r0 cc i c1 c2 z c3 mo → GG (EE l D t) X 0 0 112 [(0, .ref (a 0)), (1, .long (lN r0)), (3, .int (nI i)), (4, .int (b2 mo)), (5, .int (nI z))] [] (WM a t is x y w wy re de C c3 cc dn cs df) := by
                  intro m
                  induction m with
                  | zero =>
                    intro z c3 mo hzm hP
                    have hz : z = 120 := by omega
                    subst hz
                    refine g_iload F dX1_find_112 rfl ?_
                    refine g_bipush F (nI 120) dX1_find_114 (by decide) ?_
                    refine g_icmp_ge_t F 161 dX1_find_116 (by decide) (nI_le (Nat.le_refl 120) (by decide)) ?_
                    refine g_goto F 101 dX1_find_161 (by decide) ?_
                    refine g_lv [0, 1, 2, 3] rfl ?_
                    cases mo with
                    | true =>
                      exact absurd (hP.2.2 rfl) (by omega)
                    | false =>
                      refine g_iload F dX1_find_101 rfl ?_
                      refine g_if_eq_b F 164 dX1_find_103 (by decide) (fun h9 => ?_) (fun h9 => by cases h9)
                      obtain ⟨f1, f2⟩ := hP.2.1 rfl
                      obtain ⟨l1, l2⟩ := hP.1.fin hi hun (fun p hp hc q hq => by rw [f1 q hq.2.1]; exact f2 p hp (by rw [← f1 p hp]; exact hc) q hq)
                      refine g_aload_n F dX1_find_164 rfl rfl ?_
                      refine g_dup F dX1_find_165 rfl ?_
                      refine gM_get_crowds F dX1_find_166 ?_
                      refine g_iconst F (nI 1) dX1_find_169 (by decide) ?_
                      refine g_iadd_n F dX1_find_170 ?_
                      refine gM_put_crowds F dX1_find_171 ?_
                      refine g_iinc (lv2 := [(0, .ref (a 0)), (1, .long (lN r0)), (3, .int (nI (i + 1))), (4, .int (b2 false))]) F (nI (i + 1)) dX1_find_174 rfl (nI_add i 1) (by decide) rfl ?_
                      refine g_goto F 61 dX1_find_177 (by decide) ?_
                      refine g_lv [0, 1, 2] rfl ?_
                      exact ih (i + 1) c3 (cc + 1) (by omega) (hG.yes (gp_comm wy x y) hroot l1 l2)
                  | succ m ihm =>
                    intro z c3 mo hzm hP
                    have hz : z < 120 := by omega
                    have hb3 : ∀ j, j < 120 → ∀ k, c3 j = some k → k < 120 := fun j hj k hk => by
                      rcases hP.1.2.1 j hj with e | e
                      · rw [e] at hk
                        exact hG.bd (by omega) hj k hk
                      · rw [e.1] at hk
                        cases hk
                        omega
                    refine g_iload F dX1_find_112 rfl ?_
                    refine g_bipush F (nI 120) dX1_find_114 (by decide) ?_
                    refine g_icmp_ge_f F 161 dX1_find_116 (by decide) (nI_ge hz (by decide)) ?_
                    refine g_aload_n F dX1_find_119 rfl rfl ?_
                    refine gM_get_crowdOf F dX1_find_120 ?_
                    refine g_iload F dX1_find_123 rfl ?_
                    refine gM_ld_crowdOf F hz dX1_find_125 ?_
                    refine g_aload_n F dX1_find_126 rfl rfl ?_
                    refine gM_get_crowds F dX1_find_127 ?_
                    refine g_icmp_ne_on F 143 dX1_find_130 (by decide) (fun k hk => by have := hb3 z hz k hk; omega) (by omega) (fun h3 => ?_) (fun h3 => ?_)
                    · refine g_iload F dX1_find_143 rfl ?_
                      refine g_if_eq_b F 152 dX1_find_145 (by decide)  (fun h5 => ?_) (fun h5 => ?_)
                      · refine g_iconst F (b2 false) dX1_find_152 (by decide) ?_
                        refine g_istore (lv2 := [(0, .ref (a 0)), (1, .long (lN r0)), (3, .int (nI i)), (4, .int (b2 false)), (5, .int (nI z))]) F dX1_find_153 (by decide) rfl ?_
                        refine g_iinc (lv2 := [(0, .ref (a 0)), (1, .long (lN r0)), (3, .int (nI i)), (4, .int (b2 false)), (5, .int (nI (z + 1)))]) F (nI (z + 1)) dX1_find_155 rfl (nI_add z 1) (by decide) rfl ?_
                        refine g_goto F 112 dX1_find_158 (by decide) ?_
                        rw [h5] at hP
                        exact ihm (z + 1) _ false (by omega) (hP.skip hz h3)
                      · refine g_iconst F (b2 true) dX1_find_148 (by decide) ?_
                        refine g_goto F 153 dX1_find_149 (by decide) ?_
                        refine g_istore (lv2 := [(0, .ref (a 0)), (1, .long (lN r0)), (3, .int (nI i)), (4, .int (b2 true)), (5, .int (nI z))]) F dX1_find_153 (by decide) rfl ?_
                        refine g_iinc (lv2 := [(0, .ref (a 0)), (1, .long (lN r0)), (3, .int (nI i)), (4, .int (b2 true)), (5, .int (nI (z + 1)))]) F (nI (z + 1)) dX1_find_155 rfl (nI_add z 1) (by decide) rfl ?_
                        refine g_goto F 112 dX1_find_158 (by decide) ?_
                        rw [h5] at hP
                        exact ihm (z + 1) _ true (by omega) (hP.skip hz h3)
                    · refine g_aload_n F dX1_find_133 rfl rfl ?_
                      refine g_iload F dX1_find_134 rfl ?_
                      refine g_lload_n F dX1_find_136 rfl rfl ?_
                      refine c_VI F [] (wr := []) (cM_spread hM hb3 hz hr) cwX1_X1_spread ⟨by decide, by decide, rfl, rfl⟩ rfl rfl rfl rfl (Nat.le_of_ble_eq_true rfl) ⟨by decide, by decide⟩ dX1_find_137 (fun r u hu => ?_)
                      obtain ⟨rfl, rfl⟩ := hu
                      show GG (EE l D t) X 0 0 140 [(0, .ref (a 0)), (1, .long (lN r0)), (3, .int (nI i)), (4, .int (b2 mo)), (5, .int (nI z))] [.int (b2 (any1 (newS C c3 (gp wy x y z) r0)))] (WM a t is x y w wy re de C (fill c3 (nearC C c3 cc (gp wy x y z) r0) 120) cc dn cs df)
                      have hsp := hP.sp hi h hz h3
                      refine g_if_ne_b F 148 dX1_find_140 (by decide)  (fun h4 => ?_) (fun h4 => ?_)
                      · refine g_iconst F (b2 true) dX1_find_148 (by decide) ?_
                        refine g_goto F 153 dX1_find_149 (by decide) ?_
                        refine g_istore (lv2 := [(0, .ref (a 0)), (1, .long (lN r0)), (3, .int (nI i)), (4, .int (b2 true)), (5, .int (nI z))]) F dX1_find_153 (by decide) rfl ?_
                        refine g_iinc (lv2 := [(0, .ref (a 0)), (1, .long (lN r0)), (3, .int (nI i)), (4, .int (b2 true)), (5, .int (nI (z + 1)))]) F (nI (z + 1)) dX1_find_155 rfl (nI_add z 1) (by decide) rfl ?_
                        refine g_goto F 112 dX1_find_158 (by decide) ?_
                        rw [h4, Bool.true_or] at hsp
                        exact ihm (z + 1) _ true (by omega) hsp
                      · rw [h4, Bool.false_or] at hsp
                        refine g_iload F dX1_find_143 rfl ?_
                        refine g_if_eq_b F 152 dX1_find_145 (by decide)  (fun h5 => ?_) (fun h5 => ?_)
                        · refine g_iconst F (b2 false) dX1_find_152 (by decide) ?_
                          refine g_istore (lv2 := [(0, .ref (a 0)), (1, .long (lN r0)), (3, .int (nI i)), (4, .int (b2 false)), (5, .int (nI z))]) F dX1_find_153 (by decide) rfl ?_
                          refine g_iinc (lv2 := [(0, .ref (a 0)), (1, .long (lN r0)), (3, .int (nI i)), (4, .int (b2 false)), (5, .int (nI (z + 1)))]) F (nI (z + 1)) dX1_find_155 rfl (nI_add z 1) (by decide) rfl ?_
                          refine g_goto F 112 dX1_find_158 (by decide) ?_
                          rw [h5] at hsp
                          exact ihm (z + 1) _ false (by omega) hsp
                        · refine g_iconst F (b2 true) dX1_find_148 (by decide) ?_
                          refine g_goto F 153 dX1_find_149 (by decide) ?_
                          refine g_istore (lv2 := [(0, .ref (a 0)), (1, .long (lN r0)), (3, .int (nI i)), (4, .int (b2 true)), (5, .int (nI z))]) F dX1_find_153 (by decide) rfl ?_
                          refine g_iinc (lv2 := [(0, .ref (a 0)), (1, .long (lN r0)), (3, .int (nI i)), (4, .int (b2 true)), (5, .int (nI (z + 1)))]) F (nI (z + 1)) dX1_find_155 rfl (nI_add z 1) (by decide) rfl ?_
                          refine g_goto F 112 dX1_find_158 (by decide) ?_
                          rw [h5] at hsp
                          exact ihm (z + 1) _ true (by omega) hsp
                exact ps 120 0 c2 false rfl (Ps.zero hL)
              | succ n ihn =>
                intro c2 hu hL
                refine g_iload F dX1_find_101 rfl ?_
                refine g_if_eq_b F 164 dX1_find_103 (by decide) (fun h9 => by cases h9) (fun h9 => ?_)
                refine g_iconst F (b2 false) dX1_find_106 (by decide) ?_
                refine g_istore (lv2 := [(0, .ref (a 0)), (1, .long (lN r0)), (3, .int (nI i)), (4, .int (b2 false))]) F dX1_find_107 (by decide) rfl ?_
                refine g_iconst F (nI 0) dX1_find_109 (by decide) ?_
                refine g_istore (lv2 := [(0, .ref (a 0)), (1, .long (lN r0)), (3, .int (nI i)), (4, .int (b2 false)), (5, .int (nI 0))]) F dX1_find_110 (by decide) rfl ?_
                have ps : ∀ (m z : Nat) (c3 : Nat → Option Nat) (mo : Bool), z + m = 120 → Ps C (gp wy x y) r0 cc i c1 c2 z c3 mo → GG (EE l D t) X 0 0 112 [(0, .ref (a 0)), (1, .long (lN r0)), (3, .int (nI i)), (4, .int (b2 mo)), (5, .int (nI z))] [] (WM a t is x y w wy re de C c3 cc dn cs df) := by
                  intro m
                  induction m with
                  | zero =>
                    intro z c3 mo hzm hP
                    have hz : z = 120 := by omega
                    subst hz
                    refine g_iload F dX1_find_112 rfl ?_
                    refine g_bipush F (nI 120) dX1_find_114 (by decide) ?_
                    refine g_icmp_ge_t F 161 dX1_find_116 (by decide) (nI_le (Nat.le_refl 120) (by decide)) ?_
                    refine g_goto F 101 dX1_find_161 (by decide) ?_
                    refine g_lv [0, 1, 2, 3] rfl ?_
                    cases mo with
                    | true =>
                      exact ihn c3 (by have := hP.2.2 rfl; omega) hP.1
                    | false =>
                      refine g_iload F dX1_find_101 rfl ?_
                      refine g_if_eq_b F 164 dX1_find_103 (by decide) (fun h9 => ?_) (fun h9 => by cases h9)
                      obtain ⟨f1, f2⟩ := hP.2.1 rfl
                      obtain ⟨l1, l2⟩ := hP.1.fin hi hun (fun p hp hc q hq => by rw [f1 q hq.2.1]; exact f2 p hp (by rw [← f1 p hp]; exact hc) q hq)
                      refine g_aload_n F dX1_find_164 rfl rfl ?_
                      refine g_dup F dX1_find_165 rfl ?_
                      refine gM_get_crowds F dX1_find_166 ?_
                      refine g_iconst F (nI 1) dX1_find_169 (by decide) ?_
                      refine g_iadd_n F dX1_find_170 ?_
                      refine gM_put_crowds F dX1_find_171 ?_
                      refine g_iinc (lv2 := [(0, .ref (a 0)), (1, .long (lN r0)), (3, .int (nI (i + 1))), (4, .int (b2 false))]) F (nI (i + 1)) dX1_find_174 rfl (nI_add i 1) (by decide) rfl ?_
                      refine g_goto F 61 dX1_find_177 (by decide) ?_
                      refine g_lv [0, 1, 2] rfl ?_
                      exact ih (i + 1) c3 (cc + 1) (by omega) (hG.yes (gp_comm wy x y) hroot l1 l2)
                  | succ m ihm =>
                    intro z c3 mo hzm hP
                    have hz : z < 120 := by omega
                    have hb3 : ∀ j, j < 120 → ∀ k, c3 j = some k → k < 120 := fun j hj k hk => by
                      rcases hP.1.2.1 j hj with e | e
                      · rw [e] at hk
                        exact hG.bd (by omega) hj k hk
                      · rw [e.1] at hk
                        cases hk
                        omega
                    refine g_iload F dX1_find_112 rfl ?_
                    refine g_bipush F (nI 120) dX1_find_114 (by decide) ?_
                    refine g_icmp_ge_f F 161 dX1_find_116 (by decide) (nI_ge hz (by decide)) ?_
                    refine g_aload_n F dX1_find_119 rfl rfl ?_
                    refine gM_get_crowdOf F dX1_find_120 ?_
                    refine g_iload F dX1_find_123 rfl ?_
                    refine gM_ld_crowdOf F hz dX1_find_125 ?_
                    refine g_aload_n F dX1_find_126 rfl rfl ?_
                    refine gM_get_crowds F dX1_find_127 ?_
                    refine g_icmp_ne_on F 143 dX1_find_130 (by decide) (fun k hk => by have := hb3 z hz k hk; omega) (by omega) (fun h3 => ?_) (fun h3 => ?_)
                    · refine g_iload F dX1_find_143 rfl ?_
                      refine g_if_eq_b F 152 dX1_find_145 (by decide)  (fun h5 => ?_) (fun h5 => ?_)
                      · refine g_iconst F (b2 false) dX1_find_152 (by decide) ?_
                        refine g_istore (lv2 := [(0, .ref (a 0)), (1, .long (lN r0)), (3, .int (nI i)), (4, .int (b2 false)), (5, .int (nI z))]) F dX1_find_153 (by decide) rfl ?_
                        refine g_iinc (lv2 := [(0, .ref (a 0)), (1, .long (lN r0)), (3, .int (nI i)), (4, .int (b2 false)), (5, .int (nI (z + 1)))]) F (nI (z + 1)) dX1_find_155 rfl (nI_add z 1) (by decide) rfl ?_
                        refine g_goto F 112 dX1_find_158 (by decide) ?_
                        rw [h5] at hP
                        exact ihm (z + 1) _ false (by omega) (hP.skip hz h3)
                      · refine g_iconst F (b2 true) dX1_find_148 (by decide) ?_
                        refine g_goto F 153 dX1_find_149 (by decide) ?_
                        refine g_istore (lv2 := [(0, .ref (a 0)), (1, .long (lN r0)), (3, .int (nI i)), (4, .int (b2 true)), (5, .int (nI z))]) F dX1_find_153 (by decide) rfl ?_
                        refine g_iinc (lv2 := [(0, .ref (a 0)), (1, .long (lN r0)), (3, .int (nI i)), (4, .int (b2 true)), (5, .int (nI (z + 1)))]) F (nI (z + 1)) dX1_find_155 rfl (nI_add z 1) (by decide) rfl ?_
                        refine g_goto F 112 dX1_find_158 (by decide) ?_
                        rw [h5] at hP
                        exact ihm (z + 1) _ true (by omega) (hP.skip hz h3)
                    · refine g_aload_n F dX1_find_133 rfl rfl ?_
                      refine g_iload F dX1_find_134 rfl ?_
                      refine g_lload_n F dX1_find_136 rfl rfl ?_
                      refine c_VI F [] (wr := []) (cM_spread hM hb3 hz hr) cwX1_X1_spread ⟨by decide, by decide, rfl, rfl⟩ rfl rfl rfl rfl (Nat.le_of_ble_eq_true rfl) ⟨by decide, by decide⟩ dX1_find_137 (fun r u hu => ?_)
                      obtain ⟨rfl, rfl⟩ := hu
                      show GG (EE l D t) X 0 0 140 [(0, .ref (a 0)), (1, .long (lN r0)), (3, .int (nI i)), (4, .int (b2 mo)), (5, .int (nI z))] [.int (b2 (any1 (newS C c3 (gp wy x y z) r0)))] (WM a t is x y w wy re de C (fill c3 (nearC C c3 cc (gp wy x y z) r0) 120) cc dn cs df)
                      have hsp := hP.sp hi h hz h3
                      refine g_if_ne_b F 148 dX1_find_140 (by decide)  (fun h4 => ?_) (fun h4 => ?_)
                      · refine g_iconst F (b2 true) dX1_find_148 (by decide) ?_
                        refine g_goto F 153 dX1_find_149 (by decide) ?_
                        refine g_istore (lv2 := [(0, .ref (a 0)), (1, .long (lN r0)), (3, .int (nI i)), (4, .int (b2 true)), (5, .int (nI z))]) F dX1_find_153 (by decide) rfl ?_
                        refine g_iinc (lv2 := [(0, .ref (a 0)), (1, .long (lN r0)), (3, .int (nI i)), (4, .int (b2 true)), (5, .int (nI (z + 1)))]) F (nI (z + 1)) dX1_find_155 rfl (nI_add z 1) (by decide) rfl ?_
                        refine g_goto F 112 dX1_find_158 (by decide) ?_
                        rw [h4, Bool.true_or] at hsp
                        exact ihm (z + 1) _ true (by omega) hsp
                      · rw [h4, Bool.false_or] at hsp
                        refine g_iload F dX1_find_143 rfl ?_
                        refine g_if_eq_b F 152 dX1_find_145 (by decide)  (fun h5 => ?_) (fun h5 => ?_)
                        · refine g_iconst F (b2 false) dX1_find_152 (by decide) ?_
                          refine g_istore (lv2 := [(0, .ref (a 0)), (1, .long (lN r0)), (3, .int (nI i)), (4, .int (b2 false)), (5, .int (nI z))]) F dX1_find_153 (by decide) rfl ?_
                          refine g_iinc (lv2 := [(0, .ref (a 0)), (1, .long (lN r0)), (3, .int (nI i)), (4, .int (b2 false)), (5, .int (nI (z + 1)))]) F (nI (z + 1)) dX1_find_155 rfl (nI_add z 1) (by decide) rfl ?_
                          refine g_goto F 112 dX1_find_158 (by decide) ?_
                          rw [h5] at hsp
                          exact ihm (z + 1) _ false (by omega) hsp
                        · refine g_iconst F (b2 true) dX1_find_148 (by decide) ?_
                          refine g_goto F 153 dX1_find_149 (by decide) ?_
                          refine g_istore (lv2 := [(0, .ref (a 0)), (1, .long (lN r0)), (3, .int (nI i)), (4, .int (b2 true)), (5, .int (nI z))]) F dX1_find_153 (by decide) rfl ?_
                          refine g_iinc (lv2 := [(0, .ref (a 0)), (1, .long (lN r0)), (3, .int (nI i)), (4, .int (b2 true)), (5, .int (nI (z + 1)))]) F (nI (z + 1)) dX1_find_155 rfl (nI_add z 1) (by decide) rfl ?_
                          refine g_goto F 112 dX1_find_158 (by decide) ?_
                          rw [h5] at hsp
                          exact ihm (z + 1) _ true (by omega) hsp
                exact ps 120 0 c2 false rfl (Ps.zero hL)
            exact wh 120 _ (unl_le _ 120) ⟨fun p hp hc => by
              by_cases e : p = i
              · rw [e]; exact cnn_rf i
              · rw [up_n e] at hc
                exact absurd hc (hfr p hp), fun p hp => by
              by_cases e : p = i
              · subst e
                exact Or.inr ⟨up_s, h2, h⟩
              · exact Or.inl (up_n e), up_s⟩
          · refine g_goto F 174 dX1_find_85 (by decide) ?_
            refine g_iinc (lv2 := [(0, .ref (a 0)), (1, .long (lN r0)), (3, .int (nI (i + 1)))]) F (nI (i + 1)) dX1_find_174 rfl (nI_add i 1) (by decide) rfl ?_
            refine g_goto F 61 dX1_find_177 (by decide) ?_
            exact ih (i + 1) c1 cc (by omega) (hG.no hi (fun z => h2 z.2))
    exact key 120 0 cr0 0 rfl (GI.zero e2)
  · show GG (EE l D t) X 0 0 7 [(0, .ref (a 0)), (1, .long (lN r0)), (3, .int (nI i))] [] (WM a t is x y w wy re de (fill co (isC v x y wy de r0) i) (fill cr (fun _ => none) i) 0 dn cs df)
    refine g_iload_n F dX1_find_7 rfl rfl ?_
    refine g_bipush F (nI 120) dX1_find_8 (by decide) ?_
    refine g_icmp_ge_f F 59 dX1_find_10 (by decide) (nI_ge hi (by decide)) ?_
    refine g_aload_n F dX1_find_13 rfl rfl ?_
    refine gM_get_core F dX1_find_14 ?_
    refine g_iload_n F dX1_find_17 rfl rfl ?_
    refine g_aload_n F dX1_find_18 rfl rfl ?_
    refine gM_get_is F dX1_find_19 ?_
    refine g_iload_n F dX1_find_22 rfl rfl ?_
    refine gM_ld_is F hi dX1_find_23 ?_
    refine g_if_eq_b F 44 dX1_find_24 (by decide)  (fun h => ?_) (fun h => ?_)
    · refine g_iconst F (b2 false) dX1_find_44 (by decide) ?_
      refine gM_st_core F hi dX1_find_45 ?_
      refine g_aload_n F dX1_find_46 rfl rfl ?_
      refine gM_get_crowdOf F dX1_find_47 ?_
      refine g_iload_n F dX1_find_50 rfl rfl ?_
      refine g_iconst F (oI none) dX1_find_51 (by decide) ?_
      refine gM_st_crowdOf F hi dX1_find_52 ?_
      refine g_iinc (lv2 := [(0, .ref (a 0)), (1, .long (lN r0)), (3, .int (nI (i + 1)))]) F (nI (i + 1)) dX1_find_53 rfl (nI_add i 1) (by decide) rfl ?_
      refine g_goto F 7 dX1_find_56 (by decide) ?_
      rw [fill_up (f := co) (g := (isC v x y wy de r0)) (v := false) (by unfold isC; have := hM.n h; simp; omega), fill_up (f := cr) (g := fun _ => none) (v := none) rfl] at ih
      exact ih
    · refine g_aload_n F dX1_find_27 rfl rfl ?_
      refine g_iload_n F dX1_find_28 rfl rfl ?_
      refine g_lload_n F dX1_find_29 rfl rfl ?_
      refine c_VI F [.int (nI i), .ref (a 5)] (wr := []) (cM_weightWithin hM hi hr) cwX1_X1_weightWithin ⟨by decide, by decide, rfl, rfl⟩ rfl rfl rfl rfl (Nat.le_of_ble_eq_true rfl) ⟨by decide, by decide⟩ dX1_find_30 (fun r u hu => ?_)
      obtain ⟨rfl, rfl⟩ := hu
      show GG (EE l D t) X 0 0 33 [(0, .ref (a 0)), (1, .long (lN r0)), (3, .int (nI i))] [.int (nI (ww v (gp wy x y i) r0)), .int (nI i), .ref (a 5)] (WM a t is x y w wy re de (fill co (isC v x y wy de r0) i) (fill cr (fun _ => none) i) 0 dn cs df)
      refine g_aload_n F dX1_find_33 rfl rfl ?_
      refine gM_get_demand F dX1_find_34 ?_
      refine g_icmp_lt_n F 44 dX1_find_37 (by decide) (by have := sum1_le (wwf_le (g := gp wy x y i) (r := r0) hM.1.1); unfold ww; omega) (by have := hM.1.2.2.2.2.2; omega) (fun h2 => ?_) (fun h2 => ?_)
      · refine g_iconst F (b2 false) dX1_find_44 (by decide) ?_
        refine gM_st_core F hi dX1_find_45 ?_
        refine g_aload_n F dX1_find_46 rfl rfl ?_
        refine gM_get_crowdOf F dX1_find_47 ?_
        refine g_iload_n F dX1_find_50 rfl rfl ?_
        refine g_iconst F (oI none) dX1_find_51 (by decide) ?_
        refine gM_st_crowdOf F hi dX1_find_52 ?_
        refine g_iinc (lv2 := [(0, .ref (a 0)), (1, .long (lN r0)), (3, .int (nI (i + 1)))]) F (nI (i + 1)) dX1_find_53 rfl (nI_add i 1) (by decide) rfl ?_
        refine g_goto F 7 dX1_find_56 (by decide) ?_
        rw [fill_up (f := co) (g := (isC v x y wy de r0)) (v := false) (by unfold isC; simp; omega), fill_up (f := cr) (g := fun _ => none) (v := none) rfl] at ih
        exact ih
      · refine g_iconst F (b2 true) dX1_find_40 (by decide) ?_
        refine g_goto F 45 dX1_find_41 (by decide) ?_
        refine gM_st_core F hi dX1_find_45 ?_
        refine g_aload_n F dX1_find_46 rfl rfl ?_
        refine gM_get_crowdOf F dX1_find_47 ?_
        refine g_iload_n F dX1_find_50 rfl rfl ?_
        refine g_iconst F (oI none) dX1_find_51 (by decide) ?_
        refine gM_st_crowdOf F hi dX1_find_52 ?_
        refine g_iinc (lv2 := [(0, .ref (a 0)), (1, .long (lN r0)), (3, .int (nI (i + 1)))]) F (nI (i + 1)) dX1_find_53 rfl (nI_add i 1) (by decide) rfl ?_
        refine g_goto F 7 dX1_find_56 (by decide) ?_
        rw [fill_up (f := co) (g := (isC v x y wy de r0)) (v := true) (by unfold isC; have := (hM.y h).1; simp; omega), fill_up (f := cr) (g := fun _ => none) (v := none) rfl] at ih
        exact ih
