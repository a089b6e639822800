set_option maxHeartbeats 4000000 in
set_option maxRecDepth 100000 in
/-- isPlace -/
theorem cX_isPlace {l : Launch} {D : va_G} {t : Ty3} {a : Nat → Nat} {w : Nat → Nat} {x : Nat → Int32} {y : Nat → Int32} {wy : Nat} {re : Nat} {de : Nat} {co : Nat → Bool} {cr : Nat → Option Nat} {cc : Nat} {sr : Nat} {so : Bool} {cf : Nat → Option Nat} {ck : Bool} {ng : Nat → Nat} {nw : Nat → Nat} {cs : Nat → Nat} {se : Nat → Bool} (p0 p1 : Int32) : CtI (EE l D t) yX0_isPlace tsX0_isPlace (RM 0 0) [.int p0, .int p1] (WX a t w x y wy re de co cr cc sr so cf ck ng nw cs se) 0 0 (fun r u => u = WX a t w x y wy re de co cr cc sr so cf ck ng nw cs se ∧ r = b2 (isPl p0 p1)) := by
  refine CtZ.of (by decide +kernel) rfl (Nat.le_of_ble_eq_true rfl) (fun v u h => by obtain ⟨_, rfl⟩ := h; exact narrow_b2 _) (fun X F E => ?_)
  show GG (EE l D t) X 0 0 0 [(0, .int p0), (1, .int p1)] [] (WX a t w x y wy re de co cr cc sr so cf ck ng nw cs se)
  refine g_iload_n F dX0_isPlace_0 rfl rfl ?_
  refine g_ldc F (-1073741823) dX0_isPlace_1 (List.mem_cons_of_mem _ mw3_6) ?_
  refine g_icmp_lt F 28 dX0_isPlace_3 (by decide)  (fun h1 => ?_) (fun h1 => ?_)
  · refine g_iconst F (b2 false) dX0_isPlace_28 (by decide) ?_
    exact E _ _ _ _ dX0_isPlace_29 ⟨rfl, by rw [show isPl p0 p1 = false from by simp [isPl, h1]]⟩
  · refine g_iload_n F dX0_isPlace_6 rfl rfl ?_
    refine g_ldc F (1073741823) dX0_isPlace_7 (List.mem_cons_of_mem _ mw3_7) ?_
    refine g_icmp_gt F 28 dX0_isPlace_9 (by decide)  (fun h2 => ?_) (fun h2 => ?_)
    · refine g_iconst F (b2 false) dX0_isPlace_28 (by decide) ?_
      exact E _ _ _ _ dX0_isPlace_29 ⟨rfl, by rw [show isPl p0 p1 = false from by simp [isPl, h1, h2]]⟩
    · refine g_iload_n F dX0_isPlace_12 rfl rfl ?_
      refine g_ldc F (-1073741823) dX0_isPlace_13 (List.mem_cons_of_mem _ mw3_6) ?_
      refine g_icmp_lt F 28 dX0_isPlace_15 (by decide)  (fun h3 => ?_) (fun h3 => ?_)
      · refine g_iconst F (b2 false) dX0_isPlace_28 (by decide) ?_
        exact E _ _ _ _ dX0_isPlace_29 ⟨rfl, by rw [show isPl p0 p1 = false from by simp [isPl, h1, h2, h3]]⟩
      · refine g_iload_n F dX0_isPlace_18 rfl rfl ?_
        refine g_ldc F (1073741823) dX0_isPlace_19 (List.mem_cons_of_mem _ mw3_7) ?_
        refine g_icmp_gt F 28 dX0_isPlace_21 (by decide)  (fun h4 => ?_) (fun h4 => ?_)
        · refine g_iconst F (b2 false) dX0_isPlace_28 (by decide) ?_
          exact E _ _ _ _ dX0_isPlace_29 ⟨rfl, by rw [show isPl p0 p1 = false from by simp [isPl, h1, h2, h3, h4]]⟩
        · refine g_iconst F (b2 true) dX0_isPlace_24 (by decide) ?_
          refine g_goto F 29 dX0_isPlace_25 (by decide) ?_
          exact E _ _ _ _ dX0_isPlace_29 ⟨rfl, by rw [show isPl p0 p1 = true from by simp [isPl, h1, h2, h3, h4]]⟩
set_option maxHeartbeats 4000000 in
set_option maxRecDepth 100000 in
/-- isPoint -/
theorem cX_isPoint {l : Launch} {D : va_G} {t : Ty3} {a : Nat → Nat} {w : Nat → Nat} {x : Nat → Int32} {y : Nat → Int32} {wy : Nat} {re : Nat} {de : Nat} {co : Nat → Bool} {cr : Nat → Option Nat} {cc : Nat} {sr : Nat} {so : Bool} {cf : Nat → Option Nat} {ck : Bool} {ng : Nat → Nat} {nw : Nat → Nat} {cs : Nat → Nat} {se : Nat → Bool} (hw : ∀ j, w j ≤ 20) (p : Int32) : CtI (EE l D t) yX0_isPoint tsX0_isPoint (RM 0 0) [.ref (a 0), .int p] (WX a t w x y wy re de co cr cc sr so cf ck ng nw cs se) 0 0 (fun r u => u = WX a t w x y wy re de co cr cc sr so cf ck ng nw cs se ∧ r = b2 (isPt (fun j => decide (0 < w j)) p)) := by
  refine CtZ.of (by decide +kernel) rfl (Nat.le_of_ble_eq_true rfl) (fun v u h => by obtain ⟨_, rfl⟩ := h; exact narrow_b2 _) (fun X F E => ?_)
  show GG (EE l D t) X 0 0 0 [(0, .ref (a 0)), (1, .int p)] [] (WX a t w x y wy re de co cr cc sr so cf ck ng nw cs se)
  rcases pk_ix p (n := 120) (by decide) with hp | hp | ⟨j, hj, rfl⟩
  · refine g_iload_n F dX0_isPoint_0 rfl rfl ?_
    refine g_if_lt_t F 23 dX0_isPoint_1 (by decide) hp ?_
    refine g_iconst F (b2 false) dX0_isPoint_23 (by decide) ?_
    exact E _ _ _ _ dX0_isPoint_24 ⟨rfl, by unfold isPt; rw [idx_neg hp]⟩
  · refine g_iload_n F dX0_isPoint_0 rfl rfl ?_
    refine g_if_lt_f F 23 dX0_isPoint_1 (by decide) (big_neg hp) ?_
    refine g_iload_n F dX0_isPoint_4 rfl rfl ?_
    refine g_bipush F (nI 120) dX0_isPoint_5 (by decide) ?_
    refine g_icmp_ge_t F 23 dX0_isPoint_7 (by decide) hp ?_
    refine g_iconst F (b2 false) dX0_isPoint_23 (by decide) ?_
    exact E _ _ _ _ dX0_isPoint_24 ⟨rfl, by unfold isPt; rw [idx_big hp]⟩
  · refine g_iload_n F dX0_isPoint_0 rfl rfl ?_
    refine g_if_lt_f F 23 dX0_isPoint_1 (by decide) (nI_pos (by omega)) ?_
    refine g_iload_n F dX0_isPoint_4 rfl rfl ?_
    refine g_bipush F (nI 120) dX0_isPoint_5 (by decide) ?_
    refine g_icmp_ge_f F 23 dX0_isPoint_7 (by decide) (nI_ge hj (by decide)) ?_
    refine g_aload_n F dX0_isPoint_10 rfl rfl ?_
    refine gX_get_weights F dX0_isPoint_11 ?_
    refine g_iload_n F dX0_isPoint_14 rfl rfl ?_
    refine gX_ld_weights F hj dX0_isPoint_15 ?_
    refine g_if_le_n F 23 dX0_isPoint_16 (by decide) (by have := hw j; omega) (fun h => ?_) (fun h => ?_)
    · refine g_iconst F (b2 false) dX0_isPoint_23 (by decide) ?_
      exact E _ _ _ _ dX0_isPoint_24 ⟨rfl, by unfold isPt; rw [idx_nI hj]; simp [h]⟩
    · refine g_iconst F (b2 true) dX0_isPoint_19 (by decide) ?_
      refine g_goto F 24 dX0_isPoint_20 (by decide) ?_
      exact E _ _ _ _ dX0_isPoint_24 ⟨rfl, by unfold isPt; rw [idx_nI hj]; simp [h]⟩
set_option maxHeartbeats 4000000 in
set_option maxRecDepth 100000 in
/-- leastFree -/
theorem cX_leastFree {l : Launch} {D : va_G} {t : Ty3} {a : Nat → Nat} {w : Nat → Nat} {x : Nat → Int32} {y : Nat → Int32} {wy : Nat} {re : Nat} {de : Nat} {co : Nat → Bool} {cr : Nat → Option Nat} {cc : Nat} {sr : Nat} {so : Bool} {cf : Nat → Option Nat} {ck : Bool} {ng : Nat → Nat} {nw : Nat → Nat} {cs : Nat → Nat} {se : Nat → Bool} (hw : ∀ j, w j ≤ 20) : CtI (EE l D t) yX0_leastFree tsX0_leastFree (RM 0 0) [.ref (a 0)] (WX a t w x y wy re de co cr cc sr so cf ck ng nw cs se) 0 0 (fun r u => u = WX a t w x y wy re de co cr cc sr so cf ck ng nw cs se ∧ r = oI (fst1 (fun j => decide (w j = 0)))) := by
  refine CtI.of (by decide +kernel) rfl (Nat.le_of_ble_eq_true rfl) (fun X F E => ?_)
  show GG (EE l D t) X 0 0 0 [(0, .ref (a 0))] [] (WX a t w x y wy re de co cr cc sr so cf ck ng nw cs se)
  refine g_iconst F (nI 0) dX0_leastFree_0 (by decide) ?_
  refine g_istore_n (lv2 := [(0, .ref (a 0)), (1, .int (nI 0))]) F dX0_leastFree_1 rfl (by decide) rfl ?_
  refine up_loopI (I := fun i => ∀ j, j < i → decide (w j = 0) = false) (P := fun i => GG (EE l D t) X 0 0 2 [(0, .ref (a 0)), (1, .int (nI i))] [] (WX a t w x y wy re de co cr cc sr so cf ck ng nw cs se)) 120 (fun j hj => absurd hj (by omega)) (fun hI => ?_) (fun i hi hI ih => ?_)
  · show GG (EE l D t) X 0 0 2 [(0, .ref (a 0)), (1, .int (nI 120))] [] (WX a t w x y wy re de co cr cc sr so cf ck ng nw cs se)
    refine g_iload_n F dX0_leastFree_2 rfl rfl ?_
    refine g_bipush F (nI 120) dX0_leastFree_3 (by decide) ?_
    refine g_icmp_ge_t F 25 dX0_leastFree_5 (by decide) (nI_le (Nat.le_refl 120) (by decide)) ?_
    refine g_iconst F (oI none) dX0_leastFree_25 (by decide) ?_
    exact E _ _ _ _ dX0_leastFree_26 ⟨rfl, by rw [fst1_eq, firstN_none hI]⟩
  · show GG (EE l D t) X 0 0 2 [(0, .ref (a 0)), (1, .int (nI i))] [] (WX a t w x y wy re de co cr cc sr so cf ck ng nw cs se)
    refine g_iload_n F dX0_leastFree_2 rfl rfl ?_
    refine g_bipush F (nI 120) dX0_leastFree_3 (by decide) ?_
    refine g_icmp_ge_f F 25 dX0_leastFree_5 (by decide) (nI_ge hi (by decide)) ?_
    refine g_aload_n F dX0_leastFree_8 rfl rfl ?_
    refine gX_get_weights F dX0_leastFree_9 ?_
    refine g_iload_n F dX0_leastFree_12 rfl rfl ?_
    refine gX_ld_weights F hi dX0_leastFree_13 ?_
    refine g_if_ne_n F 19 dX0_leastFree_14 (by decide) (by have := hw i; omega) (fun h => ?_) (fun h => ?_)
    · refine g_iinc (lv2 := [(0, .ref (a 0)), (1, .int (nI (i + 1)))]) F (nI (i + 1)) dX0_leastFree_19 rfl (nI_add i 1) (by decide) rfl ?_
      refine g_goto F 2 dX0_leastFree_22 (by decide) ?_
      exact ih (lt_s hI (by simp; omega))
    · refine g_iload_n F dX0_leastFree_17 rfl rfl ?_
      exact E _ _ _ _ dX0_leastFree_18 ⟨rfl, by rw [fst1_eq, firstN_some (i := i) (by simp [h]) hI hi]; rfl⟩
set_option maxHeartbeats 4000000 in
set_option maxRecDepth 100000 in
/-- forget -/
theorem cX_forget {l : Launch} {D : va_G} {t : Ty3} {a : Nat → Nat} {w : Nat → Nat} {x : Nat → Int32} {y : Nat → Int32} {wy : Nat} {re : Nat} {de : Nat} {co : Nat → Bool} {cr : Nat → Option Nat} {cc : Nat} {sr : Nat} {so : Bool} {cf : Nat → Option Nat} {ck : Bool} {ng : Nat → Nat} {nw : Nat → Nat} {cs : Nat → Nat} {se : Nat → Bool}  : CtV (EE l D t) yX0_forget tsX0_forget (RM 0 0) [.ref (a 0)] (WX a t w x y wy re de co cr cc sr so cf ck ng nw cs se) 0 0 (fun u => u = WX a t w x y wy re de co cr cc sr false cf false ng nw cs se) := by
  refine CtV.of (by decide +kernel) rfl (Nat.le_of_ble_eq_true rfl) (fun X F E => ?_)
  show GG (EE l D t) X 0 0 0 [(0, .ref (a 0))] [] (WX a t w x y wy re de co cr cc sr so cf ck ng nw cs se)
  refine g_aload_n F dX0_forget_0 rfl rfl ?_
  refine g_iconst F (b2 false) dX0_forget_1 (by decide) ?_
  refine gX_put_sorted F dX0_forget_2 ?_
  refine g_aload_n F dX0_forget_5 rfl rfl ?_
  refine g_iconst F (b2 false) dX0_forget_6 (by decide) ?_
  refine gX_put_coreFromKnown F dX0_forget_7 ?_
  exact E _ _ _ dX0_forget_10 rfl
set_option maxHeartbeats 4000000 in
set_option maxRecDepth 100000 in
/-- put -/
theorem cX_put {l : Launch} {D : va_G} {t : Ty3} {a : Nat → Nat} {w : Nat → Nat} {x : Nat → Int32} {y : Nat → Int32} {wy : Nat} {re : Nat} {de : Nat} {co : Nat → Bool} {cr : Nat → Option Nat} {cc : Nat} {sr : Nat} {so : Bool} {cf : Nat → Option Nat} {ck : Bool} {ng : Nat → Nat} {nw : Nat → Nat} {cs : Nat → Nat} {se : Nat → Bool} {j : Nat} (hj : j < 120) (p1 p2 : Int32) : CtV (EE l D t) yX0_put tsX0_put (RM 1 20) [.ref (a 0), .int (nI j), .int p1, .int p2] (WX a t w x y wy re de co cr cc sr so cf ck ng nw cs se) 0 0 (fun u => u = WX a t w (up x j p1) (up y j p2) wy re de co cr cc sr false cf false ng nw cs se) := by
  refine CtV.of (by decide +kernel) rfl (Nat.le_of_ble_eq_true rfl) (fun X F E => ?_)
  show GG (EE l D t) X 0 0 0 [(0, .ref (a 0)), (1, .int (nI j)), (2, .int p1), (3, .int p2)] [] (WX a t w x y wy re de co cr cc sr so cf ck ng nw cs se)
  refine g_aload_n F dX0_put_0 rfl rfl ?_
  refine gX_get_xs F dX0_put_1 ?_
  refine g_iload_n F dX0_put_4 rfl rfl ?_
  refine g_iload_n F dX0_put_5 rfl rfl ?_
  refine gX_st_xs F hj dX0_put_6 ?_
  refine g_aload_n F dX0_put_7 rfl rfl ?_
  refine gX_get_ys F dX0_put_8 ?_
  refine g_iload_n F dX0_put_11 rfl rfl ?_
  refine g_iload_n F dX0_put_12 rfl rfl ?_
  refine gX_st_ys F hj dX0_put_13 ?_
  refine g_aload_n F dX0_put_14 rfl rfl ?_
  refine c_VV F [] (wr := []) cX_forget cwX0_X0_forget ⟨by decide, by decide, rfl, rfl⟩ rfl rfl rfl rfl (Nat.le_of_ble_eq_true rfl) ⟨by decide, by decide⟩ dX0_put_15 (fun u hu => ?_)
  obtain rfl := hu
  show GG (EE l D t) X 0 0 18 [(0, .ref (a 0)), (1, .int (nI j)), (2, .int p1), (3, .int p2)] [] (WX a t w (up x j p1) (up y j p2) wy re de co cr cc sr false cf false ng nw cs se)
  exact E _ _ _ dX0_put_18 rfl
set_option maxHeartbeats 4000000 in
set_option maxRecDepth 100000 in
/-- countPoints -/
theorem cX_countPoints {l : Launch} {D : va_G} {t : Ty3} {a : Nat → Nat} {w : Nat → Nat} {x : Nat → Int32} {y : Nat → Int32} {wy : Nat} {re : Nat} {de : Nat} {co : Nat → Bool} {cr : Nat → Option Nat} {cc : Nat} {sr : Nat} {so : Bool} {cf : Nat → Option Nat} {ck : Bool} {ng : Nat → Nat} {nw : Nat → Nat} {cs : Nat → Nat} {se : Nat → Bool} (hw : ∀ j, w j ≤ 20) : CtI (EE l D t) yX0_countPoints tsX0_countPoints (RM 0 0) [.ref (a 0)] (WX a t w x y wy re de co cr cc sr so cf ck ng nw cs se) 0 0 (fun r u => u = WX a t w x y wy re de co cr cc sr so cf ck ng nw cs se ∧ r = nI (sum1 (fun j => if 0 < w j then 1 else 0))) := by
  refine CtI.of (by decide +kernel) rfl (Nat.le_of_ble_eq_true rfl) (fun X F E => ?_)
  show GG (EE l D t) X 0 0 0 [(0, .ref (a 0))] [] (WX a t w x y wy re de co cr cc sr so cf ck ng nw cs se)
  refine g_iconst F (nI 0) dX0_countPoints_0 (by decide) ?_
  refine g_istore_n (lv2 := [(0, .ref (a 0)), (1, .int (nI 0))]) F dX0_countPoints_1 rfl (by decide) rfl ?_
  refine g_iconst F (nI 0) dX0_countPoints_2 (by decide) ?_
  refine g_istore_n (lv2 := [(0, .ref (a 0)), (1, .int (nI 0)), (2, .int (nI 0))]) F dX0_countPoints_3 rfl (by decide) rfl ?_
  refine up_loop (P := fun i => GG (EE l D t) X 0 0 4 [(0, .ref (a 0)), (1, .int (nI (sumN (fun j => if 0 < w j then 1 else 0) i))), (2, .int (nI i))] [] (WX a t w x y wy re de co cr cc sr so cf ck ng nw cs se)) 120 ?_ (fun i hi ih => ?_)
  · show GG (EE l D t) X 0 0 4 [(0, .ref (a 0)), (1, .int (nI (sumN (fun j => if 0 < w j then 1 else 0) 120))), (2, .int (nI 120))] [] (WX a t w x y wy re de co cr cc sr so cf ck ng nw cs se)
    refine g_iload_n F dX0_countPoints_4 rfl rfl ?_
    refine g_bipush F (nI 120) dX0_countPoints_5 (by decide) ?_
    refine g_icmp_ge_t F 28 dX0_countPoints_7 (by decide) (nI_le (Nat.le_refl 120) (by decide)) ?_
    refine g_iload_n F dX0_countPoints_28 rfl rfl ?_
    exact E _ _ _ _ dX0_countPoints_29 ⟨rfl, by rw [sum1_eq]⟩
  · show GG (EE l D t) X 0 0 4 [(0, .ref (a 0)), (1, .int (nI (sumN (fun j => if 0 < w j then 1 else 0) i))), (2, .int (nI i))] [] (WX a t w x y wy re de co cr cc sr so cf ck ng nw cs se)
    refine g_iload_n F dX0_countPoints_4 rfl rfl ?_
    refine g_bipush F (nI 120) dX0_countPoints_5 (by decide) ?_
    refine g_icmp_ge_f F 28 dX0_countPoints_7 (by decide) (nI_ge hi (by decide)) ?_
    refine g_aload_n F dX0_countPoints_10 rfl rfl ?_
    refine gX_get_weights F dX0_countPoints_11 ?_
    refine g_iload_n F dX0_countPoints_14 rfl rfl ?_
    refine gX_ld_weights F hi dX0_countPoints_15 ?_
    refine g_if_le_n F 22 dX0_countPoints_16 (by decide) (by have := hw i; omega) (fun h => ?_) (fun h => ?_)
    · refine g_iinc (lv2 := [(0, .ref (a 0)), (1, .int (nI (sumN (fun j => if 0 < w j then 1 else 0) i))), (2, .int (nI (i + 1)))]) F (nI (i + 1)) dX0_countPoints_22 rfl (nI_add i 1) (by decide) rfl ?_
      refine g_goto F 4 dX0_countPoints_25 (by decide) ?_
      rw [sumN_z (f := (fun j => if 0 < w j then 1 else 0)) (n := i) (c := 0 < w i) (v := 1) rfl (by omega)] at ih
      exact ih
    · refine g_iinc (lv2 := [(0, .ref (a 0)), (1, .int (nI ((sumN (fun j => if 0 < w j then 1 else 0) i) + 1))), (2, .int (nI i))]) F (nI ((sumN (fun j => if 0 < w j then 1 else 0) i) + 1)) dX0_countPoints_19 rfl (nI_add (sumN (fun j => if 0 < w j then 1 else 0) i) 1) (by decide) rfl ?_
      refine g_iinc (lv2 := [(0, .ref (a 0)), (1, .int (nI ((sumN (fun j => if 0 < w j then 1 else 0) i) + 1))), (2, .int (nI (i + 1)))]) F (nI (i + 1)) dX0_countPoints_22 rfl (nI_add i 1) (by decide) rfl ?_
      refine g_goto F 4 dX0_countPoints_25 (by decide) ?_
      rw [sumN_c (f := (fun j => if 0 < w j then 1 else 0)) (n := i) (c := 0 < w i) (v := 1) rfl h] at ih
      exact ih
set_option maxHeartbeats 4000000 in
set_option maxRecDepth 100000 in
/-- countWeights -/
theorem cX_countWeights {l : Launch} {D : va_G} {t : Ty3} {a : Nat → Nat} {w : Nat → Nat} {x : Nat → Int32} {y : Nat → Int32} {wy : Nat} {re : Nat} {de : Nat} {co : Nat → Bool} {cr : Nat → Option Nat} {cc : Nat} {sr : Nat} {so : Bool} {cf : Nat → Option Nat} {ck : Bool} {ng : Nat → Nat} {nw : Nat → Nat} {cs : Nat → Nat} {se : Nat → Bool}  : CtI (EE l D t) yX0_countWeights tsX0_countWeights (RM 0 0) [.ref (a 0)] (WX a t w x y wy re de co cr cc sr so cf ck ng nw cs se) 0 0 (fun r u => u = WX a t w x y wy re de co cr cc sr so cf ck ng nw cs se ∧ r = nI (sum1 w)) := by
  refine CtI.of (by decide +kernel) rfl (Nat.le_of_ble_eq_true rfl) (fun X F E => ?_)
  show GG (EE l D t) X 0 0 0 [(0, .ref (a 0))] [] (WX a t w x y wy re de co cr cc sr so cf ck ng nw cs se)
  refine g_iconst F (nI 0) dX0_countWeights_0 (by decide) ?_
  refine g_istore_n (lv2 := [(0, .ref (a 0)), (1, .int (nI 0))]) F dX0_countWeights_1 rfl (by decide) rfl ?_
  refine g_iconst F (nI 0) dX0_countWeights_2 (by decide) ?_
  refine g_istore_n (lv2 := [(0, .ref (a 0)), (1, .int (nI 0)), (2, .int (nI 0))]) F dX0_countWeights_3 rfl (by decide) rfl ?_
  refine up_loop (P := fun i => GG (EE l D t) X 0 0 4 [(0, .ref (a 0)), (1, .int (nI (sumN w i))), (2, .int (nI i))] [] (WX a t w x y wy re de co cr cc sr so cf ck ng nw cs se)) 120 ?_ (fun i hi ih => ?_)
  · show GG (EE l D t) X 0 0 4 [(0, .ref (a 0)), (1, .int (nI (sumN w 120))), (2, .int (nI 120))] [] (WX a t w x y wy re de co cr cc sr so cf ck ng nw cs se)
    refine g_iload_n F dX0_countWeights_4 rfl rfl ?_
    refine g_bipush F (nI 120) dX0_countWeights_5 (by decide) ?_
    refine g_icmp_ge_t F 25 dX0_countWeights_7 (by decide) (nI_le (Nat.le_refl 120) (by decide)) ?_
    refine g_iload_n F dX0_countWeights_25 rfl rfl ?_
    exact E _ _ _ _ dX0_countWeights_26 ⟨rfl, by rw [sum1_eq]⟩
  · show GG (EE l D t) X 0 0 4 [(0, .ref (a 0)), (1, .int (nI (sumN w i))), (2, .int (nI i))] [] (WX a t w x y wy re de co cr cc sr so cf ck ng nw cs se)
    refine g_iload_n F dX0_countWeights_4 rfl rfl ?_
    refine g_bipush F (nI 120) dX0_countWeights_5 (by decide) ?_
    refine g_icmp_ge_f F 25 dX0_countWeights_7 (by decide) (nI_ge hi (by decide)) ?_
    refine g_iload_n F dX0_countWeights_10 rfl rfl ?_
    refine g_aload_n F dX0_countWeights_11 rfl rfl ?_
    refine gX_get_weights F dX0_countWeights_12 ?_
    refine g_iload_n F dX0_countWeights_15 rfl rfl ?_
    refine gX_ld_weights F hi dX0_countWeights_16 ?_
    refine g_iadd_n F dX0_countWeights_17 ?_
    refine g_istore_n (lv2 := [(0, .ref (a 0)), (1, .int (nI ((sumN w i) + (w i)))), (2, .int (nI i))]) F dX0_countWeights_18 rfl (by decide) rfl ?_
    refine g_iinc (lv2 := [(0, .ref (a 0)), (1, .int (nI ((sumN w i) + (w i)))), (2, .int (nI (i + 1)))]) F (nI (i + 1)) dX0_countWeights_19 rfl (nI_add i 1) (by decide) rfl ?_
    refine g_goto F 4 dX0_countWeights_22 (by decide) ?_
    exact ih
set_option maxHeartbeats 4000000 in
set_option maxRecDepth 100000 in
/-- gapTo -/
theorem cX_gapTo {l : Launch} {D : va_G} {t : Ty3} {a : Nat → Nat} {w : Nat → Nat} {x : Nat → Int32} {y : Nat → Int32} {wy : Nat} {re : Nat} {de : Nat} {co : Nat → Bool} {cr : Nat → Option Nat} {cc : Nat} {sr : Nat} {so : Bool} {cf : Nat → Option Nat} {ck : Bool} {ng : Nat → Nat} {nw : Nat → Nat} {cs : Nat → Nat} {se : Nat → Bool} (hwy : wy ≤ 2) {j : Nat} (hj : j < 120) (p1 p2 : Int32) : CtL (EE l D t) yX0_gapTo tsX0_gapTo (RM 1 23) [.ref (a 0), .int (nI j), .int p1, .int p2] (WX a t w x y wy re de co cr cc sr so cf ck ng nw cs se) 0 0 (fun r u => u = WX a t w x y wy re de co cr cc sr so cf ck ng nw cs se ∧ r = lN (gapN wy (x j) (y j) p1 p2)) := by
  refine CtL.of (by decide +kernel) rfl (Nat.le_of_ble_eq_true rfl) (fun X F E => ?_)
  show GG (EE l D t) X 0 0 0 [(0, .ref (a 0)), (1, .int (nI j)), (2, .int p1), (3, .int p2)] [] (WX a t w x y wy re de co cr cc sr so cf ck ng nw cs se)
  refine g_aload_n F dX0_gapTo_0 rfl rfl ?_
  refine gX_get_xs F dX0_gapTo_1 ?_
  refine g_iload_n F dX0_gapTo_4 rfl rfl ?_
  refine gX_ld_xs F hj dX0_gapTo_5 ?_
  refine g_i2l F dX0_gapTo_6 ?_
  refine g_iload_n F dX0_gapTo_7 rfl rfl ?_
  refine g_i2l F dX0_gapTo_8 ?_
  refine g_lsub F dX0_gapTo_9 ?_
  refine g_absl F dX0_gapTo_10 mM_absl ⟨by decide, Nat.le_of_ble_eq_true rfl, by decide, by decide⟩ ?_
  refine g_topl (abs_dist _ _) ?_
  refine g_lstore (lv2 := [(0, .ref (a 0)), (1, .int (nI j)), (2, .int p1), (3, .int p2), (4, .long (lN (dist1 (x j) p1)))]) F dX0_gapTo_13 (by decide) rfl ?_
  refine g_aload_n F dX0_gapTo_15 rfl rfl ?_
  refine gX_get_ys F dX0_gapTo_16 ?_
  refine g_iload_n F dX0_gapTo_19 rfl rfl ?_
  refine gX_ld_ys F hj dX0_gapTo_20 ?_
  refine g_i2l F dX0_gapTo_21 ?_
  refine g_iload_n F dX0_gapTo_22 rfl rfl ?_
  refine g_i2l F dX0_gapTo_23 ?_
  refine g_lsub F dX0_gapTo_24 ?_
  refine g_absl F dX0_gapTo_25 mM_absl ⟨by decide, Nat.le_of_ble_eq_true rfl, by decide, by decide⟩ ?_
  refine g_topl (abs_dist _ _) ?_
  refine g_lstore (lv2 := [(0, .ref (a 0)), (1, .int (nI j)), (2, .int p1), (3, .int p2), (4, .long (lN (dist1 (x j) p1))), (6, .long (lN (dist1 (y j) p2)))]) F dX0_gapTo_28 (by decide) rfl ?_
  refine g_aload_n F dX0_gapTo_30 rfl rfl ?_
  refine gX_get_wayNow F dX0_gapTo_31 ?_
  refine g_if_ne_n F 49 dX0_gapTo_34 (by decide) (by omega) (fun h => ?_) (fun h => ?_)
  · refine g_aload_n F dX0_gapTo_49 rfl rfl ?_
    refine gX_get_wayNow F dX0_gapTo_50 ?_
    refine g_iconst F (nI 1) dX0_gapTo_53 (by decide) ?_
    refine g_icmp_ne_n F 67 dX0_gapTo_54 (by decide) (by omega) (by decide) (fun h2 => ?_) (fun h2 => ?_)
    · refine g_lload F dX0_gapTo_67 rfl ?_
      refine g_lload F dX0_gapTo_69 rfl ?_
      refine g_ladd_n F dX0_gapTo_71 ?_
      exact E _ _ _ _ dX0_gapTo_72 ⟨rfl, by unfold gapN; rw [if_neg (by omega), if_neg h2]⟩
    · refine g_lload F dX0_gapTo_57 rfl ?_
      refine g_lload F dX0_gapTo_59 rfl ?_
      refine g_maxl F dX0_gapTo_61 mM_maxl ⟨by decide, Nat.le_of_ble_eq_true rfl, by decide, by decide⟩ ?_
      refine g_topl (max_lN (Nat.lt_trans (dist1_lt _ _) (by decide)) (Nat.lt_trans (dist1_lt _ _) (by decide))) ?_
      refine g_goto F 72 dX0_gapTo_64 (by decide) ?_
      exact E _ _ _ _ dX0_gapTo_72 ⟨rfl, by unfold gapN; rw [if_neg (by omega), if_pos h2]⟩
  · refine g_lload F dX0_gapTo_37 rfl ?_
    refine g_lload F dX0_gapTo_39 rfl ?_
    refine g_lmul_n F dX0_gapTo_41 ?_
    refine g_lload F dX0_gapTo_42 rfl ?_
    refine g_lload F dX0_gapTo_44 rfl ?_
    refine g_lmul_n F dX0_gapTo_46 ?_
    refine g_ladd_n F dX0_gapTo_47 ?_
    exact E _ _ _ _ dX0_gapTo_48 ⟨rfl, by unfold gapN; rw [if_pos h]⟩
set_option maxHeartbeats 4000000 in
set_option maxRecDepth 100000 in
/-- gapBetween -/
theorem cX_gapBetween {l : Launch} {D : va_G} {t : Ty3} {a : Nat → Nat} {w : Nat → Nat} {x : Nat → Int32} {y : Nat → Int32} {wy : Nat} {re : Nat} {de : Nat} {co : Nat → Bool} {cr : Nat → Option Nat} {cc : Nat} {sr : Nat} {so : Bool} {cf : Nat → Option Nat} {ck : Bool} {ng : Nat → Nat} {nw : Nat → Nat} {cs : Nat → Nat} {se : Nat → Bool} (hwy : wy ≤ 2) {i j : Nat} (hi : i < 120) (hj : j < 120) : CtL (EE l D t) yX0_gapBetween tsX0_gapBetween (RM 2 50) [.ref (a 0), .int (nI i), .int (nI j)] (WX a t w x y wy re de co cr cc sr so cf ck ng nw cs se) 0 0 (fun r u => u = WX a t w x y wy re de co cr cc sr so cf ck ng nw cs se ∧ r = lN (gp wy x y i j)) := by
  refine CtL.of (by decide +kernel) rfl (Nat.le_of_ble_eq_true rfl) (fun X F E => ?_)
  show GG (EE l D t) X 0 0 0 [(0, .ref (a 0)), (1, .int (nI i)), (2, .int (nI j))] [] (WX a t w x y wy re de co cr cc sr so cf ck ng nw cs se)
  refine g_aload_n F dX0_gapBetween_0 rfl rfl ?_
  refine g_iload_n F dX0_gapBetween_1 rfl rfl ?_
  refine g_aload_n F dX0_gapBetween_2 rfl rfl ?_
  refine gX_get_xs F dX0_gapBetween_3 ?_
  refine g_iload_n F dX0_gapBetween_6 rfl rfl ?_
  refine gX_ld_xs F hi dX0_gapBetween_7 ?_
  refine g_aload_n F dX0_gapBetween_8 rfl rfl ?_
  refine gX_get_ys F dX0_gapBetween_9 ?_
  refine g_iload_n F dX0_gapBetween_12 rfl rfl ?_
  refine gX_ld_ys F hi dX0_gapBetween_13 ?_
  refine c_VL F [] (wr := []) (cX_gapTo hwy hj (x i) (y i)) cwX0_X0_gapTo ⟨by decide, by decide, rfl, rfl⟩ rfl rfl rfl rfl (Nat.le_of_ble_eq_true rfl) ⟨by decide, by decide⟩ dX0_gapBetween_14 (fun r u hu => ?_)
  obtain ⟨rfl, rfl⟩ := hu
  show GG (EE l D t) X 0 0 17 [(0, .ref (a 0)), (1, .int (nI i)), (2, .int (nI j))] [.long (lN (gp wy x y i j))] (WX a t w x y wy re de co cr cc sr so cf ck ng nw cs se)
  exact E _ _ _ _ dX0_gapBetween_17 ⟨rfl, rfl⟩
set_option maxHeartbeats 4000000 in
set_option maxRecDepth 100000 in
/-- weightWithin -/
theorem cX_weightWithin {l : Launch} {D : va_G} {t : Ty3} {a : Nat → Nat} {w : Nat → Nat} {x : Nat → Int32} {y : Nat → Int32} {wy : Nat} {re : Nat} {de : Nat} {co : Nat → Bool} {cr : Nat → Option Nat} {cc : Nat} {sr : Nat} {so : Bool} {cf : Nat → Option Nat} {ck : Bool} {ng : Nat → Nat} {nw : Nat → Nat} {cs : Nat → Nat} {se : Nat → Bool} (hf : WFp w x y wy re de) {p r0 : Nat} (hp : p < 120) (hr : r0 < 2 ^ 63) : CtI (EE l D t) yX0_weightWithin tsX0_weightWithin (RM 3 72) [.ref (a 0), .int (nI p), .long (lN r0)] (WX a t w x y wy re de co cr cc sr so cf ck ng nw cs se) 0 0 (fun r u => u = WX a t w x y wy re de co cr cc sr so cf ck ng nw cs se ∧ r = nI (ww w (gp wy x y p) r0)) := by
  refine CtI.of (by decide +kernel) rfl (Nat.le_of_ble_eq_true rfl) (fun X F E => ?_)
  show GG (EE l D t) X 0 0 0 [(0, .ref (a 0)), (1, .int (nI p)), (2, .long (lN r0))] [] (WX a t w x y wy re de co cr cc sr so cf ck ng nw cs se)
  refine g_iconst F (nI 0) dX0_weightWithin_0 (by decide) ?_
  refine g_istore (lv2 := [(0, .ref (a 0)), (1, .int (nI p)), (2, .long (lN r0)), (4, .int (nI 0))]) F dX0_weightWithin_1 (by decide) rfl ?_
  refine g_iconst F (nI 0) dX0_weightWithin_3 (by decide) ?_
  refine g_istore (lv2 := [(0, .ref (a 0)), (1, .int (nI p)), (2, .long (lN r0)), (4, .int (nI 0)), (5, .int (nI 0))]) F dX0_weightWithin_4 (by decide) rfl ?_
  refine up_loop (P := fun i => GG (EE l D t) X 0 0 6 [(0, .ref (a 0)), (1, .int (nI p)), (2, .long (lN r0)), (4, .int (nI (sumN (wwf w (gp wy x y p) r0) i))), (5, .int (nI i))] [] (WX a t w x y wy re de co cr cc sr so cf ck ng nw cs se)) 120 ?_ (fun i hi ih => ?_)
  · show GG (EE l D t) X 0 0 6 [(0, .ref (a 0)), (1, .int (nI p)), (2, .long (lN r0)), (4, .int (nI (sumN (wwf w (gp wy x y p) r0) 120))), (5, .int (nI 120))] [] (WX a t w x y wy re de co cr cc sr so cf ck ng nw cs se)
    refine g_iload F dX0_weightWithin_6 rfl ?_
    refine g_bipush F (nI 120) dX0_weightWithin_8 (by decide) ?_
    refine g_icmp_ge_t F 53 dX0_weightWithin_10 (by decide) (nI_le (Nat.le_refl 120) (by decide)) ?_
    refine g_iload F dX0_weightWithin_53 rfl ?_
    exact E _ _ _ _ dX0_weightWithin_55 ⟨rfl, by unfold ww; rw [sum1_eq]⟩
  · show GG (EE l D t) X 0 0 6 [(0, .ref (a 0)), (1, .int (nI p)), (2, .long (lN r0)), (4, .int (nI (sumN (wwf w (gp wy x y p) r0) i))), (5, .int (nI i))] [] (WX a t w x y wy re de co cr cc sr so cf ck ng nw cs se)
    refine g_iload F dX0_weightWithin_6 rfl ?_
    refine g_bipush F (nI 120) dX0_weightWithin_8 (by decide) ?_
    refine g_icmp_ge_f F 53 dX0_weightWithin_10 (by decide) (nI_ge hi (by decide)) ?_
    refine g_aload_n F dX0_weightWithin_13 rfl rfl ?_
    refine gX_get_weights F dX0_weightWithin_14 ?_
    refine g_iload F dX0_weightWithin_17 rfl ?_
    refine gX_ld_weights F hi dX0_weightWithin_19 ?_
    refine g_if_le_n F 47 dX0_weightWithin_20 (by decide) (by have := hf.1 i; omega) (fun h => ?_) (fun h => ?_)
    · refine g_iinc (lv2 := [(0, .ref (a 0)), (1, .int (nI p)), (2, .long (lN r0)), (4, .int (nI (sumN (wwf w (gp wy x y p) r0) i))), (5, .int (nI (i + 1)))]) F (nI (i + 1)) dX0_weightWithin_47 rfl (nI_add i 1) (by decide) rfl ?_
      refine g_goto F 6 dX0_weightWithin_50 (by decide) ?_
      rw [sumN_z (f := (wwf w (gp wy x y p) r0)) (n := i) (c := 0 < w i ∧ gp wy x y p i ≤ r0) (v := w i) rfl (by omega)] at ih
      exact ih
    · refine g_aload_n F dX0_weightWithin_23 rfl rfl ?_
      refine g_iload_n F dX0_weightWithin_24 rfl rfl ?_
      refine g_iload F dX0_weightWithin_25 rfl ?_
      refine c_VL F [] (wr := []) (cX_gapBetween hf.2.2.2.1 hp hi) cwX0_X0_gapBetween ⟨by decide, by decide, rfl, rfl⟩ rfl rfl rfl rfl (Nat.le_of_ble_eq_true rfl) ⟨by decide, by decide⟩ dX0_weightWithin_27 (fun r u hu => ?_)
      obtain ⟨rfl, rfl⟩ := hu
      show GG (EE l D t) X 0 0 30 [(0, .ref (a 0)), (1, .int (nI p)), (2, .long (lN r0)), (4, .int (nI (sumN (wwf w (gp wy x y p) r0) i))), (5, .int (nI i))] [.long (lN (gp wy x y p i))] (WX a t w x y wy re de co cr cc sr so cf ck ng nw cs se)
      refine g_lload_n F dX0_weightWithin_30 rfl rfl ?_
      refine g_lc_gt_n F 47 dX0_weightWithin_31 dX0_weightWithin_32 (by decide) (Nat.lt_of_lt_of_le (gp_lt hf p i) (by decide)) hr (fun h2 => ?_) (fun h2 => ?_)
      · refine g_iinc (lv2 := [(0, .ref (a 0)), (1, .int (nI p)), (2, .long (lN r0)), (4, .int (nI (sumN (wwf w (gp wy x y p) r0) i))), (5, .int (nI (i + 1)))]) F (nI (i + 1)) dX0_weightWithin_47 rfl (nI_add i 1) (by decide) rfl ?_
        refine g_goto F 6 dX0_weightWithin_50 (by decide) ?_
        rw [sumN_z (f := (wwf w (gp wy x y p) r0)) (n := i) (c := 0 < w i ∧ gp wy x y p i ≤ r0) (v := w i) rfl (by omega)] at ih
        exact ih
      · refine g_iload F dX0_weightWithin_35 rfl ?_
        refine g_aload_n F dX0_weightWithin_37 rfl rfl ?_
        refine gX_get_weights F dX0_weightWithin_38 ?_
        refine g_iload F dX0_weightWithin_41 rfl ?_
        refine gX_ld_weights F hi dX0_weightWithin_43 ?_
        refine g_iadd_n F dX0_weightWithin_44 ?_
        refine g_istore (lv2 := [(0, .ref (a 0)), (1, .int (nI p)), (2, .long (lN r0)), (4, .int (nI ((sumN (wwf w (gp wy x y p) r0) i) + (w i)))), (5, .int (nI i))]) F dX0_weightWithin_45 (by decide) rfl ?_
        refine g_iinc (lv2 := [(0, .ref (a 0)), (1, .int (nI p)), (2, .long (lN r0)), (4, .int (nI ((sumN (wwf w (gp wy x y p) r0) i) + (w i)))), (5, .int (nI (i + 1)))]) F (nI (i + 1)) dX0_weightWithin_47 rfl (nI_add i 1) (by decide) rfl ?_
        refine g_goto F 6 dX0_weightWithin_50 (by decide) ?_
        rw [sumN_c (f := (wwf w (gp wy x y p) r0)) (n := i) (c := 0 < w i ∧ gp wy x y p i ≤ r0) (v := w i) rfl ⟨h, h2⟩] at ih
        exact ih
