theorem MI_pt {v : Nat → Nat} {x y : Nat → Int32} {wy re de : Nat} {is : Nat → Bool} {w : Nat → Nat} {j m : Nat} {px py : Int32} (hM : MI v x y wy re de is w) (h1 : 1 ≤ m) (h2 : m ≤ 20) (hp : isPl px py = true) : MI (up v j m) (up x j px) (up y j py) wy re de (up is j true) (up w j m) := ⟨WFp_pt hM.1 h2 hp, fun i => by
  by_cases e : i = j
  · subst e
    rw [up_s, up_s, up_s]
    exact ⟨(decide_eq_true (by omega)).symm, fun _ => rfl⟩
  · rw [up_n e, up_n e, up_n e]
    exact hM.2 i⟩
theorem MI_rm {v : Nat → Nat} {x y : Nat → Int32} {wy re de : Nat} {is : Nat → Bool} {w : Nat → Nat} {j : Nat} (hM : MI v x y wy re de is w) : MI (up v j 0) x y wy re de (up is j false) w := ⟨WFp_rm hM.1, fun i => by
  by_cases e : i = j
  · subst e
    rw [up_s, up_s]
    exact ⟨rfl, fun z => absurd z (by omega)⟩
  · rw [up_n e, up_n e]
    exact hM.2 i⟩
set_option maxHeartbeats 4000000 in
set_option maxRecDepth 100000 in
/-- point -/
theorem cM_point {l : Launch} {D : va_G} {t : Ty3} {a : Nat → Nat} {is : Nat → Bool} {x : Nat → Int32} {y : Nat → Int32} {w : Nat → Nat} {wy : Nat} {re : Nat} {de : Nat} {co : Nat → Bool} {cr : Nat → Option Nat} {cc : Nat} {dn : Nat → Bool} {cs : Nat → Option Nat} {df : Nat → Option Nat} {v : Nat → Nat} (hM : MI v x y wy re de is w) (p0 p1 p2 : Int32) : CtI (EE l D t) yX1_point tsX1_point (RM 1 21) [.ref (a 0), .int p0, .int p1, .int p2] (WM a t is x y w wy re de co cr cc dn cs df) 0 0 (fun r u => r = (pointF v x y wy re de p0 p1 p2).1 ∧ MW a t (pointF v x y wy re de p0 p1 p2).2 u) := by
  refine CtI.of (by decide +kernel) rfl (Nat.le_of_ble_eq_true rfl) (fun X F E => ?_)
  show GG (EE l D t) X 0 0 0 [(0, .ref (a 0)), (1, .int p0), (2, .int p1), (3, .int p2)] [] (WM a t is x y w wy re de co cr cc dn cs df)
  refine g_iconst F (nI 0) dX1_point_0 (by decide) ?_
  refine g_istore (lv2 := [(0, .ref (a 0)), (1, .int p0), (2, .int p1), (3, .int p2), (4, .int (nI 0))]) F dX1_point_1 (by decide) rfl ?_
  refine up_loopI (I := fun i => ∀ j, j < i → decide (v j = 0) = false) (P := fun i => GG (EE l D t) X 0 0 3 [(0, .ref (a 0)), (1, .int p0), (2, .int p1), (3, .int p2), (4, .int (nI i))] [] (WM a t is x y w wy re de co cr cc dn cs df)) 120 (fun j hj => absurd hj (by omega)) (fun hI => ?_) (fun i hi hI ih => ?_)
  · show GG (EE l D t) X 0 0 3 [(0, .ref (a 0)), (1, .int p0), (2, .int p1), (3, .int p2), (4, .int (nI 120))] [] (WM a t is x y w wy re de co cr cc dn cs df)
    have hq : fst1 (fun j => decide (v j = 0)) = none := by rw [fst1_eq]; exact firstN_none hI
    refine g_iload F dX1_point_3 rfl ?_
    refine g_bipush F (nI 120) dX1_point_5 (by decide) ?_
    refine g_icmp_ge_t F 26 dX1_point_7 (by decide) (nI_le (Nat.le_refl 120) (by decide)) ?_
    refine g_iload F dX1_point_26 rfl ?_
    refine g_bipush F (nI 120) dX1_point_28 (by decide) ?_
    refine g_icmp_eq_t F 52 dX1_point_30 (by decide) rfl ?_
    refine g_iconst F (oI none) dX1_point_52 (by decide) ?_
    exact E _ _ _ _ dX1_point_53 (by rw [show pointF v x y wy re de p0 p1 p2 = (oI none, (v, x, y, wy, re, de)) from by unfold pointF; rw [hq]; split <;> rfl]; exact ⟨rfl, ⟨_, _, _, _, _, _, _, _, rfl, hM⟩⟩)
  · show GG (EE l D t) X 0 0 3 [(0, .ref (a 0)), (1, .int p0), (2, .int p1), (3, .int p2), (4, .int (nI i))] [] (WM a t is x y w wy re de co cr cc dn cs df)
    refine g_iload F dX1_point_3 rfl ?_
    refine g_bipush F (nI 120) dX1_point_5 (by decide) ?_
    refine g_icmp_ge_f F 26 dX1_point_7 (by decide) (nI_ge hi (by decide)) ?_
    refine g_aload_n F dX1_point_10 rfl rfl ?_
    refine gM_get_is F dX1_point_11 ?_
    refine g_iload F dX1_point_14 rfl ?_
    refine gM_ld_is F hi dX1_point_16 ?_
    refine g_if_eq_b F 26 dX1_point_17 (by decide)  (fun h0 => ?_) (fun h0 => ?_)
    · have hv : v i = 0 := hM.n h0
      have hq : fst1 (fun j => decide (v j = 0)) = some i := by rw [fst1_eq]; exact firstN_some (by simp [hv]) hI hi
      refine g_iload F dX1_point_26 rfl ?_
      refine g_bipush F (nI 120) dX1_point_28 (by decide) ?_
      refine g_icmp_eq_f F 52 dX1_point_30 (by decide) (fun z => absurd ((nI_eq (by omega) (by decide)).mp z) (by omega)) ?_
      refine g_iload_n F dX1_point_33 rfl rfl ?_
      refine g_iload_n F dX1_point_34 rfl rfl ?_
      refine c_SI F [] (wr := []) (cM_isPlace p0 p1) cwX1_X1_isPlace ⟨by decide, by decide, rfl, rfl⟩ rfl rfl (Nat.le_of_ble_eq_true rfl) ⟨by decide, by decide⟩ dX1_point_35 (fun r u hu => ?_)
      obtain ⟨rfl, rfl⟩ := hu
      show GG (EE l D t) X 0 0 38 [(0, .ref (a 0)), (1, .int p0), (2, .int p1), (3, .int p2), (4, .int (nI i))] [.int (b2 (isPl p0 p1))] (WM a t is x y w wy re de co cr cc dn cs df)
      refine g_if_eq_b F 52 dX1_point_38 (by decide)  (fun h => ?_) (fun h => ?_)
      · refine g_iconst F (oI none) dX1_point_52 (by decide) ?_
        exact E _ _ _ _ dX1_point_53 (by rw [show pointF v x y wy re de p0 p1 p2 = (oI none, (v, x, y, wy, re, de)) from by unfold pointF; rw [if_neg (fun z => by rw [h] at z; cases z.1)]]; exact ⟨rfl, ⟨_, _, _, _, _, _, _, _, rfl, hM⟩⟩)
      · refine g_iload_n F dX1_point_41 rfl rfl ?_
        refine g_iconst F 1 dX1_point_42 (by decide) ?_
        refine g_icmp_lt F 52 dX1_point_43 (by decide)  (fun h2 => ?_) (fun h2 => ?_)
        · refine g_iconst F (oI none) dX1_point_52 (by decide) ?_
          exact E _ _ _ _ dX1_point_53 (by rw [show pointF v x y wy re de p0 p1 p2 = (oI none, (v, x, y, wy, re, de)) from by unfold pointF; rw [if_neg (fun z => z.2.1 h2)]]; exact ⟨rfl, ⟨_, _, _, _, _, _, _, _, rfl, hM⟩⟩)
        · refine g_iload_n F dX1_point_46 rfl rfl ?_
          refine g_bipush F 20 dX1_point_47 (by decide) ?_
          refine g_icmp_le F 54 dX1_point_49 (by decide)  (fun h3 => ?_) (fun h3 => ?_)
          · obtain ⟨m, hm1, hm2, rfl⟩ := i32_of (m := 1) (n := 20) h2 h3 (by decide) (by decide)
            refine g_aload_n F dX1_point_54 rfl rfl ?_
            refine gM_get_is F dX1_point_55 ?_
            refine g_iload F dX1_point_58 rfl ?_
            refine g_iconst F (b2 true) dX1_point_60 (by decide) ?_
            refine gM_st_is F hi dX1_point_61 ?_
            refine g_aload_n F dX1_point_62 rfl rfl ?_
            refine gM_get_xs F dX1_point_63 ?_
            refine g_iload F dX1_point_66 rfl ?_
            refine g_iload_n F dX1_point_68 rfl rfl ?_
            refine gM_st_xs F hi dX1_point_69 ?_
            refine g_aload_n F dX1_point_70 rfl rfl ?_
            refine gM_get_ys F dX1_point_71 ?_
            refine g_iload F dX1_point_74 rfl ?_
            refine g_iload_n F dX1_point_76 rfl rfl ?_
            refine gM_st_ys F hi dX1_point_77 ?_
            refine g_aload_n F dX1_point_78 rfl rfl ?_
            refine gM_get_weights F dX1_point_79 ?_
            refine g_iload F dX1_point_82 rfl ?_
            refine g_iload_n F dX1_point_84 rfl rfl ?_
            refine gM_st_weights F hi dX1_point_85 ?_
            refine g_iload F dX1_point_86 rfl ?_
            exact E _ _ _ _ dX1_point_88 (by rw [show pointF v x y wy re de p0 p1 (nI m) = (nI i, (up v i m, up x i p0, up y i p1, wy, re, de)) from by unfold pointF; rw [if_pos ⟨h, h2, h3⟩, hq]; dsimp only; rw [nI_clamp (by omega)]]; exact ⟨rfl, ⟨_, _, _, _, _, _, _, _, rfl, MI_pt hM hm1 hm2 h⟩⟩)
          · refine g_iconst F (oI none) dX1_point_52 (by decide) ?_
            exact E _ _ _ _ dX1_point_53 (by rw [show pointF v x y wy re de p0 p1 p2 = (oI none, (v, x, y, wy, re, de)) from by unfold pointF; rw [if_neg (fun z => h3 z.2.2)]]; exact ⟨rfl, ⟨_, _, _, _, _, _, _, _, rfl, hM⟩⟩)
    · refine g_iinc (lv2 := [(0, .ref (a 0)), (1, .int p0), (2, .int p1), (3, .int p2), (4, .int (nI (i + 1)))]) F (nI (i + 1)) dX1_point_20 rfl (nI_add i 1) (by decide) rfl ?_
      refine g_goto F 3 dX1_point_23 (by decide) ?_
      exact ih (lt_s hI (by have := (hM.y h0).1; simp; omega))
set_option maxHeartbeats 4000000 in
set_option maxRecDepth 100000 in
/-- remove -/
theorem cM_remove {l : Launch} {D : va_G} {t : Ty3} {a : Nat → Nat} {is : Nat → Bool} {x : Nat → Int32} {y : Nat → Int32} {w : Nat → Nat} {wy : Nat} {re : Nat} {de : Nat} {co : Nat → Bool} {cr : Nat → Option Nat} {cc : Nat} {dn : Nat → Bool} {cs : Nat → Option Nat} {df : Nat → Option Nat} {v : Nat → Nat} (hM : MI v x y wy re de is w) (p : Int32) : CtI (EE l D t) yX1_remove tsX1_remove (RM 1 22) [.ref (a 0), .int p] (WM a t is x y w wy re de co cr cc dn cs df) 0 0 (fun r u => r = (removeF v x y wy re de p).1 ∧ MW a t (removeF v x y wy re de p).2 u) := by
  refine CtI.of (by decide +kernel) rfl (Nat.le_of_ble_eq_true rfl) (fun X F E => ?_)
  show GG (EE l D t) X 0 0 0 [(0, .ref (a 0)), (1, .int p)] [] (WM a t is x y w wy re de co cr cc dn cs df)
  refine g_aload_n F dX1_remove_0 rfl rfl ?_
  refine g_iload_n F dX1_remove_1 rfl rfl ?_
  refine c_VI F [] (wr := []) (cM_isPoint p) cwX1_X1_isPoint ⟨by decide, by decide, rfl, rfl⟩ rfl rfl rfl rfl (Nat.le_of_ble_eq_true rfl) ⟨by decide, by decide⟩ dX1_remove_2 (fun r u hu => ?_)
  obtain ⟨rfl, rfl⟩ := hu
  show GG (EE l D t) X 0 0 5 [(0, .ref (a 0)), (1, .int p)] [.int (b2 (isPt is p))] (WM a t is x y w wy re de co cr cc dn cs df)
  refine g_if_ne_b F 10 dX1_remove_5 (by decide)  (fun h => ?_) (fun h => ?_)
  · obtain ⟨j, hj, rfl, hsj⟩ := isPt_t h
    have hwj : 0 < v j := (hM.y hsj).1
    refine g_aload_n F dX1_remove_10 rfl rfl ?_
    refine gM_get_is F dX1_remove_11 ?_
    refine g_iload_n F dX1_remove_14 rfl rfl ?_
    refine g_iconst F (b2 false) dX1_remove_15 (by decide) ?_
    refine gM_st_is F hj dX1_remove_16 ?_
    refine g_aload_n F dX1_remove_17 rfl rfl ?_
    refine c_VI F [] (wr := []) cM_points cwX1_X1_points ⟨by decide, by decide, rfl, rfl⟩ rfl rfl rfl rfl (Nat.le_of_ble_eq_true rfl) ⟨by decide, by decide⟩ dX1_remove_18 (fun r u hu => ?_)
    obtain ⟨rfl, rfl⟩ := hu
    show GG (EE l D t) X 0 0 21 [(0, .ref (a 0)), (1, .int (nI j))] [.int (nI (sum1 (fun i => if up is j false i = true then 1 else 0)))] (WM a t (up is j false) x y w wy re de co cr cc dn cs df)
    have hsum : sum1 (fun i => if up is j false i = true then 1 else 0) = sum1 (fun i => if 0 < up v j 0 i then 1 else 0) := sum1_congr (fun i _ => by
      rw [((MI_rm (j := j) hM).2 i).1]
      by_cases c : 0 < up v j 0 i
      · rw [if_pos (decide_eq_true c), if_pos c]
      · rw [if_neg (by simp; omega), if_neg c])
    exact E _ _ _ _ dX1_remove_21 (by rw [show removeF v x y wy re de (nI j) = (nI (sum1 (fun i => if 0 < up v j 0 i then 1 else 0)), (up v j 0, x, y, wy, re, de)) from by unfold removeF; rw [pt_nI hj hwj]]; exact ⟨congrArg nI hsum, ⟨_, _, _, _, _, _, _, _, rfl, MI_rm hM⟩⟩)
  · rw [hM.isv] at h
    refine g_iconst F (oI none) dX1_remove_8 (by decide) ?_
    exact E _ _ _ _ dX1_remove_9 (by rw [show removeF v x y wy re de p = (oI none, (v, x, y, wy, re, de)) from by unfold removeF; rw [pt_f h]]; exact ⟨rfl, ⟨_, _, _, _, _, _, _, _, rfl, hM⟩⟩)
set_option maxHeartbeats 4000000 in
set_option maxRecDepth 100000 in
/-- move -/
theorem cM_move {l : Launch} {D : va_G} {t : Ty3} {a : Nat → Nat} {is : Nat → Bool} {x : Nat → Int32} {y : Nat → Int32} {w : Nat → Nat} {wy : Nat} {re : Nat} {de : Nat} {co : Nat → Bool} {cr : Nat → Option Nat} {cc : Nat} {dn : Nat → Bool} {cs : Nat → Option Nat} {df : Nat → Option Nat} {v : Nat → Nat} (hM : MI v x y wy re de is w) (p p0 p1 : Int32) : CtI (EE l D t) yX1_move tsX1_move (RM 1 21) [.ref (a 0), .int p, .int p0, .int p1] (WM a t is x y w wy re de co cr cc dn cs df) 0 0 (fun r u => r = (moveF v x y wy re de p p0 p1).1 ∧ MW a t (moveF v x y wy re de p p0 p1).2 u) := by
  refine CtI.of (by decide +kernel) rfl (Nat.le_of_ble_eq_true rfl) (fun X F E => ?_)
  show GG (EE l D t) X 0 0 0 [(0, .ref (a 0)), (1, .int p), (2, .int p0), (3, .int p1)] [] (WM a t is x y w wy re de co cr cc dn cs df)
  refine g_aload_n F dX1_move_0 rfl rfl ?_
  refine g_iload_n F dX1_move_1 rfl rfl ?_
  refine c_VI F [] (wr := []) (cM_isPoint p) cwX1_X1_isPoint ⟨by decide, by decide, rfl, rfl⟩ rfl rfl rfl rfl (Nat.le_of_ble_eq_true rfl) ⟨by decide, by decide⟩ dX1_move_2 (fun r u hu => ?_)
  obtain ⟨rfl, rfl⟩ := hu
  show GG (EE l D t) X 0 0 5 [(0, .ref (a 0)), (1, .int p), (2, .int p0), (3, .int p1)] [.int (b2 (isPt is p))] (WM a t is x y w wy re de co cr cc dn cs df)
  refine g_if_eq_b F 16 dX1_move_5 (by decide)  (fun h => ?_) (fun h => ?_)
  · rw [hM.isv] at h
    refine g_iconst F (nI 0) dX1_move_16 (by decide) ?_
    exact E _ _ _ _ dX1_move_17 (by rw [show moveF v x y wy re de p p0 p1 = (nI 0, (v, x, y, wy, re, de)) from by unfold moveF; rw [pt_f h]]; exact ⟨rfl, ⟨_, _, _, _, _, _, _, _, rfl, hM⟩⟩)
  · obtain ⟨j, hj, rfl, hsj⟩ := isPt_t h
    have hwj : 0 < v j := (hM.y hsj).1
    refine g_iload_n F dX1_move_8 rfl rfl ?_
    refine g_iload_n F dX1_move_9 rfl rfl ?_
    refine c_SI F [] (wr := []) (cM_isPlace p0 p1) cwX1_X1_isPlace ⟨by decide, by decide, rfl, rfl⟩ rfl rfl (Nat.le_of_ble_eq_true rfl) ⟨by decide, by decide⟩ dX1_move_10 (fun r u hu => ?_)
    obtain ⟨rfl, rfl⟩ := hu
    show GG (EE l D t) X 0 0 13 [(0, .ref (a 0)), (1, .int (nI j)), (2, .int p0), (3, .int p1)] [.int (b2 (isPl p0 p1))] (WM a t is x y w wy re de co cr cc dn cs df)
    refine g_if_ne_b F 18 dX1_move_13 (by decide)  (fun h2 => ?_) (fun h2 => ?_)
    · refine g_aload_n F dX1_move_18 rfl rfl ?_
      refine gM_get_xs F dX1_move_19 ?_
      refine g_iload_n F dX1_move_22 rfl rfl ?_
      refine g_iload_n F dX1_move_23 rfl rfl ?_
      refine gM_st_xs F hj dX1_move_24 ?_
      refine g_aload_n F dX1_move_25 rfl rfl ?_
      refine gM_get_ys F dX1_move_26 ?_
      refine g_iload_n F dX1_move_29 rfl rfl ?_
      refine g_iload_n F dX1_move_30 rfl rfl ?_
      refine gM_st_ys F hj dX1_move_31 ?_
      refine g_iconst F (nI 1) dX1_move_32 (by decide) ?_
      exact E _ _ _ _ dX1_move_33 (by rw [show moveF v x y wy re de (nI j) p0 p1 = (nI 1, (v, up x j p0, up y j p1, wy, re, de)) from by unfold moveF; rw [pt_nI hj hwj]; dsimp only; rw [if_pos h2]]; exact ⟨rfl, ⟨_, _, _, _, _, _, _, _, rfl, ⟨WFp_mv hM.1 h2, hM.2⟩⟩⟩)
    · refine g_iconst F (nI 0) dX1_move_16 (by decide) ?_
      exact E _ _ _ _ dX1_move_17 (by rw [show moveF v x y wy re de (nI j) p0 p1 = (nI 0, (v, x, y, wy, re, de)) from by unfold moveF; rw [pt_nI hj hwj]; dsimp only; rw [if_neg (by simp [h2])]]; exact ⟨rfl, ⟨_, _, _, _, _, _, _, _, rfl, hM⟩⟩)
set_option maxHeartbeats 4000000 in
set_option maxRecDepth 100000 in
/-- way -/
theorem cM_way {l : Launch} {D : va_G} {t : Ty3} {a : Nat → Nat} {is : Nat → Bool} {x : Nat → Int32} {y : Nat → Int32} {w : Nat → Nat} {wy : Nat} {re : Nat} {de : Nat} {co : Nat → Bool} {cr : Nat → Option Nat} {cc : Nat} {dn : Nat → Bool} {cs : Nat → Option Nat} {df : Nat → Option Nat} {v : Nat → Nat} (hM : MI v x y wy re de is w) (p : Int32) : CtI (EE l D t) yX1_way tsX1_way (RM 0 0) [.ref (a 0), .int p] (WM a t is x y w wy re de co cr cc dn cs df) 0 0 (fun r u => r = (wayF v x y wy re de p).1 ∧ MW a t (wayF v x y wy re de p).2 u) := by
  refine CtI.of (by decide +kernel) rfl (Nat.le_of_ble_eq_true rfl) (fun X F E => ?_)
  show GG (EE l D t) X 0 0 0 [(0, .ref (a 0)), (1, .int p)] [] (WM a t is x y w wy re de co cr cc dn cs df)
  refine g_iload_n F dX1_way_0 rfl rfl ?_
  refine g_if_lt F 9 dX1_way_1 (by decide)  (fun h => ?_) (fun h => ?_)
  · refine g_iconst F (nI 0) dX1_way_9 (by decide) ?_
    exact E _ _ _ _ dX1_way_10 (by rw [show wayF v x y wy re de p = (nI 0, (v, x, y, wy, re, de)) from by unfold wayF; rw [if_neg (fun z => z.1 h)]]; exact ⟨rfl, ⟨_, _, _, _, _, _, _, _, rfl, hM⟩⟩)
  · refine g_iload_n F dX1_way_4 rfl rfl ?_
    refine g_iconst F 2 dX1_way_5 (by decide) ?_
    refine g_icmp_le F 11 dX1_way_6 (by decide)  (fun h2 => ?_) (fun h2 => ?_)
    · obtain ⟨m, hm1, hm2, rfl⟩ := i32_of (m := 0) (n := 2) h h2 (by decide) (by decide)
      refine g_aload_n F dX1_way_11 rfl rfl ?_
      refine g_iload_n F dX1_way_12 rfl rfl ?_
      refine gM_put_way F dX1_way_13 ?_
      refine g_iconst F (nI 1) dX1_way_16 (by decide) ?_
      exact E _ _ _ _ dX1_way_17 (by rw [show wayF v x y wy re de (nI m) = (nI 1, (v, x, y, m, re, de)) from by unfold wayF; rw [if_pos ⟨h, h2⟩, nI_clamp (by omega)]]; exact ⟨rfl, ⟨_, _, _, _, _, _, _, _, rfl, ⟨⟨hM.1.1, hM.1.2.1, hM.1.2.2.1, hm2, hM.1.2.2.2.2⟩, hM.2⟩⟩⟩)
    · refine g_iconst F (nI 0) dX1_way_9 (by decide) ?_
      exact E _ _ _ _ dX1_way_10 (by rw [show wayF v x y wy re de p = (nI 0, (v, x, y, wy, re, de)) from by unfold wayF; rw [if_neg (fun z => h2 z.2)]]; exact ⟨rfl, ⟨_, _, _, _, _, _, _, _, rfl, hM⟩⟩)
set_option maxHeartbeats 4000000 in
set_option maxRecDepth 100000 in
/-- reach -/
theorem cM_reach {l : Launch} {D : va_G} {t : Ty3} {a : Nat → Nat} {is : Nat → Bool} {x : Nat → Int32} {y : Nat → Int32} {w : Nat → Nat} {wy : Nat} {re : Nat} {de : Nat} {co : Nat → Bool} {cr : Nat → Option Nat} {cc : Nat} {dn : Nat → Bool} {cs : Nat → Option Nat} {df : Nat → Option Nat} {v : Nat → Nat} (hM : MI v x y wy re de is w) (p : Int64) : CtI (EE l D t) yX1_reach tsX1_reach (RM 0 0) [.ref (a 0), .long p] (WM a t is x y w wy re de co cr cc dn cs df) 0 0 (fun r u => r = (reachF v x y wy re de p).1 ∧ MW a t (reachF v x y wy re de p).2 u) := by
  refine CtI.of (by decide +kernel) rfl (Nat.le_of_ble_eq_true rfl) (fun X F E => ?_)
  show GG (EE l D t) X 0 0 0 [(0, .ref (a 0)), (1, .long p)] [] (WM a t is x y w wy re de co cr cc dn cs df)
  refine g_lload_n F dX1_reach_0 rfl rfl ?_
  refine g_lconst F 0 dX1_reach_1 rfl ?_
  refine g_lc_ge F 8 dX1_reach_2 dX1_reach_3 (by decide)  (fun h => ?_) (fun h => ?_)
  · have h9 : ¬ p < 0 := lg_le_not_lt h
    obtain ⟨m, hm, rfl⟩ := pk_lOf h9
    refine g_aload_n F dX1_reach_8 rfl rfl ?_
    refine g_lload_n F dX1_reach_9 rfl rfl ?_
    refine gM_put_reach F dX1_reach_10 ?_
    refine g_iconst F (nI 1) dX1_reach_13 (by decide) ?_
    exact E _ _ _ _ dX1_reach_14 (by rw [show reachF v x y wy re de (lN m) = (nI 1, (v, x, y, wy, m, de)) from by unfold reachF; rw [if_neg h9, pk_lT hm]; rfl]; exact ⟨rfl, ⟨_, _, _, _, _, _, _, _, rfl, ⟨⟨hM.1.1, hM.1.2.1, hM.1.2.2.1, hM.1.2.2.2.1, hm, hM.1.2.2.2.2.2⟩, hM.2⟩⟩⟩)
  · refine g_iconst F (nI 0) dX1_reach_6 (by decide) ?_
    exact E _ _ _ _ dX1_reach_7 (by rw [show reachF v x y wy re de p = (nI 0, (v, x, y, wy, re, de)) from by unfold reachF; rw [if_pos (l_neg h)]]; exact ⟨rfl, ⟨_, _, _, _, _, _, _, _, rfl, hM⟩⟩)
set_option maxHeartbeats 4000000 in
set_option maxRecDepth 100000 in
/-- demand -/
theorem cM_demand {l : Launch} {D : va_G} {t : Ty3} {a : Nat → Nat} {is : Nat → Bool} {x : Nat → Int32} {y : Nat → Int32} {w : Nat → Nat} {wy : Nat} {re : Nat} {de : Nat} {co : Nat → Bool} {cr : Nat → Option Nat} {cc : Nat} {dn : Nat → Bool} {cs : Nat → Option Nat} {df : Nat → Option Nat} {v : Nat → Nat} (hM : MI v x y wy re de is w) (p : Int32) : CtI (EE l D t) yX1_demand tsX1_demand (RM 0 0) [.ref (a 0), .int p] (WM a t is x y w wy re de co cr cc dn cs df) 0 0 (fun r u => r = (demandF v x y wy re de p).1 ∧ MW a t (demandF v x y wy re de p).2 u) := by
  refine CtI.of (by decide +kernel) rfl (Nat.le_of_ble_eq_true rfl) (fun X F E => ?_)
  show GG (EE l D t) X 0 0 0 [(0, .ref (a 0)), (1, .int p)] [] (WM a t is x y w wy re de co cr cc dn cs df)
  refine g_iload_n F dX1_demand_0 rfl rfl ?_
  refine g_iconst F 1 dX1_demand_1 (by decide) ?_
  refine g_icmp_lt F 12 dX1_demand_2 (by decide)  (fun h => ?_) (fun h => ?_)
  · refine g_iconst F (nI 0) dX1_demand_12 (by decide) ?_
    exact E _ _ _ _ dX1_demand_13 (by rw [show demandF v x y wy re de p = (nI 0, (v, x, y, wy, re, de)) from by unfold demandF; rw [if_neg (fun z => z.1 h)]]; exact ⟨rfl, ⟨_, _, _, _, _, _, _, _, rfl, hM⟩⟩)
  · refine g_iload_n F dX1_demand_5 rfl rfl ?_
    refine g_sipush F 2400 dX1_demand_6 (by decide) ?_
    refine g_icmp_le F 14 dX1_demand_9 (by decide)  (fun h2 => ?_) (fun h2 => ?_)
    · obtain ⟨m, hm1, hm2, rfl⟩ := i32_of (m := 1) (n := 2400) h h2 (by decide) (by decide)
      refine g_aload_n F dX1_demand_14 rfl rfl ?_
      refine g_iload_n F dX1_demand_15 rfl rfl ?_
      refine gM_put_demand F dX1_demand_16 ?_
      refine g_iconst F (nI 1) dX1_demand_19 (by decide) ?_
      exact E _ _ _ _ dX1_demand_20 (by rw [show demandF v x y wy re de (nI m) = (nI 1, (v, x, y, wy, re, m)) from by unfold demandF; rw [if_pos ⟨h, h2⟩, nI_clamp (by omega)]]; exact ⟨rfl, ⟨_, _, _, _, _, _, _, _, rfl, ⟨⟨hM.1.1, hM.1.2.1, hM.1.2.2.1, hM.1.2.2.2.1, hM.1.2.2.2.2.1, hm1, hm2⟩, hM.2⟩⟩⟩)
    · refine g_iconst F (nI 0) dX1_demand_12 (by decide) ?_
      exact E _ _ _ _ dX1_demand_13 (by rw [show demandF v x y wy re de p = (nI 0, (v, x, y, wy, re, de)) from by unfold demandF; rw [if_neg (fun z => h2 z.2)]]; exact ⟨rfl, ⟨_, _, _, _, _, _, _, _, rfl, hM⟩⟩)
set_option maxHeartbeats 4000000 in
set_option maxRecDepth 100000 in
/-- distance -/
theorem cM_distance {l : Launch} {D : va_G} {t : Ty3} {a : Nat → Nat} {is : Nat → Bool} {x : Nat → Int32} {y : Nat → Int32} {w : Nat → Nat} {wy : Nat} {re : Nat} {de : Nat} {co : Nat → Bool} {cr : Nat → Option Nat} {cc : Nat} {dn : Nat → Bool} {cs : Nat → Option Nat} {df : Nat → Option Nat} {v : Nat → Nat} (hM : MI v x y wy re de is w) (p q : Int32) : CtL (EE l D t) yX1_distance tsX1_distance (RM 1 29) [.ref (a 0), .int p, .int q] (WM a t is x y w wy re de co cr cc dn cs df) 0 0 (fun r u => r = distF v x y wy p q ∧ MW a t (v, x, y, wy, re, de) u) := by
  refine CtL.of (by decide +kernel) rfl (Nat.le_of_ble_eq_true rfl) (fun X F E => ?_)
  show GG (EE l D t) X 0 0 0 [(0, .ref (a 0)), (1, .int p), (2, .int q)] [] (WM a t is x y w wy re de co cr cc dn cs df)
  refine g_aload_n F dX1_distance_0 rfl rfl ?_
  refine g_iload_n F dX1_distance_1 rfl rfl ?_
  refine c_VI F [] (wr := []) (cM_isPoint p) cwX1_X1_isPoint ⟨by decide, by decide, rfl, rfl⟩ rfl rfl rfl rfl (Nat.le_of_ble_eq_true rfl) ⟨by decide, by decide⟩ dX1_distance_2 (fun r u hu => ?_)
  obtain ⟨rfl, rfl⟩ := hu
  show GG (EE l D t) X 0 0 5 [(0, .ref (a 0)), (1, .int p), (2, .int q)] [.int (b2 (isPt is p))] (WM a t is x y w wy re de co cr cc dn cs df)
  refine g_if_eq_b F 38 dX1_distance_5 (by decide)  (fun h => ?_) (fun h => ?_)
  · rw [hM.isv] at h
    refine g_ldc2 F (oL none) dX1_distance_38 (List.mem_cons_of_mem _ mw7_15) ?_
    exact E _ _ _ _ dX1_distance_41 ⟨by unfold distF; rw [pt_f h], ⟨_, _, _, _, _, _, _, _, rfl, hM⟩⟩
  · obtain ⟨i, hi, rfl, hsi⟩ := isPt_t h
    have hwi : 0 < v i := (hM.y hsi).1
    refine g_aload_n F dX1_distance_8 rfl rfl ?_
    refine g_iload_n F dX1_distance_9 rfl rfl ?_
    refine c_VI F [] (wr := []) (cM_isPoint q) cwX1_X1_isPoint ⟨by decide, by decide, rfl, rfl⟩ rfl rfl rfl rfl (Nat.le_of_ble_eq_true rfl) ⟨by decide, by decide⟩ dX1_distance_10 (fun r u hu => ?_)
    obtain ⟨rfl, rfl⟩ := hu
    show GG (EE l D t) X 0 0 13 [(0, .ref (a 0)), (1, .int (nI i)), (2, .int q)] [.int (b2 (isPt is q))] (WM a t is x y w wy re de co cr cc dn cs df)
    refine g_if_eq_b F 38 dX1_distance_13 (by decide)  (fun h2 => ?_) (fun h2 => ?_)
    · rw [hM.isv] at h2
      refine g_ldc2 F (oL none) dX1_distance_38 (List.mem_cons_of_mem _ mw7_15) ?_
      exact E _ _ _ _ dX1_distance_41 ⟨by unfold distF; rw [pt_nI hi hwi, pt_f h2], ⟨_, _, _, _, _, _, _, _, rfl, hM⟩⟩
    · obtain ⟨j, hj, rfl, hsj⟩ := isPt_t h2
      have hwj : 0 < v j := (hM.y hsj).1
      refine g_aload_n F dX1_distance_16 rfl rfl ?_
      refine g_iload_n F dX1_distance_17 rfl rfl ?_
      refine g_aload_n F dX1_distance_18 rfl rfl ?_
      refine gM_get_xs F dX1_distance_19 ?_
      refine g_iload_n F dX1_distance_22 rfl rfl ?_
      refine gM_ld_xs F hj dX1_distance_23 ?_
      refine g_i2l F dX1_distance_24 ?_
      refine g_aload_n F dX1_distance_25 rfl rfl ?_
      refine gM_get_ys F dX1_distance_26 ?_
      refine g_iload_n F dX1_distance_29 rfl rfl ?_
      refine gM_ld_ys F hj dX1_distance_30 ?_
      refine g_i2l F dX1_distance_31 ?_
      refine c_VL F [] (wr := []) (cM_far hM.1.2.2.2.1 hi (x j) (y j)) cwX1_X1_far ⟨by decide, by decide, rfl, rfl⟩ rfl rfl rfl rfl (Nat.le_of_ble_eq_true rfl) ⟨by decide, by decide⟩ dX1_distance_32 (fun r u hu => ?_)
      obtain ⟨rfl, rfl⟩ := hu
      show GG (EE l D t) X 0 0 35 [(0, .ref (a 0)), (1, .int (nI i)), (2, .int (nI j))] [.long (lN (gapN wy (x i) (y i) (x j) (y j)))] (WM a t is x y w wy re de co cr cc dn cs df)
      refine g_topl (y := lN (gp wy x y i j)) (congrArg lN (gapN_comm _ _ _ _ _)) ?_
      refine g_goto F 41 dX1_distance_35 (by decide) ?_
      exact E _ _ _ _ dX1_distance_41 ⟨by unfold distF; rw [pt_nI hi hwi, pt_nI hj hwj], ⟨_, _, _, _, _, _, _, _, rfl, hM⟩⟩
set_option maxHeartbeats 4000000 in
set_option maxRecDepth 100000 in
/-- kind -/
theorem cM_kind {l : Launch} {D : va_G} {t : Ty3} {a : Nat → Nat} {is : Nat → Bool} {x : Nat → Int32} {y : Nat → Int32} {w : Nat → Nat} {wy : Nat} {re : Nat} {de : Nat} {co : Nat → Bool} {cr : Nat → Option Nat} {cc : Nat} {dn : Nat → Bool} {cs : Nat → Option Nat} {df : Nat → Option Nat} {v : Nat → Nat} (hM : MI v x y wy re de is w) (p : Int32) : CtI (EE l D t) yX1_kind tsX1_kind (RM 3 80) [.ref (a 0), .int p] (WM a t is x y w wy re de co cr cc dn cs df) 0 0 (fun r u => kindR v x y wy re de p r ∧ MW a t (v, x, y, wy, re, de) u) := by
  refine CtI.of (by decide +kernel) rfl (Nat.le_of_ble_eq_true rfl) (fun X F E => ?_)
  show GG (EE l D t) X 0 0 0 [(0, .ref (a 0)), (1, .int p)] [] (WM a t is x y w wy re de co cr cc dn cs df)
  refine g_aload_n F dX1_kind_0 rfl rfl ?_
  refine g_iload_n F dX1_kind_1 rfl rfl ?_
  refine c_VI F [] (wr := []) (cM_isPoint p) cwX1_X1_isPoint ⟨by decide, by decide, rfl, rfl⟩ rfl rfl rfl rfl (Nat.le_of_ble_eq_true rfl) ⟨by decide, by decide⟩ dX1_kind_2 (fun r u hu => ?_)
  obtain ⟨rfl, rfl⟩ := hu
  show GG (EE l D t) X 0 0 5 [(0, .ref (a 0)), (1, .int p)] [.int (b2 (isPt is p))] (WM a t is x y w wy re de co cr cc dn cs df)
  refine g_if_ne_b F 10 dX1_kind_5 (by decide)  (fun h => ?_) (fun h => ?_)
  · obtain ⟨j, hj, rfl, hsj⟩ := isPt_t h
    have hwj : 0 < v j := (hM.y hsj).1
    refine g_aload_n F dX1_kind_10 rfl rfl ?_
    refine g_aload_n F dX1_kind_11 rfl rfl ?_
    refine gM_get_reach F dX1_kind_12 ?_
    refine c_VV F [] (wr := []) (cM_find hM hM.1.2.2.2.2.1) cwX1_X1_find ⟨by decide, by decide, rfl, rfl⟩ rfl rfl rfl rfl (Nat.le_of_ble_eq_true rfl) ⟨by decide, by decide⟩ dX1_kind_15 (fun u hu => ?_)
    obtain ⟨co2, cr2, cc2, rfl, hs2⟩ := hu
    show GG (EE l D t) X 0 0 18 [(0, .ref (a 0)), (1, .int (nI j))] [] (WM a t is x y w wy re de co2 cr2 cc2 dn cs df)
    refine g_aload_n F dX1_kind_18 rfl rfl ?_
    refine gM_get_core F dX1_kind_19 ?_
    refine g_iload_n F dX1_kind_22 rfl rfl ?_
    refine gM_ld_core F hj dX1_kind_23 ?_
    refine g_if_eq_b F 31 dX1_kind_24 (by decide)  (fun h2 => ?_) (fun h2 => ?_)
    · refine g_aload_n F dX1_kind_31 rfl rfl ?_
      refine gM_get_crowdOf F dX1_kind_32 ?_
      refine g_iload_n F dX1_kind_35 rfl rfl ?_
      refine gM_ld_crowdOf F hj dX1_kind_36 ?_
      refine g_if_lt_o F 44 dX1_kind_37 (by decide) (hs2.bd31 hj) (fun h3 => ?_) (fun h3 => ?_)
      · refine g_iconst F (nI 0) dX1_kind_44 (by decide) ?_
        exact E _ _ _ _ dX1_kind_45 ⟨by unfold kindR; rw [pt_nI hj hwj]; exact ⟨co2, cr2, cc2, hs2, by unfold knd; rw [if_neg (by simp [h2]), if_pos h3]⟩, ⟨_, _, _, _, _, _, _, _, rfl, hM⟩⟩
      · refine g_iconst F (nI 1) dX1_kind_40 (by decide) ?_
        refine g_goto F 45 dX1_kind_41 (by decide) ?_
        exact E _ _ _ _ dX1_kind_45 ⟨by unfold kindR; rw [pt_nI hj hwj]; exact ⟨co2, cr2, cc2, hs2, by unfold knd; rw [if_neg (by simp [h2]), if_neg h3]⟩, ⟨_, _, _, _, _, _, _, _, rfl, hM⟩⟩
    · refine g_iconst F (nI 2) dX1_kind_27 (by decide) ?_
      refine g_goto F 45 dX1_kind_28 (by decide) ?_
      exact E _ _ _ _ dX1_kind_45 ⟨by unfold kindR; rw [pt_nI hj hwj]; exact ⟨co2, cr2, cc2, hs2, by unfold knd; rw [if_pos h2]⟩, ⟨_, _, _, _, _, _, _, _, rfl, hM⟩⟩
  · rw [hM.isv] at h
    refine g_iconst F (oI none) dX1_kind_8 (by decide) ?_
    exact E _ _ _ _ dX1_kind_9 ⟨by unfold kindR; rw [pt_f h], ⟨_, _, _, _, _, _, _, _, rfl, hM⟩⟩
set_option maxHeartbeats 4000000 in
set_option maxRecDepth 100000 in
/-- crowd -/
theorem cM_crowd {l : Launch} {D : va_G} {t : Ty3} {a : Nat → Nat} {is : Nat → Bool} {x : Nat → Int32} {y : Nat → Int32} {w : Nat → Nat} {wy : Nat} {re : Nat} {de : Nat} {co : Nat → Bool} {cr : Nat → Option Nat} {cc : Nat} {dn : Nat → Bool} {cs : Nat → Option Nat} {df : Nat → Option Nat} {v : Nat → Nat} (hM : MI v x y wy re de is w) (p : Int32) : CtI (EE l D t) yX1_crowd tsX1_crowd (RM 3 80) [.ref (a 0), .int p] (WM a t is x y w wy re de co cr cc dn cs df) 0 0 (fun r u => crowdR v x y wy re de p r ∧ MW a t (v, x, y, wy, re, de) u) := by
  refine CtI.of (by decide +kernel) rfl (Nat.le_of_ble_eq_true rfl) (fun X F E => ?_)
  show GG (EE l D t) X 0 0 0 [(0, .ref (a 0)), (1, .int p)] [] (WM a t is x y w wy re de co cr cc dn cs df)
  refine g_aload_n F dX1_crowd_0 rfl rfl ?_
  refine g_iload_n F dX1_crowd_1 rfl rfl ?_
  refine c_VI F [] (wr := []) (cM_isPoint p) cwX1_X1_isPoint ⟨by decide, by decide, rfl, rfl⟩ rfl rfl rfl rfl (Nat.le_of_ble_eq_true rfl) ⟨by decide, by decide⟩ dX1_crowd_2 (fun r u hu => ?_)
  obtain ⟨rfl, rfl⟩ := hu
  show GG (EE l D t) X 0 0 5 [(0, .ref (a 0)), (1, .int p)] [.int (b2 (isPt is p))] (WM a t is x y w wy re de co cr cc dn cs df)
  refine g_if_ne_b F 10 dX1_crowd_5 (by decide)  (fun h => ?_) (fun h => ?_)
  · obtain ⟨j, hj, rfl, hsj⟩ := isPt_t h
    have hwj : 0 < v j := (hM.y hsj).1
    refine g_aload_n F dX1_crowd_10 rfl rfl ?_
    refine g_aload_n F dX1_crowd_11 rfl rfl ?_
    refine gM_get_reach F dX1_crowd_12 ?_
    refine c_VV F [] (wr := []) (cM_find hM hM.1.2.2.2.2.1) cwX1_X1_find ⟨by decide, by decide, rfl, rfl⟩ rfl rfl rfl rfl (Nat.le_of_ble_eq_true rfl) ⟨by decide, by decide⟩ dX1_crowd_15 (fun u hu => ?_)
    obtain ⟨co2, cr2, cc2, rfl, hs2⟩ := hu
    show GG (EE l D t) X 0 0 18 [(0, .ref (a 0)), (1, .int (nI j))] [] (WM a t is x y w wy re de co2 cr2 cc2 dn cs df)
    refine g_aload_n F dX1_crowd_18 rfl rfl ?_
    refine gM_get_crowdOf F dX1_crowd_19 ?_
    refine g_iload_n F dX1_crowd_22 rfl rfl ?_
    refine gM_ld_crowdOf F hj dX1_crowd_23 ?_
    exact E _ _ _ _ dX1_crowd_24 ⟨by unfold crowdR; rw [pt_nI hj hwj]; exact ⟨co2, cr2, cc2, hs2, rfl⟩, ⟨_, _, _, _, _, _, _, _, rfl, hM⟩⟩
  · rw [hM.isv] at h
    refine g_iconst F (oI none) dX1_crowd_8 (by decide) ?_
    exact E _ _ _ _ dX1_crowd_9 ⟨by unfold crowdR; rw [pt_f h], ⟨_, _, _, _, _, _, _, _, rfl, hM⟩⟩
set_option maxHeartbeats 4000000 in
set_option maxRecDepth 100000 in
/-- around -/
theorem cM_around {l : Launch} {D : va_G} {t : Ty3} {a : Nat → Nat} {is : Nat → Bool} {x : Nat → Int32} {y : Nat → Int32} {w : Nat → Nat} {wy : Nat} {re : Nat} {de : Nat} {co : Nat → Bool} {cr : Nat → Option Nat} {cc : Nat} {dn : Nat → Bool} {cs : Nat → Option Nat} {df : Nat → Option Nat} {v : Nat → Nat} (hM : MI v x y wy re de is w) (p : Int32) : CtI (EE l D t) yX1_around tsX1_around (RM 2 54) [.ref (a 0), .int p] (WM a t is x y w wy re de co cr cc dn cs df) 0 0 (fun r u => r = aroundF v x y wy re p ∧ MW a t (v, x, y, wy, re, de) u) := by
  refine CtI.of (by decide +kernel) rfl (Nat.le_of_ble_eq_true rfl) (fun X F E => ?_)
  show GG (EE l D t) X 0 0 0 [(0, .ref (a 0)), (1, .int p)] [] (WM a t is x y w wy re de co cr cc dn cs df)
  refine g_aload_n F dX1_around_0 rfl rfl ?_
  refine g_iload_n F dX1_around_1 rfl rfl ?_
  refine c_VI F [] (wr := []) (cM_isPoint p) cwX1_X1_isPoint ⟨by decide, by decide, rfl, rfl⟩ rfl rfl rfl rfl (Nat.le_of_ble_eq_true rfl) ⟨by decide, by decide⟩ dX1_around_2 (fun r u hu => ?_)
  obtain ⟨rfl, rfl⟩ := hu
  show GG (EE l D t) X 0 0 5 [(0, .ref (a 0)), (1, .int p)] [.int (b2 (isPt is p))] (WM a t is x y w wy re de co cr cc dn cs df)
  refine g_if_eq_b F 20 dX1_around_5 (by decide)  (fun h => ?_) (fun h => ?_)
  · rw [hM.isv] at h
    refine g_iconst F (oI none) dX1_around_20 (by decide) ?_
    exact E _ _ _ _ dX1_around_21 ⟨by unfold aroundF; rw [pt_f h], ⟨_, _, _, _, _, _, _, _, rfl, hM⟩⟩
  · obtain ⟨j, hj, rfl, hsj⟩ := isPt_t h
    have hwj : 0 < v j := (hM.y hsj).1
    refine g_aload_n F dX1_around_8 rfl rfl ?_
    refine g_iload_n F dX1_around_9 rfl rfl ?_
    refine g_aload_n F dX1_around_10 rfl rfl ?_
    refine gM_get_reach F dX1_around_11 ?_
    refine c_VI F [] (wr := []) (cM_weightWithin hM hj hM.1.2.2.2.2.1) cwX1_X1_weightWithin ⟨by decide, by decide, rfl, rfl⟩ rfl rfl rfl rfl (Nat.le_of_ble_eq_true rfl) ⟨by decide, by decide⟩ dX1_around_14 (fun r u hu => ?_)
    obtain ⟨rfl, rfl⟩ := hu
    show GG (EE l D t) X 0 0 17 [(0, .ref (a 0)), (1, .int (nI j))] [.int (nI (ww v (gp wy x y j) re))] (WM a t is x y w wy re de co cr cc dn cs df)
    refine g_goto F 21 dX1_around_17 (by decide) ?_
    exact E _ _ _ _ dX1_around_21 ⟨by unfold aroundF; rw [pt_nI hj hwj], ⟨_, _, _, _, _, _, _, _, rfl, hM⟩⟩
set_option maxHeartbeats 4000000 in
set_option maxRecDepth 100000 in
/-- belongs -/
theorem cM_belongs {l : Launch} {D : va_G} {t : Ty3} {a : Nat → Nat} {is : Nat → Bool} {x : Nat → Int32} {y : Nat → Int32} {w : Nat → Nat} {wy : Nat} {re : Nat} {de : Nat} {co : Nat → Bool} {cr : Nat → Option Nat} {cc : Nat} {dn : Nat → Bool} {cs : Nat → Option Nat} {df : Nat → Option Nat} {v : Nat → Nat} (hM : MI v x y wy re de is w) (p q : Int32) : CtI (EE l D t) yX1_belongs tsX1_belongs (RM 3 80) [.ref (a 0), .int p, .int q] (WM a t is x y w wy re de co cr cc dn cs df) 0 0 (fun r u => belongsR v x y wy re de p q r ∧ MW a t (v, x, y, wy, re, de) u) := by
  refine CtI.of (by decide +kernel) rfl (Nat.le_of_ble_eq_true rfl) (fun X F E => ?_)
  show GG (EE l D t) X 0 0 0 [(0, .ref (a 0)), (1, .int p), (2, .int q)] [] (WM a t is x y w wy re de co cr cc dn cs df)
  refine g_iload_n F dX1_belongs_0 rfl rfl ?_
  refine g_iload_n F dX1_belongs_1 rfl rfl ?_
  refine c_SI F [] (wr := []) (cM_isPlace p q) cwX1_X1_isPlace ⟨by decide, by decide, rfl, rfl⟩ rfl rfl (Nat.le_of_ble_eq_true rfl) ⟨by decide, by decide⟩ dX1_belongs_2 (fun r u hu => ?_)
  obtain ⟨rfl, rfl⟩ := hu
  show GG (EE l D t) X 0 0 5 [(0, .ref (a 0)), (1, .int p), (2, .int q)] [.int (b2 (isPl p q))] (WM a t is x y w wy re de co cr cc dn cs df)
  refine g_if_ne_b F 10 dX1_belongs_5 (by decide)  (fun h => ?_) (fun h => ?_)
  · refine g_aload_n F dX1_belongs_10 rfl rfl ?_
    refine g_aload_n F dX1_belongs_11 rfl rfl ?_
    refine gM_get_reach F dX1_belongs_12 ?_
    refine c_VV F [] (wr := []) (cM_find hM hM.1.2.2.2.2.1) cwX1_X1_find ⟨by decide, by decide, rfl, rfl⟩ rfl rfl rfl rfl (Nat.le_of_ble_eq_true rfl) ⟨by decide, by decide⟩ dX1_belongs_15 (fun u hu => ?_)
    obtain ⟨co2, cr2, cc2, rfl, hs2⟩ := hu
    show GG (EE l D t) X 0 0 18 [(0, .ref (a 0)), (1, .int p), (2, .int q)] [] (WM a t is x y w wy re de co2 cr2 cc2 dn cs df)
    refine g_aload_n F dX1_belongs_18 rfl rfl ?_
    refine g_iload_n F dX1_belongs_19 rfl rfl ?_
    refine g_iload_n F dX1_belongs_20 rfl rfl ?_
    refine g_aload_n F dX1_belongs_21 rfl rfl ?_
    refine gM_get_reach F dX1_belongs_22 ?_
    refine c_VI F [] (wr := []) (cM_least hM (fun z h1 h2 => by obtain ⟨k, e1, -, e3⟩ := hs2.core h1 h2; exact ⟨k, e1, e3⟩) (isPl_inR h).1 (isPl_inR h).2 hM.1.2.2.2.2.1) cwX1_X1_least ⟨by decide, by decide, rfl, rfl⟩ rfl rfl rfl rfl (Nat.le_of_ble_eq_true rfl) ⟨by decide, by decide⟩ dX1_belongs_25 (fun r u hu => ?_)
    obtain ⟨rfl, rfl⟩ := hu
    show GG (EE l D t) X 0 0 28 [(0, .ref (a 0)), (1, .int p), (2, .int q)] [.int (oI (lcs1 co2 cr2 (fun z => gapN wy (x z) (y z) p q) re))] (WM a t is x y w wy re de co2 cr2 cc2 dn cs df)
    exact E _ _ _ _ dX1_belongs_28 ⟨by unfold belongsR; rw [if_pos h]; exact ⟨co2, cr2, cc2, hs2, rfl⟩, ⟨_, _, _, _, _, _, _, _, rfl, hM⟩⟩
  · refine g_iconst F (oI none) dX1_belongs_8 (by decide) ?_
    exact E _ _ _ _ dX1_belongs_9 ⟨by unfold belongsR; rw [if_neg (by simp [h])], ⟨_, _, _, _, _, _, _, _, rfl, hM⟩⟩
set_option maxHeartbeats 4000000 in
set_option maxRecDepth 100000 in
/-- crowds -/
theorem cM_crowds {l : Launch} {D : va_G} {t : Ty3} {a : Nat → Nat} {is : Nat → Bool} {x : Nat → Int32} {y : Nat → Int32} {w : Nat → Nat} {wy : Nat} {re : Nat} {de : Nat} {co : Nat → Bool} {cr : Nat → Option Nat} {cc : Nat} {dn : Nat → Bool} {cs : Nat → Option Nat} {df : Nat → Option Nat} {v : Nat → Nat} (hM : MI v x y wy re de is w) (p : Int64) : CtI (EE l D t) yX1_crowds tsX1_crowds (RM 3 80) [.ref (a 0), .long p] (WM a t is x y w wy re de co cr cc dn cs df) 0 0 (fun r u => crowdsR v x y wy de p r ∧ MW a t (v, x, y, wy, re, de) u) := by
  refine CtI.of (by decide +kernel) rfl (Nat.le_of_ble_eq_true rfl) (fun X F E => ?_)
  show GG (EE l D t) X 0 0 0 [(0, .ref (a 0)), (1, .long p)] [] (WM a t is x y w wy re de co cr cc dn cs df)
  refine g_lload_n F dX1_crowds_0 rfl rfl ?_
  refine g_lconst F 0 dX1_crowds_1 rfl ?_
  refine g_lc_ge F 8 dX1_crowds_2 dX1_crowds_3 (by decide)  (fun h => ?_) (fun h => ?_)
  · have h9 : ¬ p < 0 := lg_le_not_lt h
    obtain ⟨m, hm, rfl⟩ := pk_lOf h9
    refine g_aload_n F dX1_crowds_8 rfl rfl ?_
    refine g_lload_n F dX1_crowds_9 rfl rfl ?_
    refine c_VV F [] (wr := []) (cM_find hM hm) cwX1_X1_find ⟨by decide, by decide, rfl, rfl⟩ rfl rfl rfl rfl (Nat.le_of_ble_eq_true rfl) ⟨by decide, by decide⟩ dX1_crowds_10 (fun u hu => ?_)
    obtain ⟨co2, cr2, cc2, rfl, hs2⟩ := hu
    show GG (EE l D t) X 0 0 13 [(0, .ref (a 0)), (1, .long (lN m))] [] (WM a t is x y w wy re de co2 cr2 cc2 dn cs df)
    refine g_aload_n F dX1_crowds_13 rfl rfl ?_
    refine gM_get_crowds F dX1_crowds_14 ?_
    exact E _ _ _ _ dX1_crowds_17 ⟨by unfold crowdsR; rw [if_neg h9, pk_lT hm]; exact ⟨co2, cr2, cc2, hs2, rfl⟩, ⟨_, _, _, _, _, _, _, _, rfl, hM⟩⟩
  · refine g_iconst F (oI none) dX1_crowds_6 (by decide) ?_
    exact E _ _ _ _ dX1_crowds_7 ⟨by unfold crowdsR; rw [if_pos (l_neg h)], ⟨_, _, _, _, _, _, _, _, rfl, hM⟩⟩
set_option maxHeartbeats 4000000 in
set_option maxRecDepth 100000 in
/-- check -/
theorem cM_check {l : Launch} {D : va_G} {t : Ty3} {a : Nat → Nat} {is : Nat → Bool} {x : Nat → Int32} {y : Nat → Int32} {w : Nat → Nat} {wy : Nat} {re : Nat} {de : Nat} {co : Nat → Bool} {cr : Nat → Option Nat} {cc : Nat} {dn : Nat → Bool} {cs : Nat → Option Nat} {df : Nat → Option Nat} {v : Nat → Nat} (hM : MI v x y wy re de is w) : CtI (EE l D t) yX1_check tsX1_check (RM 0 0) [.ref (a 0)] (WM a t is x y w wy re de co cr cc dn cs df) 0 0 (fun r u => r = nI 1 ∧ MW a t (v, x, y, wy, re, de) u) := by
  refine CtI.of (by decide +kernel) rfl (Nat.le_of_ble_eq_true rfl) (fun X F E => ?_)
  show GG (EE l D t) X 0 0 0 [(0, .ref (a 0))] [] (WM a t is x y w wy re de co cr cc dn cs df)
  refine g_iconst F (nI 1) dX1_check_0 (by decide) ?_
  exact E _ _ _ _ dX1_check_1 ⟨rfl, ⟨_, _, _, _, _, _, _, _, rfl, hM⟩⟩
set_option maxHeartbeats 4000000 in
set_option maxRecDepth 100000 in
/-- findDense -/
theorem cM_findDense {l : Launch} {D : va_G} {t : Ty3} {a : Nat → Nat} {is : Nat → Bool} {x : Nat → Int32} {y : Nat → Int32} {w : Nat → Nat} {wy : Nat} {re : Nat} {de : Nat} {co : Nat → Bool} {cr : Nat → Option Nat} {cc : Nat} {dn : Nat → Bool} {cs : Nat → Option Nat} {df : Nat → Option Nat} {v : Nat → Nat} (hM : MI v x y wy re de is w) {p : Nat} (hp : p < 120) : CtL (EE l D t) yX1_findDense tsX1_findDense (RM 2 54) [.ref (a 0), .int (nI p)] (WM a t is x y w wy re de co cr cc dn cs df) 0 0 (fun r u => u = WM a t is x y w wy re de co cr cc dn cs df ∧ ∃ o, r = oL o ∧ isDn v (gp wy x y p) de o ∧ ∀ d, o = some d → d < MX) := by
  refine CtL.of (by decide +kernel) rfl (Nat.le_of_ble_eq_true rfl) (fun X F E => ?_)
  show GG (EE l D t) X 0 0 0 [(0, .ref (a 0)), (1, .int (nI p))] [] (WM a t is x y w wy re de co cr cc dn cs df)
  refine g_ldc2 F (oL none) dX1_findDense_0 (List.mem_cons_of_mem _ mw7_15) ?_
  refine g_lstore_n (lv2 := [(0, .ref (a 0)), (1, .int (nI p)), (2, .long (oL none))]) F dX1_findDense_3 rfl (by decide) rfl ?_
  refine g_iconst F (nI 0) dX1_findDense_4 (by decide) ?_
  refine g_istore (lv2 := [(0, .ref (a 0)), (1, .int (nI p)), (2, .long (oL none)), (4, .int (nI 0))]) F dX1_findDense_5 (by decide) rfl ?_
  have hd : 1 ≤ de := hM.1.2.2.2.2.2.1
  have key : ∀ (m i : Nat) (o : Option Nat), i + m = 120 → FD v (gp wy x y p) de i o → GG (EE l D t) X 0 0 7 [(0, .ref (a 0)), (1, .int (nI p)), (2, .long (oL o)), (4, .int (nI i))] [] (WM a t is x y w wy re de co cr cc dn cs df) := by
    intro m
    induction m with
    | zero =>
      intro i o him hF
      have hi : i = 120 := by omega
      subst hi
      refine g_iload F dX1_findDense_7 rfl ?_
      refine g_bipush F (nI 120) dX1_findDense_9 (by decide) ?_
      refine g_icmp_ge_t F 86 dX1_findDense_11 (by decide) (nI_le (Nat.le_refl 120) (by decide)) ?_
      refine g_lload_n F dX1_findDense_86 rfl rfl ?_
      exact E _ _ _ _ dX1_findDense_87 ⟨rfl, o, rfl, hF.dn hd⟩
    | succ m ih =>
      intro i o him hF
      have hi : i < 120 := by omega
      refine g_iload F dX1_findDense_7 rfl ?_
      refine g_bipush F (nI 120) dX1_findDense_9 (by decide) ?_
      refine g_icmp_ge_f F 86 dX1_findDense_11 (by decide) (nI_ge hi (by decide)) ?_
      refine g_aload_n F dX1_findDense_14 rfl rfl ?_
      refine gM_get_is F dX1_findDense_15 ?_
      refine g_iload F dX1_findDense_18 rfl ?_
      refine gM_ld_is F hi dX1_findDense_20 ?_
      refine g_if_ne_b F 27 dX1_findDense_21 (by decide)  (fun h => ?_) (fun h => ?_)
      · have hv := (hM.y h).1
        refine g_aload_n F dX1_findDense_27 rfl rfl ?_
        refine g_iload_n F dX1_findDense_28 rfl rfl ?_
        refine g_aload_n F dX1_findDense_29 rfl rfl ?_
        refine gM_get_xs F dX1_findDense_30 ?_
        refine g_iload F dX1_findDense_33 rfl ?_
        refine gM_ld_xs F hi dX1_findDense_35 ?_
        refine g_i2l F dX1_findDense_36 ?_
        refine g_aload_n F dX1_findDense_37 rfl rfl ?_
        refine gM_get_ys F dX1_findDense_38 ?_
        refine g_iload F dX1_findDense_41 rfl ?_
        refine gM_ld_ys F hi dX1_findDense_43 ?_
        refine g_i2l F dX1_findDense_44 ?_
        refine c_VL F [] (wr := []) (cM_far hM.1.2.2.2.1 hp (x i) (y i)) cwX1_X1_far ⟨by decide, by decide, rfl, rfl⟩ rfl rfl rfl rfl (Nat.le_of_ble_eq_true rfl) ⟨by decide, by decide⟩ dX1_findDense_45 (fun r u hu => ?_)
        obtain ⟨rfl, rfl⟩ := hu
        show GG (EE l D t) X 0 0 48 [(0, .ref (a 0)), (1, .int (nI p)), (2, .long (oL o)), (4, .int (nI i))] [.long (lN (gapN wy (x p) (y p) (x i) (y i)))] (WM a t is x y w wy re de co cr cc dn cs df)
        refine g_topl (y := lN (gp wy x y p i)) (congrArg lN (gapN_comm _ _ _ _ _)) ?_
        refine g_lstore (lv2 := [(0, .ref (a 0)), (1, .int (nI p)), (2, .long (oL o)), (4, .int (nI i)), (5, .long (lN (gp wy x y p i)))]) F dX1_findDense_48 (by decide) rfl ?_
        cases o with
        | none =>
          refine g_lload_n F dX1_findDense_50 rfl rfl ?_
          refine g_lconst F (lN 0) dX1_findDense_51 rfl ?_
          refine g_lc_lt_o F 63 dX1_findDense_52 dX1_findDense_53 (by decide) (fun k hk => by cases hk) (fun h3 => ?_) (fun h3 => absurd rfl h3)
          refine g_aload_n F dX1_findDense_63 rfl rfl ?_
          refine g_iload_n F dX1_findDense_64 rfl rfl ?_
          refine g_lload F dX1_findDense_65 rfl ?_
          refine c_VI F [] (wr := []) (cM_weightWithin hM hp (Nat.lt_trans (gp_lt hM.1 p i) (by decide))) cwX1_X1_weightWithin ⟨by decide, by decide, rfl, rfl⟩ rfl rfl rfl rfl (Nat.le_of_ble_eq_true rfl) ⟨by decide, by decide⟩ dX1_findDense_67 (fun r u hu => ?_)
          obtain ⟨rfl, rfl⟩ := hu
          show GG (EE l D t) X 0 0 70 [(0, .ref (a 0)), (1, .int (nI p)), (2, .long (oL none)), (4, .int (nI i)), (5, .long (lN (gp wy x y p i)))] [.int (nI (ww v (gp wy x y p) (gp wy x y p i)))] (WM a t is x y w wy re de co cr cc dn cs df)
          refine g_aload_n F dX1_findDense_70 rfl rfl ?_
          refine gM_get_demand F dX1_findDense_71 ?_
          refine g_icmp_lt_n F 80 dX1_findDense_74 (by decide) (by have := sum1_le (wwf_le (g := gp wy x y p) (r := gp wy x y p i) hM.1.1); unfold ww; omega) (by have := hM.1.2.2.2.2.2; omega) (fun h5 => ?_) (fun h5 => ?_)
          · refine g_iinc (lv2 := [(0, .ref (a 0)), (1, .int (nI p)), (2, .long (oL none)), (4, .int (nI (i + 1))), (5, .long (lN (gp wy x y p i)))]) F (nI (i + 1)) dX1_findDense_80 rfl (nI_add i 1) (by decide) rfl ?_
            refine g_goto F 7 dX1_findDense_83 (by decide) ?_
            refine g_lv [0, 1, 2, 3] rfl ?_
            exact ih (i + 1) none (by omega) (hF.skip (fun _ z => absurd z (by omega)))
          · refine g_lload F dX1_findDense_77 rfl ?_
            refine g_lstore_n (lv2 := [(0, .ref (a 0)), (1, .int (nI p)), (2, .long (lN (gp wy x y p i))), (4, .int (nI i)), (5, .long (lN (gp wy x y p i)))]) F dX1_findDense_79 rfl (by decide) rfl ?_
            refine g_iinc (lv2 := [(0, .ref (a 0)), (1, .int (nI p)), (2, .long (lN (gp wy x y p i))), (4, .int (nI (i + 1))), (5, .long (lN (gp wy x y p i)))]) F (nI (i + 1)) dX1_findDense_80 rfl (nI_add i 1) (by decide) rfl ?_
            refine g_goto F 7 dX1_findDense_83 (by decide) ?_
            refine g_lv [0, 1, 2, 3] rfl ?_
            exact ih (i + 1) (some (gp wy x y p i)) (by omega) (hF.new h5 (gp_lt hM.1 p i) (fun b hb => by cases hb))
        | some b =>
          refine g_lload_n F dX1_findDense_50 rfl rfl ?_
          refine g_lconst F (lN 0) dX1_findDense_51 rfl ?_
          refine g_lc_lt_o F 63 dX1_findDense_52 dX1_findDense_53 (by decide) (fun k hk => by cases hk; exact Nat.lt_trans hF.2.1 (by decide)) (fun h3 => by cases h3) (fun h3 => ?_)
          show GG (EE l D t) X 0 0 56 [(0, .ref (a 0)), (1, .int (nI p)), (2, .long (lN b)), (4, .int (nI i)), (5, .long (lN (gp wy x y p i)))] [] (WM a t is x y w wy re de co cr cc dn cs df)
          refine g_lload F dX1_findDense_56 rfl ?_
          refine g_lload_n F dX1_findDense_58 rfl rfl ?_
          refine g_lc_ge_n F 80 dX1_findDense_59 dX1_findDense_60 (by decide) (Nat.lt_trans (gp_lt hM.1 p i) (by decide)) (Nat.lt_trans hF.2.1 (by decide)) (fun h4 => ?_) (fun h4 => ?_)
          · refine g_iinc (lv2 := [(0, .ref (a 0)), (1, .int (nI p)), (2, .long (lN b)), (4, .int (nI (i + 1))), (5, .long (lN (gp wy x y p i)))]) F (nI (i + 1)) dX1_findDense_80 rfl (nI_add i 1) (by decide) rfl ?_
            refine g_goto F 7 dX1_findDense_83 (by decide) ?_
            refine g_lv [0, 1, 2, 3] rfl ?_
            exact ih (i + 1) (some b) (by omega) (hF.skip (fun _ _ => ⟨b, rfl, h4⟩))
          · refine g_aload_n F dX1_findDense_63 rfl rfl ?_
            refine g_iload_n F dX1_findDense_64 rfl rfl ?_
            refine g_lload F dX1_findDense_65 rfl ?_
            refine c_VI F [] (wr := []) (cM_weightWithin hM hp (Nat.lt_trans (gp_lt hM.1 p i) (by decide))) cwX1_X1_weightWithin ⟨by decide, by decide, rfl, rfl⟩ rfl rfl rfl rfl (Nat.le_of_ble_eq_true rfl) ⟨by decide, by decide⟩ dX1_findDense_67 (fun r u hu => ?_)
            obtain ⟨rfl, rfl⟩ := hu
            show GG (EE l D t) X 0 0 70 [(0, .ref (a 0)), (1, .int (nI p)), (2, .long (lN b)), (4, .int (nI i)), (5, .long (lN (gp wy x y p i)))] [.int (nI (ww v (gp wy x y p) (gp wy x y p i)))] (WM a t is x y w wy re de co cr cc dn cs df)
            refine g_aload_n F dX1_findDense_70 rfl rfl ?_
            refine gM_get_demand F dX1_findDense_71 ?_
            refine g_icmp_lt_n F 80 dX1_findDense_74 (by decide) (by have := sum1_le (wwf_le (g := gp wy x y p) (r := gp wy x y p i) hM.1.1); unfold ww; omega) (by have := hM.1.2.2.2.2.2; omega) (fun h5 => ?_) (fun h5 => ?_)
            · refine g_iinc (lv2 := [(0, .ref (a 0)), (1, .int (nI p)), (2, .long (lN b)), (4, .int (nI (i + 1))), (5, .long (lN (gp wy x y p i)))]) F (nI (i + 1)) dX1_findDense_80 rfl (nI_add i 1) (by decide) rfl ?_
              refine g_goto F 7 dX1_findDense_83 (by decide) ?_
              refine g_lv [0, 1, 2, 3] rfl ?_
              exact ih (i + 1) (some b) (by omega) (hF.skip (fun _ z => absurd z (by omega)))
            · refine g_lload F dX1_findDense_77 rfl ?_
              refine g_lstore_n (lv2 := [(0, .ref (a 0)), (1, .int (nI p)), (2, .long (lN (gp wy x y p i))), (4, .int (nI i)), (5, .long (lN (gp wy x y p i)))]) F dX1_findDense_79 rfl (by decide) rfl ?_
              refine g_iinc (lv2 := [(0, .ref (a 0)), (1, .int (nI p)), (2, .long (lN (gp wy x y p i))), (4, .int (nI (i + 1))), (5, .long (lN (gp wy x y p i)))]) F (nI (i + 1)) dX1_findDense_80 rfl (nI_add i 1) (by decide) rfl ?_
              refine g_goto F 7 dX1_findDense_83 (by decide) ?_
              refine g_lv [0, 1, 2, 3] rfl ?_
              exact ih (i + 1) (some (gp wy x y p i)) (by omega) (hF.new h5 (gp_lt hM.1 p i) (fun b2 hb => by cases hb; exact h4))
      · refine g_goto F 80 dX1_findDense_24 (by decide) ?_
        refine g_iinc (lv2 := [(0, .ref (a 0)), (1, .int (nI p)), (2, .long (oL o)), (4, .int (nI (i + 1)))]) F (nI (i + 1)) dX1_findDense_80 rfl (nI_add i 1) (by decide) rfl ?_
        refine g_goto F 7 dX1_findDense_83 (by decide) ?_
        exact ih (i + 1) o (by omega) (hF.skip (fun z => absurd z (by have := hM.n h; omega)))
  exact key 120 0 none rfl (fun q hq => absurd hq (by omega))
set_option maxHeartbeats 4000000 in
set_option maxRecDepth 100000 in
/-- dense -/
theorem cM_dense {l : Launch} {D : va_G} {t : Ty3} {a : Nat → Nat} {is : Nat → Bool} {x : Nat → Int32} {y : Nat → Int32} {w : Nat → Nat} {wy : Nat} {re : Nat} {de : Nat} {co : Nat → Bool} {cr : Nat → Option Nat} {cc : Nat} {dn : Nat → Bool} {cs : Nat → Option Nat} {df : Nat → Option Nat} {v : Nat → Nat} (hM : MI v x y wy re de is w) (p : Int32) : CtL (EE l D t) yX1_dense tsX1_dense (RM 3 80) [.ref (a 0), .int p] (WM a t is x y w wy re de co cr cc dn cs df) 0 0 (fun r u => denseR v x y wy de p r ∧ MW a t (v, x, y, wy, re, de) u) := by
  refine CtL.of (by decide +kernel) rfl (Nat.le_of_ble_eq_true rfl) (fun X F E => ?_)
  show GG (EE l D t) X 0 0 0 [(0, .ref (a 0)), (1, .int p)] [] (WM a t is x y w wy re de co cr cc dn cs df)
  refine g_aload_n F dX1_dense_0 rfl rfl ?_
  refine g_iload_n F dX1_dense_1 rfl rfl ?_
  refine c_VI F [] (wr := []) (cM_isPoint p) cwX1_X1_isPoint ⟨by decide, by decide, rfl, rfl⟩ rfl rfl rfl rfl (Nat.le_of_ble_eq_true rfl) ⟨by decide, by decide⟩ dX1_dense_2 (fun r u hu => ?_)
  obtain ⟨rfl, rfl⟩ := hu
  show GG (EE l D t) X 0 0 5 [(0, .ref (a 0)), (1, .int p)] [.int (b2 (isPt is p))] (WM a t is x y w wy re de co cr cc dn cs df)
  refine g_if_eq_b F 16 dX1_dense_5 (by decide)  (fun h => ?_) (fun h => ?_)
  · rw [hM.isv] at h
    refine g_ldc2 F (oL none) dX1_dense_16 (List.mem_cons_of_mem _ mw7_15) ?_
    exact E _ _ _ _ dX1_dense_19 ⟨by unfold denseR; rw [pt_f h], ⟨_, _, _, _, _, _, _, _, rfl, hM⟩⟩
  · obtain ⟨j, hj, rfl, hsj⟩ := isPt_t h
    have hwj : 0 < v j := (hM.y hsj).1
    refine g_aload_n F dX1_dense_8 rfl rfl ?_
    refine g_iload_n F dX1_dense_9 rfl rfl ?_
    refine c_VL F [] (wr := []) (cM_findDense hM hj) cwX1_X1_findDense ⟨by decide, by decide, rfl, rfl⟩ rfl rfl rfl rfl (Nat.le_of_ble_eq_true rfl) ⟨by decide, by decide⟩ dX1_dense_10 (fun r u hu => ?_)
    obtain ⟨rfl, o, rfl, ho1, ho2⟩ := hu
    show GG (EE l D t) X 0 0 13 [(0, .ref (a 0)), (1, .int (nI j))] [.long (oL o)] (WM a t is x y w wy re de co cr cc dn cs df)
    refine g_goto F 19 dX1_dense_13 (by decide) ?_
    exact E _ _ _ _ dX1_dense_19 ⟨by unfold denseR; rw [pt_nI hj hwj]; exact ⟨o, ho1, rfl⟩, ⟨_, _, _, _, _, _, _, _, rfl, hM⟩⟩
set_option maxHeartbeats 4000000 in
set_option maxRecDepth 100000 in
/-- greater -/
theorem cM_greater {l : Launch} {D : va_G} {t : Ty3} {a : Nat → Nat} {is : Nat → Bool} {x : Nat → Int32} {y : Nat → Int32} {w : Nat → Nat} {wy : Nat} {re : Nat} {de : Nat} {co : Nat → Bool} {cr : Nat → Option Nat} {cc : Nat} {dn : Nat → Bool} {cs : Nat → Option Nat} {df : Nat → Option Nat} {p q : Nat} (hp : p < 2 ^ 63) (hq : q < 2 ^ 63) : CtL (EE l D t) yX1_greater tsX1_greater (RM 0 0) [.long (lN p), .long (lN q)] (WM a t is x y w wy re de co cr cc dn cs df) 0 0 (fun r u => u = WM a t is x y w wy re de co cr cc dn cs df ∧ r = lN (max p q)) := by
  refine CtL.of (by decide +kernel) rfl (Nat.le_of_ble_eq_true rfl) (fun X F E => ?_)
  show GG (EE l D t) X 0 0 0 [(0, .long (lN p)), (2, .long (lN q))] [] (WM a t is x y w wy re de co cr cc dn cs df)
  refine g_lload_n F dX1_greater_0 rfl rfl ?_
  refine g_lload_n F dX1_greater_1 rfl rfl ?_
  refine g_lc_le_n F 10 dX1_greater_2 dX1_greater_3 (by decide) hp hq (fun h => ?_) (fun h => ?_)
  · refine g_lload_n F dX1_greater_10 rfl rfl ?_
    exact E _ _ _ _ dX1_greater_11 ⟨rfl, by rw [Nat.max_eq_right h]⟩
  · refine g_lload_n F dX1_greater_6 rfl rfl ?_
    refine g_goto F 11 dX1_greater_7 (by decide) ?_
    exact E _ _ _ _ dX1_greater_11 ⟨rfl, by rw [Nat.max_eq_left (Nat.le_of_lt h)]⟩
set_option maxHeartbeats 4000000 in
set_option maxRecDepth 100000 in
/-- count -/
theorem cM_count {l : Launch} {D : va_G} {t : Ty3} {a : Nat → Nat} {is : Nat → Bool} {x : Nat → Int32} {y : Nat → Int32} {w : Nat → Nat} {wy : Nat} {re : Nat} {de : Nat} {co : Nat → Bool} {cr : Nat → Option Nat} {cc : Nat} {dn : Nat → Bool} {cs : Nat → Option Nat} {df : Nat → Option Nat} {v : Nat → Nat} (hM : MI v x y wy re de is w) (p : Int32) : CtI (EE l D t) yX1_count tsX1_count (RM 3 80) [.ref (a 0), .int p] (WM a t is x y w wy re de co cr cc dn cs df) 0 0 (fun r u => countR v x y wy re de p r ∧ MW a t (v, x, y, wy, re, de) u) := by
  refine CtI.of (by decide +kernel) rfl (Nat.le_of_ble_eq_true rfl) (fun X F E => ?_)
  show GG (EE l D t) X 0 0 0 [(0, .ref (a 0)), (1, .int p)] [] (WM a t is x y w wy re de co cr cc dn cs df)
  refine g_iload_n F dX1_count_0 rfl rfl ?_
  refine g_if_lt F 9 dX1_count_1 (by decide)  (fun h => ?_) (fun h => ?_)
  · obtain ⟨co2, cr2, cc2, hs2⟩ := Srt_ex v x y wy re de
    refine g_iconst F (oI none) dX1_count_9 (by decide) ?_
    exact E _ _ _ _ dX1_count_10 ⟨⟨co2, cr2, cc2, hs2, by unfold countF; rw [if_neg (fun z => absurd h (by rw [z]; decide)), if_neg (fun z => absurd h (by rw [z]; decide)), if_neg (fun z => absurd h (by rw [z]; decide)), if_neg (fun z => absurd h (by rw [z]; decide)), if_neg (fun z => absurd h (by rw [z]; decide)), if_neg (fun z => absurd h (by rw [z]; decide))]⟩, ⟨_, _, _, _, _, _, _, _, rfl, hM⟩⟩
  · refine g_iload_n F dX1_count_4 rfl rfl ?_
    refine g_iconst F 5 dX1_count_5 (by decide) ?_
    refine g_icmp_le F 11 dX1_count_6 (by decide)  (fun h2 => ?_) (fun h2 => ?_)
    · obtain ⟨k, hk1, hk2, rfl⟩ := i32_of (m := 0) (n := 5) h h2 (by decide) (by decide)
      refine g_aload_n F dX1_count_11 rfl rfl ?_
      refine g_aload_n F dX1_count_12 rfl rfl ?_
      refine gM_get_reach F dX1_count_13 ?_
      refine c_VV F [] (wr := []) (cM_find hM hM.1.2.2.2.2.1) cwX1_X1_find ⟨by decide, by decide, rfl, rfl⟩ rfl rfl rfl rfl (Nat.le_of_ble_eq_true rfl) ⟨by decide, by decide⟩ dX1_count_16 (fun u hu => ?_)
      obtain ⟨co2, cr2, cc2, rfl, hs2⟩ := hu
      show GG (EE l D t) X 0 0 19 [(0, .ref (a 0)), (1, .int (nI k))] [] (WM a t is x y w wy re de co2 cr2 cc2 dn cs df)
      refine g_iconst F (nI 0) dX1_count_19 (by decide) ?_
      refine g_istore_n (lv2 := [(0, .ref (a 0)), (1, .int (nI k)), (2, .int (nI 0))]) F dX1_count_20 rfl (by decide) rfl ?_
      refine g_iconst F (nI 0) dX1_count_21 (by decide) ?_
      refine g_istore_n (lv2 := [(0, .ref (a 0)), (1, .int (nI k)), (2, .int (nI 0)), (3, .int (nI 0))]) F dX1_count_22 rfl (by decide) rfl ?_
      refine g_iconst F (nI 0) dX1_count_23 (by decide) ?_
      refine g_istore (lv2 := [(0, .ref (a 0)), (1, .int (nI k)), (2, .int (nI 0)), (3, .int (nI 0)), (4, .int (nI 0))]) F dX1_count_24 (by decide) rfl ?_
      refine g_iconst F (nI 0) dX1_count_26 (by decide) ?_
      refine g_istore (lv2 := [(0, .ref (a 0)), (1, .int (nI k)), (2, .int (nI 0)), (3, .int (nI 0)), (4, .int (nI 0)), (5, .int (nI 0))]) F dX1_count_27 (by decide) rfl ?_
      refine up_loop (P := fun i => GG (EE l D t) X 0 0 29 [(0, .ref (a 0)), (1, .int (nI k)), (2, .int (nI (sumN (fun p => if 0 < v p ∧ knd co2 cr2 p = 2 then 1 else 0) i))), (3, .int (nI (sumN (fun p => if 0 < v p ∧ knd co2 cr2 p = 1 then 1 else 0) i))), (4, .int (nI (sumN v i))), (5, .int (nI i))] [] (WM a t is x y w wy re de co2 cr2 cc2 dn cs df)) 120 ?_ (fun i hi ih => ?_)
      · show GG (EE l D t) X 0 0 29 [(0, .ref (a 0)), (1, .int (nI k)), (2, .int (nI (sumN (fun p => if 0 < v p ∧ knd co2 cr2 p = 2 then 1 else 0) 120))), (3, .int (nI (sumN (fun p => if 0 < v p ∧ knd co2 cr2 p = 1 then 1 else 0) 120))), (4, .int (nI (sumN v 120))), (5, .int (nI 120))] [] (WM a t is x y w wy re de co2 cr2 cc2 dn cs df)
        refine g_iload F dX1_count_29 rfl ?_
        refine g_bipush F (nI 120) dX1_count_31 (by decide) ?_
        refine g_icmp_ge_t F 113 dX1_count_33 (by decide) (nI_le (Nat.le_refl 120) (by decide)) ?_
        rcases (show k = 0 ∨ k = 1 ∨ k = 2 ∨ k = 3 ∨ k = 4 ∨ k = 5 by omega) with rfl | rfl | rfl | rfl | rfl | rfl
        · refine g_iload_n F dX1_count_113 rfl rfl ?_
          refine g_if_ne_f F 124 dX1_count_114 (by decide) (by decide) ?_
          refine g_aload_n F dX1_count_117 rfl rfl ?_
          refine gM_get_crowds F dX1_count_118 ?_
          refine g_goto F 172 dX1_count_121 (by decide) ?_
          exact E _ _ _ _ dX1_count_172 ⟨⟨co2, cr2, cc2, hs2, by unfold countF; rw [if_pos rfl]⟩, ⟨_, _, _, _, _, _, _, _, rfl, hM⟩⟩
        · refine g_iload_n F dX1_count_113 rfl rfl ?_
          refine g_if_ne_t F 124 dX1_count_114 (by decide) (by decide) ?_
          refine g_iload_n F dX1_count_124 rfl rfl ?_
          refine g_iconst F (nI 1) dX1_count_125 (by decide) ?_
          refine g_icmp_ne_f F 133 dX1_count_126 (by decide) rfl ?_
          refine g_iload_n F dX1_count_129 rfl rfl ?_
          refine g_goto F 172 dX1_count_130 (by decide) ?_
          exact E _ _ _ _ dX1_count_172 ⟨⟨co2, cr2, cc2, hs2, by unfold countF; rw [if_neg (by decide), if_pos rfl]; unfold cntK; rw [sum1_eq]⟩, ⟨_, _, _, _, _, _, _, _, rfl, hM⟩⟩
        · refine g_iload_n F dX1_count_113 rfl rfl ?_
          refine g_if_ne_t F 124 dX1_count_114 (by decide) (by decide) ?_
          refine g_iload_n F dX1_count_124 rfl rfl ?_
          refine g_iconst F (nI 1) dX1_count_125 (by decide) ?_
          refine g_icmp_ne_t F 133 dX1_count_126 (by decide) (by decide) ?_
          refine g_iload_n F dX1_count_133 rfl rfl ?_
          refine g_iconst F (nI 2) dX1_count_134 (by decide) ?_
          refine g_icmp_ne_f F 142 dX1_count_135 (by decide) rfl ?_
          refine g_iload_n F dX1_count_138 rfl rfl ?_
          refine g_goto F 172 dX1_count_139 (by decide) ?_
          exact E _ _ _ _ dX1_count_172 ⟨⟨co2, cr2, cc2, hs2, by unfold countF; rw [if_neg (by decide), if_neg (by decide), if_pos rfl]; unfold cntK; rw [sum1_eq]⟩, ⟨_, _, _, _, _, _, _, _, rfl, hM⟩⟩
        · refine g_iload_n F dX1_count_113 rfl rfl ?_
          refine g_if_ne_t F 124 dX1_count_114 (by decide) (by decide) ?_
          refine g_iload_n F dX1_count_124 rfl rfl ?_
          refine g_iconst F (nI 1) dX1_count_125 (by decide) ?_
          refine g_icmp_ne_t F 133 dX1_count_126 (by decide) (by decide) ?_
          refine g_iload_n F dX1_count_133 rfl rfl ?_
          refine g_iconst F (nI 2) dX1_count_134 (by decide) ?_
          refine g_icmp_ne_t F 142 dX1_count_135 (by decide) (by decide) ?_
          refine g_iload_n F dX1_count_142 rfl rfl ?_
          refine g_iconst F (nI 3) dX1_count_143 (by decide) ?_
          refine g_icmp_ne_f F 158 dX1_count_144 (by decide) rfl ?_
          have hP : sum1 (fun j => if is j = true then 1 else 0) = sum1 (fun j => if 0 < v j then 1 else 0) := sum1_congr (fun j _ => by
            rw [(hM.2 j).1]
            by_cases c : 0 < v j
            · rw [if_pos (decide_eq_true c), if_pos c]
            · rw [if_neg (by simp; omega), if_neg c])
          refine g_aload_n F dX1_count_147 rfl rfl ?_
          refine c_VI F [] (wr := []) cM_points cwX1_X1_points ⟨by decide, by decide, rfl, rfl⟩ rfl rfl rfl rfl (Nat.le_of_ble_eq_true rfl) ⟨by decide, by decide⟩ dX1_count_148 (fun r u hu => ?_)
          obtain ⟨rfl, rfl⟩ := hu
          show GG (EE l D t) X 0 0 151 [(0, .ref (a 0)), (1, .int (nI 3)), (2, .int (nI (sumN (fun p => if 0 < v p ∧ knd co2 cr2 p = 2 then 1 else 0) 120))), (3, .int (nI (sumN (fun p => if 0 < v p ∧ knd co2 cr2 p = 1 then 1 else 0) 120))), (4, .int (nI (sumN v 120))), (5, .int (nI 120))] [.int (nI (sum1 (fun j => if is j = true then 1 else 0)))] (WM a t is x y w wy re de co2 cr2 cc2 dn cs df)
          have hS := knd_sum (w := v) (co := co2) (cr := cr2) 120
          rw [← sum1_eq, ← hP] at hS
          refine g_iload_n F dX1_count_151 rfl rfl ?_
          refine g_isub_n F dX1_count_152 (by omega) ?_
          refine g_iload_n F dX1_count_153 rfl rfl ?_
          refine g_isub_n F dX1_count_154 (by omega) ?_
          refine g_goto F 172 dX1_count_155 (by decide) ?_
          exact E _ _ _ _ dX1_count_172 ⟨⟨co2, cr2, cc2, hs2, by unfold countF; rw [if_neg (by decide), if_neg (by decide), if_neg (by decide), if_pos rfl]; unfold cntK; rw [sum1_eq (fun p => if 0 < v p ∧ knd co2 cr2 p = 0 then 1 else 0)]; exact congrArg nI (by omega)⟩, ⟨_, _, _, _, _, _, _, _, rfl, hM⟩⟩
        · refine g_iload_n F dX1_count_113 rfl rfl ?_
          refine g_if_ne_t F 124 dX1_count_114 (by decide) (by decide) ?_
          refine g_iload_n F dX1_count_124 rfl rfl ?_
          refine g_iconst F (nI 1) dX1_count_125 (by decide) ?_
          refine g_icmp_ne_t F 133 dX1_count_126 (by decide) (by decide) ?_
          refine g_iload_n F dX1_count_133 rfl rfl ?_
          refine g_iconst F (nI 2) dX1_count_134 (by decide) ?_
          refine g_icmp_ne_t F 142 dX1_count_135 (by decide) (by decide) ?_
          refine g_iload_n F dX1_count_142 rfl rfl ?_
          refine g_iconst F (nI 3) dX1_count_143 (by decide) ?_
          refine g_icmp_ne_t F 158 dX1_count_144 (by decide) (by decide) ?_
          refine g_iload_n F dX1_count_158 rfl rfl ?_
          refine g_iconst F (nI 4) dX1_count_159 (by decide) ?_
          refine g_icmp_ne_f F 170 dX1_count_160 (by decide) rfl ?_
          have hP : sum1 (fun j => if is j = true then 1 else 0) = sum1 (fun j => if 0 < v j then 1 else 0) := sum1_congr (fun j _ => by
            rw [(hM.2 j).1]
            by_cases c : 0 < v j
            · rw [if_pos (decide_eq_true c), if_pos c]
            · rw [if_neg (by simp; omega), if_neg c])
          refine g_aload_n F dX1_count_163 rfl rfl ?_
          refine c_VI F [] (wr := []) cM_points cwX1_X1_points ⟨by decide, by decide, rfl, rfl⟩ rfl rfl rfl rfl (Nat.le_of_ble_eq_true rfl) ⟨by decide, by decide⟩ dX1_count_164 (fun r u hu => ?_)
          obtain ⟨rfl, rfl⟩ := hu
          show GG (EE l D t) X 0 0 167 [(0, .ref (a 0)), (1, .int (nI 4)), (2, .int (nI (sumN (fun p => if 0 < v p ∧ knd co2 cr2 p = 2 then 1 else 0) 120))), (3, .int (nI (sumN (fun p => if 0 < v p ∧ knd co2 cr2 p = 1 then 1 else 0) 120))), (4, .int (nI (sumN v 120))), (5, .int (nI 120))] [.int (nI (sum1 (fun j => if is j = true then 1 else 0)))] (WM a t is x y w wy re de co2 cr2 cc2 dn cs df)
          refine g_goto F 172 dX1_count_167 (by decide) ?_
          exact E _ _ _ _ dX1_count_172 ⟨⟨co2, cr2, cc2, hs2, by unfold countF; rw [if_neg (by decide), if_neg (by decide), if_neg (by decide), if_neg (by decide), if_pos rfl]; rw [hP]⟩, ⟨_, _, _, _, _, _, _, _, rfl, hM⟩⟩
        · refine g_iload_n F dX1_count_113 rfl rfl ?_
          refine g_if_ne_t F 124 dX1_count_114 (by decide) (by decide) ?_
          refine g_iload_n F dX1_count_124 rfl rfl ?_
          refine g_iconst F (nI 1) dX1_count_125 (by decide) ?_
          refine g_icmp_ne_t F 133 dX1_count_126 (by decide) (by decide) ?_
          refine g_iload_n F dX1_count_133 rfl rfl ?_
          refine g_iconst F (nI 2) dX1_count_134 (by decide) ?_
          refine g_icmp_ne_t F 142 dX1_count_135 (by decide) (by decide) ?_
          refine g_iload_n F dX1_count_142 rfl rfl ?_
          refine g_iconst F (nI 3) dX1_count_143 (by decide) ?_
          refine g_icmp_ne_t F 158 dX1_count_144 (by decide) (by decide) ?_
          refine g_iload_n F dX1_count_158 rfl rfl ?_
          refine g_iconst F (nI 4) dX1_count_159 (by decide) ?_
          refine g_icmp_ne_t F 170 dX1_count_160 (by decide) (by decide) ?_
          refine g_iload F dX1_count_170 rfl ?_
          exact E _ _ _ _ dX1_count_172 ⟨⟨co2, cr2, cc2, hs2, by unfold countF; rw [if_neg (by decide), if_neg (by decide), if_neg (by decide), if_neg (by decide), if_neg (by decide), if_pos rfl]; rw [sum1_eq]⟩, ⟨_, _, _, _, _, _, _, _, rfl, hM⟩⟩
      · show GG (EE l D t) X 0 0 29 [(0, .ref (a 0)), (1, .int (nI k)), (2, .int (nI (sumN (fun p => if 0 < v p ∧ knd co2 cr2 p = 2 then 1 else 0) i))), (3, .int (nI (sumN (fun p => if 0 < v p ∧ knd co2 cr2 p = 1 then 1 else 0) i))), (4, .int (nI (sumN v i))), (5, .int (nI i))] [] (WM a t is x y w wy re de co2 cr2 cc2 dn cs df)
        refine g_iload F dX1_count_29 rfl ?_
        refine g_bipush F (nI 120) dX1_count_31 (by decide) ?_
        refine g_icmp_ge_f F 113 dX1_count_33 (by decide) (nI_ge hi (by decide)) ?_
        refine g_aload_n F dX1_count_36 rfl rfl ?_
        refine gM_get_is F dX1_count_37 ?_
        refine g_iload F dX1_count_40 rfl ?_
        refine gM_ld_is F hi dX1_count_42 ?_
        refine g_if_ne_b F 49 dX1_count_43 (by decide)  (fun h3 => ?_) (fun h3 => ?_)
        · obtain ⟨hv, hwv⟩ := hM.y h3
          refine g_iload_n F dX1_count_49 rfl rfl ?_
          refine g_aload_n F dX1_count_50 rfl rfl ?_
          refine gM_get_core F dX1_count_51 ?_
          refine g_iload F dX1_count_54 rfl ?_
          refine gM_ld_core F hi dX1_count_56 ?_
          refine g_if_eq_b F 64 dX1_count_57 (by decide)  (fun h4 => ?_) (fun h4 => ?_)
          · refine g_iconst F (nI 0) dX1_count_64 (by decide) ?_
            refine g_iadd_n F dX1_count_65 ?_
            refine g_istore_n (lv2 := [(0, .ref (a 0)), (1, .int (nI k)), (2, .int (nI ((sumN (fun p => if 0 < v p ∧ knd co2 cr2 p = 2 then 1 else 0) i) + 0))), (3, .int (nI (sumN (fun p => if 0 < v p ∧ knd co2 cr2 p = 1 then 1 else 0) i))), (4, .int (nI (sumN v i))), (5, .int (nI i))]) F dX1_count_66 rfl (by decide) rfl ?_
            refine g_iload_n F dX1_count_67 rfl rfl ?_
            refine g_aload_n F dX1_count_68 rfl rfl ?_
            refine gM_get_core F dX1_count_69 ?_
            refine g_iload F dX1_count_72 rfl ?_
            refine gM_ld_core F hi dX1_count_74 ?_
            refine g_if_ne_b F 92 dX1_count_75 (by decide)  (fun h5 => ?_) (fun h5 => ?_)
            · exact absurd (h4.symm.trans h5) (by decide)
            · refine g_aload_n F dX1_count_78 rfl rfl ?_
              refine gM_get_crowdOf F dX1_count_79 ?_
              refine g_iload F dX1_count_82 rfl ?_
              refine gM_ld_crowdOf F hi dX1_count_84 ?_
              refine g_if_lt_o F 92 dX1_count_85 (by decide) (hs2.bd31 hi) (fun h6 => ?_) (fun h6 => ?_)
              · refine g_iconst F (nI 0) dX1_count_92 (by decide) ?_
                refine g_iadd_n F dX1_count_93 ?_
                refine g_istore_n (lv2 := [(0, .ref (a 0)), (1, .int (nI k)), (2, .int (nI ((sumN (fun p => if 0 < v p ∧ knd co2 cr2 p = 2 then 1 else 0) i) + 0))), (3, .int (nI ((sumN (fun p => if 0 < v p ∧ knd co2 cr2 p = 1 then 1 else 0) i) + 0))), (4, .int (nI (sumN v i))), (5, .int (nI i))]) F dX1_count_94 rfl (by decide) rfl ?_
                refine g_iload F dX1_count_95 rfl ?_
                refine g_aload_n F dX1_count_97 rfl rfl ?_
                refine gM_get_weights F dX1_count_98 ?_
                refine g_iload F dX1_count_101 rfl ?_
                refine gM_ld_weights F hi dX1_count_103 ?_
                refine g_topi (y := nI (v i)) (congrArg nI hwv) ?_
                have hk : knd co2 cr2 i = 0 := by unfold knd; rw [if_neg (by simp [h4]), if_pos h6]
                refine g_iadd_n F dX1_count_104 ?_
                refine g_istore (lv2 := [(0, .ref (a 0)), (1, .int (nI k)), (2, .int (nI ((sumN (fun p => if 0 < v p ∧ knd co2 cr2 p = 2 then 1 else 0) i) + 0))), (3, .int (nI ((sumN (fun p => if 0 < v p ∧ knd co2 cr2 p = 1 then 1 else 0) i) + 0))), (4, .int (nI ((sumN v i) + (v i)))), (5, .int (nI i))]) F dX1_count_105 (by decide) rfl ?_
                refine g_iinc (lv2 := [(0, .ref (a 0)), (1, .int (nI k)), (2, .int (nI ((sumN (fun p => if 0 < v p ∧ knd co2 cr2 p = 2 then 1 else 0) i) + 0))), (3, .int (nI ((sumN (fun p => if 0 < v p ∧ knd co2 cr2 p = 1 then 1 else 0) i) + 0))), (4, .int (nI ((sumN v i) + (v i)))), (5, .int (nI (i + 1)))]) F (nI (i + 1)) dX1_count_107 rfl (nI_add i 1) (by decide) rfl ?_
                refine g_goto F 29 dX1_count_110 (by decide) ?_
                rw [sumN_z (f := (fun p => if 0 < v p ∧ knd co2 cr2 p = 2 then 1 else 0)) (n := i) (c := 0 < v i ∧ knd co2 cr2 i = 2) (v := 1) rfl (by omega), sumN_z (f := (fun p => if 0 < v p ∧ knd co2 cr2 p = 1 then 1 else 0)) (n := i) (c := 0 < v i ∧ knd co2 cr2 i = 1) (v := 1) rfl (by omega)] at ih
                exact ih
              · refine g_iconst F (nI 1) dX1_count_88 (by decide) ?_
                refine g_goto F 93 dX1_count_89 (by decide) ?_
                refine g_iadd_n F dX1_count_93 ?_
                refine g_istore_n (lv2 := [(0, .ref (a 0)), (1, .int (nI k)), (2, .int (nI ((sumN (fun p => if 0 < v p ∧ knd co2 cr2 p = 2 then 1 else 0) i) + 0))), (3, .int (nI ((sumN (fun p => if 0 < v p ∧ knd co2 cr2 p = 1 then 1 else 0) i) + 1))), (4, .int (nI (sumN v i))), (5, .int (nI i))]) F dX1_count_94 rfl (by decide) rfl ?_
                refine g_iload F dX1_count_95 rfl ?_
                refine g_aload_n F dX1_count_97 rfl rfl ?_
                refine gM_get_weights F dX1_count_98 ?_
                refine g_iload F dX1_count_101 rfl ?_
                refine gM_ld_weights F hi dX1_count_103 ?_
                refine g_topi (y := nI (v i)) (congrArg nI hwv) ?_
                have hk : knd co2 cr2 i = 1 := by unfold knd; rw [if_neg (by simp [h4]), if_neg h6]
                refine g_iadd_n F dX1_count_104 ?_
                refine g_istore (lv2 := [(0, .ref (a 0)), (1, .int (nI k)), (2, .int (nI ((sumN (fun p => if 0 < v p ∧ knd co2 cr2 p = 2 then 1 else 0) i) + 0))), (3, .int (nI ((sumN (fun p => if 0 < v p ∧ knd co2 cr2 p = 1 then 1 else 0) i) + 1))), (4, .int (nI ((sumN v i) + (v i)))), (5, .int (nI i))]) F dX1_count_105 (by decide) rfl ?_
                refine g_iinc (lv2 := [(0, .ref (a 0)), (1, .int (nI k)), (2, .int (nI ((sumN (fun p => if 0 < v p ∧ knd co2 cr2 p = 2 then 1 else 0) i) + 0))), (3, .int (nI ((sumN (fun p => if 0 < v p ∧ knd co2 cr2 p = 1 then 1 else 0) i) + 1))), (4, .int (nI ((sumN v i) + (v i)))), (5, .int (nI (i + 1)))]) F (nI (i + 1)) dX1_count_107 rfl (nI_add i 1) (by decide) rfl ?_
                refine g_goto F 29 dX1_count_110 (by decide) ?_
                rw [sumN_z (f := (fun p => if 0 < v p ∧ knd co2 cr2 p = 2 then 1 else 0)) (n := i) (c := 0 < v i ∧ knd co2 cr2 i = 2) (v := 1) rfl (by omega), sumN_c (f := (fun p => if 0 < v p ∧ knd co2 cr2 p = 1 then 1 else 0)) (n := i) (c := 0 < v i ∧ knd co2 cr2 i = 1) (v := 1) rfl ⟨hv, hk⟩] at ih
                exact ih
          · refine g_iconst F (nI 1) dX1_count_60 (by decide) ?_
            refine g_goto F 65 dX1_count_61 (by decide) ?_
            refine g_iadd_n F dX1_count_65 ?_
            refine g_istore_n (lv2 := [(0, .ref (a 0)), (1, .int (nI k)), (2, .int (nI ((sumN (fun p => if 0 < v p ∧ knd co2 cr2 p = 2 then 1 else 0) i) + 1))), (3, .int (nI (sumN (fun p => if 0 < v p ∧ knd co2 cr2 p = 1 then 1 else 0) i))), (4, .int (nI (sumN v i))), (5, .int (nI i))]) F dX1_count_66 rfl (by decide) rfl ?_
            refine g_iload_n F dX1_count_67 rfl rfl ?_
            refine g_aload_n F dX1_count_68 rfl rfl ?_
            refine gM_get_core F dX1_count_69 ?_
            refine g_iload F dX1_count_72 rfl ?_
            refine gM_ld_core F hi dX1_count_74 ?_
            refine g_if_ne_b F 92 dX1_count_75 (by decide)  (fun h5 => ?_) (fun h5 => ?_)
            · refine g_iconst F (nI 0) dX1_count_92 (by decide) ?_
              refine g_iadd_n F dX1_count_93 ?_
              refine g_istore_n (lv2 := [(0, .ref (a 0)), (1, .int (nI k)), (2, .int (nI ((sumN (fun p => if 0 < v p ∧ knd co2 cr2 p = 2 then 1 else 0) i) + 1))), (3, .int (nI ((sumN (fun p => if 0 < v p ∧ knd co2 cr2 p = 1 then 1 else 0) i) + 0))), (4, .int (nI (sumN v i))), (5, .int (nI i))]) F dX1_count_94 rfl (by decide) rfl ?_
              refine g_iload F dX1_count_95 rfl ?_
              refine g_aload_n F dX1_count_97 rfl rfl ?_
              refine gM_get_weights F dX1_count_98 ?_
              refine g_iload F dX1_count_101 rfl ?_
              refine gM_ld_weights F hi dX1_count_103 ?_
              refine g_topi (y := nI (v i)) (congrArg nI hwv) ?_
              have hk : knd co2 cr2 i = 2 := by unfold knd; rw [if_pos h4]
              refine g_iadd_n F dX1_count_104 ?_
              refine g_istore (lv2 := [(0, .ref (a 0)), (1, .int (nI k)), (2, .int (nI ((sumN (fun p => if 0 < v p ∧ knd co2 cr2 p = 2 then 1 else 0) i) + 1))), (3, .int (nI ((sumN (fun p => if 0 < v p ∧ knd co2 cr2 p = 1 then 1 else 0) i) + 0))), (4, .int (nI ((sumN v i) + (v i)))), (5, .int (nI i))]) F dX1_count_105 (by decide) rfl ?_
              refine g_iinc (lv2 := [(0, .ref (a 0)), (1, .int (nI k)), (2, .int (nI ((sumN (fun p => if 0 < v p ∧ knd co2 cr2 p = 2 then 1 else 0) i) + 1))), (3, .int (nI ((sumN (fun p => if 0 < v p ∧ knd co2 cr2 p = 1 then 1 else 0) i) + 0))), (4, .int (nI ((sumN v i) + (v i)))), (5, .int (nI (i + 1)))]) F (nI (i + 1)) dX1_count_107 rfl (nI_add i 1) (by decide) rfl ?_
              refine g_goto F 29 dX1_count_110 (by decide) ?_
              rw [sumN_c (f := (fun p => if 0 < v p ∧ knd co2 cr2 p = 2 then 1 else 0)) (n := i) (c := 0 < v i ∧ knd co2 cr2 i = 2) (v := 1) rfl ⟨hv, hk⟩, sumN_z (f := (fun p => if 0 < v p ∧ knd co2 cr2 p = 1 then 1 else 0)) (n := i) (c := 0 < v i ∧ knd co2 cr2 i = 1) (v := 1) rfl (by omega)] at ih
              exact ih
            · exact absurd (h4.symm.trans h5) (by decide)
        · have hv := hM.n h3
          have hz : sumN v (i + 1) = sumN v i := by show sumN v i + v i = _; rw [hv]; rfl
          refine g_goto F 107 dX1_count_46 (by decide) ?_
          refine g_iinc (lv2 := [(0, .ref (a 0)), (1, .int (nI k)), (2, .int (nI (sumN (fun p => if 0 < v p ∧ knd co2 cr2 p = 2 then 1 else 0) i))), (3, .int (nI (sumN (fun p => if 0 < v p ∧ knd co2 cr2 p = 1 then 1 else 0) i))), (4, .int (nI (sumN v i))), (5, .int (nI (i + 1)))]) F (nI (i + 1)) dX1_count_107 rfl (nI_add i 1) (by decide) rfl ?_
          refine g_goto F 29 dX1_count_110 (by decide) ?_
          rw [hz, sumN_z (f := (fun p => if 0 < v p ∧ knd co2 cr2 p = 2 then 1 else 0)) (n := i) (c := 0 < v i ∧ knd co2 cr2 i = 2) (v := 1) rfl (by omega), sumN_z (f := (fun p => if 0 < v p ∧ knd co2 cr2 p = 1 then 1 else 0)) (n := i) (c := 0 < v i ∧ knd co2 cr2 i = 1) (v := 1) rfl (by omega)] at ih
          exact ih
    · obtain ⟨co2, cr2, cc2, hs2⟩ := Srt_ex v x y wy re de
      refine g_iconst F (oI none) dX1_count_9 (by decide) ?_
      exact E _ _ _ _ dX1_count_10 ⟨⟨co2, cr2, cc2, hs2, by unfold countF; rw [if_neg (fun z => h2 (by rw [z]; decide)), if_neg (fun z => h2 (by rw [z]; decide)), if_neg (fun z => h2 (by rw [z]; decide)), if_neg (fun z => h2 (by rw [z]; decide)), if_neg (fun z => h2 (by rw [z]; decide)), if_neg (fun z => h2 (by rw [z]; decide))]⟩, ⟨_, _, _, _, _, _, _, _, rfl, hM⟩⟩
theorem about_out {A : Prop} [Decidable A] {z a0 a1 a2 a3 a4 a5 a6 a7 : Int32} (h0 : ¬ z = nI 0) (h1 : ¬ z = nI 1) (h2 : ¬ z = nI 2) (h3 : ¬ z = nI 3) (h4 : ¬ z = nI 4) (h5 : ¬ z = nI 5) (h6 : ¬ z = nI 6) (h7 : ¬ z = nI 7) : oI none = if A then (if z = nI 0 then a0 else if z = nI 1 then a1 else if z = nI 2 then a2 else if z = nI 3 then a3 else if z = nI 4 then a4 else if z = nI 5 then a5 else if z = nI 6 then a6 else if z = nI 7 then a7 else oI none) else oI none := by
  by_cases hA : A
  · rw [if_pos hA, if_neg h0, if_neg h1, if_neg h2, if_neg h3, if_neg h4, if_neg h5, if_neg h6, if_neg h7]
  · rw [if_neg hA]
theorem fN_skip {s : Nat → Bool} {n : Nat} (hs : s n = false) : firstN s (n + 1) = firstN s n := by
  cases e : firstN s n with
  | none => rw [fN_n e hs, e]
  | some j => rw [fN_k (by rw [e]; simp), e]
set_option maxHeartbeats 4000000 in
set_option maxRecDepth 100000 in
/-- about -/
theorem cM_about {l : Launch} {D : va_G} {t : Ty3} {a : Nat → Nat} {is : Nat → Bool} {x : Nat → Int32} {y : Nat → Int32} {w : Nat → Nat} {wy : Nat} {re : Nat} {de : Nat} {co : Nat → Bool} {cr : Nat → Option Nat} {cc : Nat} {dn : Nat → Bool} {cs : Nat → Option Nat} {df : Nat → Option Nat} {v : Nat → Nat} (hM : MI v x y wy re de is w) (p q : Int32) : CtI (EE l D t) yX1_about tsX1_about (RM 3 80) [.ref (a 0), .int p, .int q] (WM a t is x y w wy re de co cr cc dn cs df) 0 0 (fun r u => aboutR v x y wy re de p q r ∧ MW a t (v, x, y, wy, re, de) u) := by
  refine CtI.of (by decide +kernel) rfl (Nat.le_of_ble_eq_true rfl) (fun X F E => ?_)
  show GG (EE l D t) X 0 0 0 [(0, .ref (a 0)), (1, .int p), (2, .int q)] [] (WM a t is x y w wy re de co cr cc dn cs df)
  refine g_aload_n F dX1_about_0 rfl rfl ?_
  refine g_aload_n F dX1_about_1 rfl rfl ?_
  refine gM_get_reach F dX1_about_2 ?_
  refine c_VV F [] (wr := []) (cM_find hM hM.1.2.2.2.2.1) cwX1_X1_find ⟨by decide, by decide, rfl, rfl⟩ rfl rfl rfl rfl (Nat.le_of_ble_eq_true rfl) ⟨by decide, by decide⟩ dX1_about_5 (fun u hu => ?_)
  obtain ⟨co2, cr2, cc2, rfl, hs2⟩ := hu
  show GG (EE l D t) X 0 0 8 [(0, .ref (a 0)), (1, .int p), (2, .int q)] [] (WM a t is x y w wy re de co2 cr2 cc2 dn cs df)
  refine g_iload_n F dX1_about_8 rfl rfl ?_
  refine g_if_lt F 30 dX1_about_9 (by decide)  (fun h => ?_) (fun h => ?_)
  · refine g_iconst F (oI none) dX1_about_30 (by decide) ?_
    exact E _ _ _ _ dX1_about_31 ⟨⟨co2, cr2, cc2, hs2, by unfold aboutF; rw [if_neg (fun z => z.1 h)]⟩, ⟨_, _, _, _, _, _, _, _, rfl, hM⟩⟩
  · refine g_iload_n F dX1_about_12 rfl rfl ?_
    refine g_aload_n F dX1_about_13 rfl rfl ?_
    refine gM_get_crowds F dX1_about_14 ?_
    refine g_icmp_ge F 30 dX1_about_17 (by decide)  (fun h2 => ?_) (fun h2 => ?_)
    · refine g_iconst F (oI none) dX1_about_30 (by decide) ?_
      exact E _ _ _ _ dX1_about_31 ⟨⟨co2, cr2, cc2, hs2, by unfold aboutF; rw [if_neg (fun z => Int32.not_le.mpr z.2 h2)]⟩, ⟨_, _, _, _, _, _, _, _, rfl, hM⟩⟩
    · refine g_iload_n F dX1_about_20 rfl rfl ?_
      refine g_if_lt F 30 dX1_about_21 (by decide)  (fun h3 => ?_) (fun h3 => ?_)
      · refine g_iconst F (oI none) dX1_about_30 (by decide) ?_
        exact E _ _ _ _ dX1_about_31 ⟨⟨co2, cr2, cc2, hs2, by unfold aboutF; exact about_out (by intro z; exact absurd h3 (by rw [z]; decide)) (by intro z; exact absurd h3 (by rw [z]; decide)) (by intro z; exact absurd h3 (by rw [z]; decide)) (by intro z; exact absurd h3 (by rw [z]; decide)) (by intro z; exact absurd h3 (by rw [z]; decide)) (by intro z; exact absurd h3 (by rw [z]; decide)) (by intro z; exact absurd h3 (by rw [z]; decide)) (by intro z; exact absurd h3 (by rw [z]; decide))⟩, ⟨_, _, _, _, _, _, _, _, rfl, hM⟩⟩
      · refine g_iload_n F dX1_about_24 rfl rfl ?_
        refine g_bipush F 7 dX1_about_25 (by decide) ?_
        refine g_icmp_le F 32 dX1_about_27 (by decide)  (fun h4 => ?_) (fun h4 => ?_)
        · have h5 : p < nI cc2 := Int32.not_le.mp h2
          obtain ⟨c, hc1, rfl⟩ := nI_of h
          have hcc := hs2.cc120
          have hc2 : c < cc2 := (nI_ltI hc1 (by omega)).mp h5
          obtain ⟨k, hk1, hk2, rfl⟩ := i32_of (m := 0) (n := 7) h3 h4 (by decide) (by decide)
          refine g_iconst F (nI 0) dX1_about_32 (by decide) ?_
          refine g_istore_n (lv2 := [(0, .ref (a 0)), (1, .int (nI c)), (2, .int (nI k)), (3, .int (nI 0))]) F dX1_about_33 rfl (by decide) rfl ?_
          refine g_iconst F (nI 0) dX1_about_34 (by decide) ?_
          refine g_istore (lv2 := [(0, .ref (a 0)), (1, .int (nI c)), (2, .int (nI k)), (3, .int (nI 0)), (4, .int (nI 0))]) F dX1_about_35 (by decide) rfl ?_
          refine g_iconst F (nI 0) dX1_about_37 (by decide) ?_
          refine g_istore (lv2 := [(0, .ref (a 0)), (1, .int (nI c)), (2, .int (nI k)), (3, .int (nI 0)), (4, .int (nI 0)), (5, .int (nI 0))]) F dX1_about_38 (by decide) rfl ?_
          refine g_iconst F (oI none) dX1_about_40 (by decide) ?_
          refine g_istore (lv2 := [(0, .ref (a 0)), (1, .int (nI c)), (2, .int (nI k)), (3, .int (nI 0)), (4, .int (nI 0)), (5, .int (nI 0)), (6, .int (oI none))]) F dX1_about_41 (by decide) rfl ?_
          refine g_ldc F (1073741823) dX1_about_43 (List.mem_cons_of_mem _ mw4_4) ?_
          refine g_istore (lv2 := [(0, .ref (a 0)), (1, .int (nI c)), (2, .int (nI k)), (3, .int (nI 0)), (4, .int (nI 0)), (5, .int (nI 0)), (6, .int (oI none)), (7, .int (1073741823))]) F dX1_about_45 (by decide) rfl ?_
          refine g_ldc F (1073741823) dX1_about_47 (List.mem_cons_of_mem _ mw4_4) ?_
          refine g_istore (lv2 := [(0, .ref (a 0)), (1, .int (nI c)), (2, .int (nI k)), (3, .int (nI 0)), (4, .int (nI 0)), (5, .int (nI 0)), (6, .int (oI none)), (7, .int (1073741823)), (8, .int (1073741823))]) F dX1_about_49 (by decide) rfl ?_
          refine g_ldc F (-1073741823) dX1_about_51 (List.mem_cons_of_mem _ mw4_3) ?_
          refine g_istore (lv2 := [(0, .ref (a 0)), (1, .int (nI c)), (2, .int (nI k)), (3, .int (nI 0)), (4, .int (nI 0)), (5, .int (nI 0)), (6, .int (oI none)), (7, .int (1073741823)), (8, .int (1073741823)), (9, .int (-1073741823))]) F dX1_about_53 (by decide) rfl ?_
          refine g_ldc F (-1073741823) dX1_about_55 (List.mem_cons_of_mem _ mw4_3) ?_
          refine g_istore (lv2 := [(0, .ref (a 0)), (1, .int (nI c)), (2, .int (nI k)), (3, .int (nI 0)), (4, .int (nI 0)), (5, .int (nI 0)), (6, .int (oI none)), (7, .int (1073741823)), (8, .int (1073741823)), (9, .int (-1073741823)), (10, .int (-1073741823))]) F dX1_about_57 (by decide) rfl ?_
          refine g_iconst F (nI 0) dX1_about_59 (by decide) ?_
          refine g_istore (lv2 := [(0, .ref (a 0)), (1, .int (nI c)), (2, .int (nI k)), (3, .int (nI 0)), (4, .int (nI 0)), (5, .int (nI 0)), (6, .int (oI none)), (7, .int (1073741823)), (8, .int (1073741823)), (9, .int (-1073741823)), (10, .int (-1073741823)), (11, .int (nI 0))]) F dX1_about_60 (by decide) rfl ?_
          refine up_loop (P := fun i => GG (EE l D t) X 0 0 62 [(0, .ref (a 0)), (1, .int (nI c)), (2, .int (nI k)), (3, .int (nI (sumN (fun p => if cr2 p = some c then 1 else 0) i))), (4, .int (nI (sumN (fun p => if co2 p = true ∧ cr2 p = some c then 1 else 0) i))), (5, .int (nI (sumN (fun p => if cr2 p = some c then v p else 0) i))), (6, .int (oI (firstN (fun p => co2 p && decide (cr2 p = some c)) i))), (7, .int (mnf x (fun p => decide (cr2 p = some c)) 1073741823 i)), (8, .int (mnf y (fun p => decide (cr2 p = some c)) 1073741823 i)), (9, .int (mxf x (fun p => decide (cr2 p = some c)) (-1073741823) i)), (10, .int (mxf y (fun p => decide (cr2 p = some c)) (-1073741823) i)), (11, .int (nI i))] [] (WM a t is x y w wy re de co2 cr2 cc2 dn cs df)) 120 ?_ (fun i hi ih => ?_)
          · show GG (EE l D t) X 0 0 62 [(0, .ref (a 0)), (1, .int (nI c)), (2, .int (nI k)), (3, .int (nI (sumN (fun p => if cr2 p = some c then 1 else 0) 120))), (4, .int (nI (sumN (fun p => if co2 p = true ∧ cr2 p = some c then 1 else 0) 120))), (5, .int (nI (sumN (fun p => if cr2 p = some c then v p else 0) 120))), (6, .int (oI (firstN (fun p => co2 p && decide (cr2 p = some c)) 120))), (7, .int (mnf x (fun p => decide (cr2 p = some c)) 1073741823 120)), (8, .int (mnf y (fun p => decide (cr2 p = some c)) 1073741823 120)), (9, .int (mxf x (fun p => decide (cr2 p = some c)) (-1073741823) 120)), (10, .int (mxf y (fun p => decide (cr2 p = some c)) (-1073741823) 120)), (11, .int (nI 120))] [] (WM a t is x y w wy re de co2 cr2 cc2 dn cs df)
            refine g_iload F dX1_about_62 rfl ?_
            refine g_bipush F (nI 120) dX1_about_64 (by decide) ?_
            refine g_icmp_ge_t F 262 dX1_about_66 (by decide) (nI_le (Nat.le_refl 120) (by decide)) ?_
            refine g_iload_n F dX1_about_262 rfl rfl ?_
            rcases (show k = 0 ∨ k = 1 ∨ k = 2 ∨ k = 3 ∨ k = 4 ∨ k = 5 ∨ k = 6 ∨ k = 7 by omega) with rfl | rfl | rfl | rfl | rfl | rfl | rfl | rfl
            · refine g_tableIn (off := 41) F 304 dX1_about_263 (by decide) (by decide) (by decide +kernel) (by decide) ?_
              refine g_iload_n F dX1_about_304 rfl rfl ?_
              exact E _ _ _ _ dX1_about_305 ⟨⟨co2, cr2, cc2, hs2, by unfold aboutF; rw [if_pos ⟨h, h5⟩, if_pos rfl, nI_clamp hc1, sum1_eq]⟩, ⟨_, _, _, _, _, _, _, _, rfl, hM⟩⟩
            · refine g_tableIn (off := 43) F 306 dX1_about_263 (by decide) (by decide) (by decide +kernel) (by decide) ?_
              refine g_iload F dX1_about_306 rfl ?_
              exact E _ _ _ _ dX1_about_308 ⟨⟨co2, cr2, cc2, hs2, by unfold aboutF; rw [if_pos ⟨h, h5⟩, if_neg (by decide), if_pos rfl, nI_clamp hc1, sum1_eq]⟩, ⟨_, _, _, _, _, _, _, _, rfl, hM⟩⟩
            · refine g_tableIn (off := 46) F 309 dX1_about_263 (by decide) (by decide) (by decide +kernel) (by decide) ?_
              refine g_iload F dX1_about_309 rfl ?_
              exact E _ _ _ _ dX1_about_311 ⟨⟨co2, cr2, cc2, hs2, by unfold aboutF; rw [if_pos ⟨h, h5⟩, if_neg (by decide), if_neg (by decide), if_pos rfl, nI_clamp hc1, sum1_eq]⟩, ⟨_, _, _, _, _, _, _, _, rfl, hM⟩⟩
            · refine g_tableIn (off := 49) F 312 dX1_about_263 (by decide) (by decide) (by decide +kernel) (by decide) ?_
              refine g_iload F dX1_about_312 rfl ?_
              exact E _ _ _ _ dX1_about_314 ⟨⟨co2, cr2, cc2, hs2, by unfold aboutF; rw [if_pos ⟨h, h5⟩, if_neg (by decide), if_neg (by decide), if_neg (by decide), if_pos rfl, nI_clamp hc1, fst1_eq]⟩, ⟨_, _, _, _, _, _, _, _, rfl, hM⟩⟩
            · refine g_tableIn (off := 52) F 315 dX1_about_263 (by decide) (by decide) (by decide +kernel) (by decide) ?_
              refine g_iload F dX1_about_315 rfl ?_
              exact E _ _ _ _ dX1_about_317 ⟨⟨co2, cr2, cc2, hs2, by unfold aboutF; rw [if_pos ⟨h, h5⟩, if_neg (by decide), if_neg (by decide), if_neg (by decide), if_neg (by decide), if_pos rfl, nI_clamp hc1, mn1_eq]⟩, ⟨_, _, _, _, _, _, _, _, rfl, hM⟩⟩
            · refine g_tableIn (off := 55) F 318 dX1_about_263 (by decide) (by decide) (by decide +kernel) (by decide) ?_
              refine g_iload F dX1_about_318 rfl ?_
              exact E _ _ _ _ dX1_about_320 ⟨⟨co2, cr2, cc2, hs2, by unfold aboutF; rw [if_pos ⟨h, h5⟩, if_neg (by decide), if_neg (by decide), if_neg (by decide), if_neg (by decide), if_neg (by decide), if_pos rfl, nI_clamp hc1, mn1_eq]⟩, ⟨_, _, _, _, _, _, _, _, rfl, hM⟩⟩
            · refine g_tableIn (off := 58) F 321 dX1_about_263 (by decide) (by decide) (by decide +kernel) (by decide) ?_
              refine g_iload F dX1_about_321 rfl ?_
              exact E _ _ _ _ dX1_about_323 ⟨⟨co2, cr2, cc2, hs2, by unfold aboutF; rw [if_pos ⟨h, h5⟩, if_neg (by decide), if_neg (by decide), if_neg (by decide), if_neg (by decide), if_neg (by decide), if_neg (by decide), if_pos rfl, nI_clamp hc1, mx1_eq]⟩, ⟨_, _, _, _, _, _, _, _, rfl, hM⟩⟩
            · refine g_tableOut F 324 dX1_about_263 (Or.inr (by decide)) (by decide) ?_
              refine g_iload F dX1_about_324 rfl ?_
              exact E _ _ _ _ dX1_about_326 ⟨⟨co2, cr2, cc2, hs2, by unfold aboutF; rw [if_pos ⟨h, h5⟩, if_neg (by decide), if_neg (by decide), if_neg (by decide), if_neg (by decide), if_neg (by decide), if_neg (by decide), if_neg (by decide), if_pos rfl, nI_clamp hc1, mx1_eq]⟩, ⟨_, _, _, _, _, _, _, _, rfl, hM⟩⟩
          · show GG (EE l D t) X 0 0 62 [(0, .ref (a 0)), (1, .int (nI c)), (2, .int (nI k)), (3, .int (nI (sumN (fun p => if cr2 p = some c then 1 else 0) i))), (4, .int (nI (sumN (fun p => if co2 p = true ∧ cr2 p = some c then 1 else 0) i))), (5, .int (nI (sumN (fun p => if cr2 p = some c then v p else 0) i))), (6, .int (oI (firstN (fun p => co2 p && decide (cr2 p = some c)) i))), (7, .int (mnf x (fun p => decide (cr2 p = some c)) 1073741823 i)), (8, .int (mnf y (fun p => decide (cr2 p = some c)) 1073741823 i)), (9, .int (mxf x (fun p => decide (cr2 p = some c)) (-1073741823) i)), (10, .int (mxf y (fun p => decide (cr2 p = some c)) (-1073741823) i)), (11, .int (nI i))] [] (WM a t is x y w wy re de co2 cr2 cc2 dn cs df)
            refine g_iload F dX1_about_62 rfl ?_
            refine g_bipush F (nI 120) dX1_about_64 (by decide) ?_
            refine g_icmp_ge_f F 262 dX1_about_66 (by decide) (nI_ge hi (by decide)) ?_
            refine g_aload_n F dX1_about_69 rfl rfl ?_
            refine gM_get_is F dX1_about_70 ?_
            refine g_iload F dX1_about_73 rfl ?_
            refine gM_ld_is F hi dX1_about_75 ?_
            refine g_if_eq_b F 256 dX1_about_76 (by decide)  (fun h6 => ?_) (fun h6 => ?_)
            · have hne : cr2 i ≠ some c := by rw [(hs2.free hi (hM.n h6)).2]; simp
              refine g_iinc (lv2 := [(0, .ref (a 0)), (1, .int (nI c)), (2, .int (nI k)), (3, .int (nI (sumN (fun p => if cr2 p = some c then 1 else 0) i))), (4, .int (nI (sumN (fun p => if co2 p = true ∧ cr2 p = some c then 1 else 0) i))), (5, .int (nI (sumN (fun p => if cr2 p = some c then v p else 0) i))), (6, .int (oI (firstN (fun p => co2 p && decide (cr2 p = some c)) i))), (7, .int (mnf x (fun p => decide (cr2 p = some c)) 1073741823 i)), (8, .int (mnf y (fun p => decide (cr2 p = some c)) 1073741823 i)), (9, .int (mxf x (fun p => decide (cr2 p = some c)) (-1073741823) i)), (10, .int (mxf y (fun p => decide (cr2 p = some c)) (-1073741823) i)), (11, .int (nI (i + 1)))]) F (nI (i + 1)) dX1_about_256 rfl (nI_add i 1) (by decide) rfl ?_
              refine g_goto F 62 dX1_about_259 (by decide) ?_
              rw [sumN_z (f := (fun p => if cr2 p = some c then 1 else 0)) (n := i) (c := cr2 i = some c) (v := 1) rfl hne, sumN_z (f := (fun p => if co2 p = true ∧ cr2 p = some c then 1 else 0)) (n := i) (c := co2 i = true ∧ cr2 i = some c) (v := 1) rfl (fun z => hne z.2), sumN_z (f := (fun p => if cr2 p = some c then v p else 0)) (n := i) (c := cr2 i = some c) (v := v i) rfl hne, fN_skip (s := (fun p => co2 p && decide (cr2 p = some c))) (by simp [hne]), mnf_n (x := x) (s := (fun p => decide (cr2 p = some c))) (z := 1073741823) (n := i) (by simp [hne]), mnf_n (x := y) (s := (fun p => decide (cr2 p = some c))) (z := 1073741823) (n := i) (by simp [hne]), mxf_n (x := x) (s := (fun p => decide (cr2 p = some c))) (z := (-1073741823)) (n := i) (by simp [hne]), mxf_n (x := y) (s := (fun p => decide (cr2 p = some c))) (z := (-1073741823)) (n := i) (by simp [hne])] at ih
              exact ih
            · refine g_aload_n F dX1_about_79 rfl rfl ?_
              refine gM_get_crowdOf F dX1_about_80 ?_
              refine g_iload F dX1_about_83 rfl ?_
              refine gM_ld_crowdOf F hi dX1_about_85 ?_
              refine g_iload_n F dX1_about_86 rfl rfl ?_
              refine g_icmp_eq_on F 93 dX1_about_87 (by decide) (hs2.bd31 hi) (by omega) (fun h7 => ?_) (fun h7 => ?_)
              · obtain ⟨hv, hwv⟩ := hM.y h6
                have k230 : GG (EE l D t) X 0 0 230 [(0, .ref (a 0)), (1, .int (nI c)), (2, .int (nI k)), (3, .int (nI (sumN (fun p => if cr2 p = some c then 1 else 0) (i + 1)))), (4, .int (nI (sumN (fun p => if co2 p = true ∧ cr2 p = some c then 1 else 0) (i + 1)))), (5, .int (nI (sumN (fun p => if cr2 p = some c then v p else 0) (i + 1)))), (6, .int (oI (firstN (fun p => co2 p && decide (cr2 p = some c)) (i + 1)))), (7, .int (mnf x (fun p => decide (cr2 p = some c)) 1073741823 (i + 1))), (8, .int (mnf y (fun p => decide (cr2 p = some c)) 1073741823 (i + 1))), (9, .int (mxf x (fun p => decide (cr2 p = some c)) (-1073741823) (i + 1))), (10, .int (mxf y (fun p => decide (cr2 p = some c)) (-1073741823) i)), (11, .int (nI i))] [] (WM a t is x y w wy re de co2 cr2 cc2 dn cs df) := by
                  refine g_aload_n F dX1_about_230 rfl rfl ?_
                  refine gM_get_ys F dX1_about_231 ?_
                  refine g_iload F dX1_about_234 rfl ?_
                  refine gM_ld_ys F hi dX1_about_236 ?_
                  refine g_iload F dX1_about_237 rfl ?_
                  refine g_icmp_le F 252 dX1_about_239 (by decide)  (fun h8 => ?_) (fun h8 => ?_)
                  · refine g_iload F dX1_about_252 rfl ?_
                    refine g_istore (lv2 := [(0, .ref (a 0)), (1, .int (nI c)), (2, .int (nI k)), (3, .int (nI (sumN (fun p => if cr2 p = some c then 1 else 0) (i + 1)))), (4, .int (nI (sumN (fun p => if co2 p = true ∧ cr2 p = some c then 1 else 0) (i + 1)))), (5, .int (nI (sumN (fun p => if cr2 p = some c then v p else 0) (i + 1)))), (6, .int (oI (firstN (fun p => co2 p && decide (cr2 p = some c)) (i + 1)))), (7, .int (mnf x (fun p => decide (cr2 p = some c)) 1073741823 (i + 1))), (8, .int (mnf y (fun p => decide (cr2 p = some c)) 1073741823 (i + 1))), (9, .int (mxf x (fun p => decide (cr2 p = some c)) (-1073741823) (i + 1))), (10, .int (mxf y (fun p => decide (cr2 p = some c)) (-1073741823) i)), (11, .int (nI i))]) F dX1_about_254 (by decide) rfl ?_
                    refine g_iinc (lv2 := [(0, .ref (a 0)), (1, .int (nI c)), (2, .int (nI k)), (3, .int (nI (sumN (fun p => if cr2 p = some c then 1 else 0) (i + 1)))), (4, .int (nI (sumN (fun p => if co2 p = true ∧ cr2 p = some c then 1 else 0) (i + 1)))), (5, .int (nI (sumN (fun p => if cr2 p = some c then v p else 0) (i + 1)))), (6, .int (oI (firstN (fun p => co2 p && decide (cr2 p = some c)) (i + 1)))), (7, .int (mnf x (fun p => decide (cr2 p = some c)) 1073741823 (i + 1))), (8, .int (mnf y (fun p => decide (cr2 p = some c)) 1073741823 (i + 1))), (9, .int (mxf x (fun p => decide (cr2 p = some c)) (-1073741823) (i + 1))), (10, .int (mxf y (fun p => decide (cr2 p = some c)) (-1073741823) i)), (11, .int (nI (i + 1)))]) F (nI (i + 1)) dX1_about_256 rfl (nI_add i 1) (by decide) rfl ?_
                    refine g_goto F 62 dX1_about_259 (by decide) ?_
                    rw [mxf_y (x := y) (s := (fun p => decide (cr2 p = some c))) (z := (-1073741823)) (n := i) (by simp [h7]), if_neg (Int32.not_lt.mpr h8)] at ih
                    exact ih
                  · refine g_aload_n F dX1_about_242 rfl rfl ?_
                    refine gM_get_ys F dX1_about_243 ?_
                    refine g_iload F dX1_about_246 rfl ?_
                    refine gM_ld_ys F hi dX1_about_248 ?_
                    refine g_goto F 254 dX1_about_249 (by decide) ?_
                    refine g_istore (lv2 := [(0, .ref (a 0)), (1, .int (nI c)), (2, .int (nI k)), (3, .int (nI (sumN (fun p => if cr2 p = some c then 1 else 0) (i + 1)))), (4, .int (nI (sumN (fun p => if co2 p = true ∧ cr2 p = some c then 1 else 0) (i + 1)))), (5, .int (nI (sumN (fun p => if cr2 p = some c then v p else 0) (i + 1)))), (6, .int (oI (firstN (fun p => co2 p && decide (cr2 p = some c)) (i + 1)))), (7, .int (mnf x (fun p => decide (cr2 p = some c)) 1073741823 (i + 1))), (8, .int (mnf y (fun p => decide (cr2 p = some c)) 1073741823 (i + 1))), (9, .int (mxf x (fun p => decide (cr2 p = some c)) (-1073741823) (i + 1))), (10, .int (y i)), (11, .int (nI i))]) F dX1_about_254 (by decide) rfl ?_
                    refine g_iinc (lv2 := [(0, .ref (a 0)), (1, .int (nI c)), (2, .int (nI k)), (3, .int (nI (sumN (fun p => if cr2 p = some c then 1 else 0) (i + 1)))), (4, .int (nI (sumN (fun p => if co2 p = true ∧ cr2 p = some c then 1 else 0) (i + 1)))), (5, .int (nI (sumN (fun p => if cr2 p = some c then v p else 0) (i + 1)))), (6, .int (oI (firstN (fun p => co2 p && decide (cr2 p = some c)) (i + 1)))), (7, .int (mnf x (fun p => decide (cr2 p = some c)) 1073741823 (i + 1))), (8, .int (mnf y (fun p => decide (cr2 p = some c)) 1073741823 (i + 1))), (9, .int (mxf x (fun p => decide (cr2 p = some c)) (-1073741823) (i + 1))), (10, .int (y i)), (11, .int (nI (i + 1)))]) F (nI (i + 1)) dX1_about_256 rfl (nI_add i 1) (by decide) rfl ?_
                    refine g_goto F 62 dX1_about_259 (by decide) ?_
                    rw [mxf_y (x := y) (s := (fun p => decide (cr2 p = some c))) (z := (-1073741823)) (n := i) (by simp [h7]), if_pos (Int32.not_le.mp h8)] at ih
                    exact ih
                have k204 : GG (EE l D t) X 0 0 204 [(0, .ref (a 0)), (1, .int (nI c)), (2, .int (nI k)), (3, .int (nI (sumN (fun p => if cr2 p = some c then 1 else 0) (i + 1)))), (4, .int (nI (sumN (fun p => if co2 p = true ∧ cr2 p = some c then 1 else 0) (i + 1)))), (5, .int (nI (sumN (fun p => if cr2 p = some c then v p else 0) (i + 1)))), (6, .int (oI (firstN (fun p => co2 p && decide (cr2 p = some c)) (i + 1)))), (7, .int (mnf x (fun p => decide (cr2 p = some c)) 1073741823 (i + 1))), (8, .int (mnf y (fun p => decide (cr2 p = some c)) 1073741823 (i + 1))), (9, .int (mxf x (fun p => decide (cr2 p = some c)) (-1073741823) i)), (10, .int (mxf y (fun p => decide (cr2 p = some c)) (-1073741823) i)), (11, .int (nI i))] [] (WM a t is x y w wy re de co2 cr2 cc2 dn cs df) := by
                  refine g_aload_n F dX1_about_204 rfl rfl ?_
                  refine gM_get_xs F dX1_about_205 ?_
                  refine g_iload F dX1_about_208 rfl ?_
                  refine gM_ld_xs F hi dX1_about_210 ?_
                  refine g_iload F dX1_about_211 rfl ?_
                  refine g_icmp_le F 226 dX1_about_213 (by decide)  (fun h8 => ?_) (fun h8 => ?_)
                  · refine g_iload F dX1_about_226 rfl ?_
                    refine g_istore (lv2 := [(0, .ref (a 0)), (1, .int (nI c)), (2, .int (nI k)), (3, .int (nI (sumN (fun p => if cr2 p = some c then 1 else 0) (i + 1)))), (4, .int (nI (sumN (fun p => if co2 p = true ∧ cr2 p = some c then 1 else 0) (i + 1)))), (5, .int (nI (sumN (fun p => if cr2 p = some c then v p else 0) (i + 1)))), (6, .int (oI (firstN (fun p => co2 p && decide (cr2 p = some c)) (i + 1)))), (7, .int (mnf x (fun p => decide (cr2 p = some c)) 1073741823 (i + 1))), (8, .int (mnf y (fun p => decide (cr2 p = some c)) 1073741823 (i + 1))), (9, .int (mxf x (fun p => decide (cr2 p = some c)) (-1073741823) i)), (10, .int (mxf y (fun p => decide (cr2 p = some c)) (-1073741823) i)), (11, .int (nI i))]) F dX1_about_228 (by decide) rfl ?_
                    rw [mxf_y (x := x) (s := (fun p => decide (cr2 p = some c))) (z := (-1073741823)) (n := i) (by simp [h7]), if_neg (Int32.not_lt.mpr h8)] at k230
                    exact k230
                  · refine g_aload_n F dX1_about_216 rfl rfl ?_
                    refine gM_get_xs F dX1_about_217 ?_
                    refine g_iload F dX1_about_220 rfl ?_
                    refine gM_ld_xs F hi dX1_about_222 ?_
                    refine g_goto F 228 dX1_about_223 (by decide) ?_
                    refine g_istore (lv2 := [(0, .ref (a 0)), (1, .int (nI c)), (2, .int (nI k)), (3, .int (nI (sumN (fun p => if cr2 p = some c then 1 else 0) (i + 1)))), (4, .int (nI (sumN (fun p => if co2 p = true ∧ cr2 p = some c then 1 else 0) (i + 1)))), (5, .int (nI (sumN (fun p => if cr2 p = some c then v p else 0) (i + 1)))), (6, .int (oI (firstN (fun p => co2 p && decide (cr2 p = some c)) (i + 1)))), (7, .int (mnf x (fun p => decide (cr2 p = some c)) 1073741823 (i + 1))), (8, .int (mnf y (fun p => decide (cr2 p = some c)) 1073741823 (i + 1))), (9, .int (x i)), (10, .int (mxf y (fun p => decide (cr2 p = some c)) (-1073741823) i)), (11, .int (nI i))]) F dX1_about_228 (by decide) rfl ?_
                    rw [mxf_y (x := x) (s := (fun p => decide (cr2 p = some c))) (z := (-1073741823)) (n := i) (by simp [h7]), if_pos (Int32.not_le.mp h8)] at k230
                    exact k230
                have k178 : GG (EE l D t) X 0 0 178 [(0, .ref (a 0)), (1, .int (nI c)), (2, .int (nI k)), (3, .int (nI (sumN (fun p => if cr2 p = some c then 1 else 0) (i + 1)))), (4, .int (nI (sumN (fun p => if co2 p = true ∧ cr2 p = some c then 1 else 0) (i + 1)))), (5, .int (nI (sumN (fun p => if cr2 p = some c then v p else 0) (i + 1)))), (6, .int (oI (firstN (fun p => co2 p && decide (cr2 p = some c)) (i + 1)))), (7, .int (mnf x (fun p => decide (cr2 p = some c)) 1073741823 (i + 1))), (8, .int (mnf y (fun p => decide (cr2 p = some c)) 1073741823 i)), (9, .int (mxf x (fun p => decide (cr2 p = some c)) (-1073741823) i)), (10, .int (mxf y (fun p => decide (cr2 p = some c)) (-1073741823) i)), (11, .int (nI i))] [] (WM a t is x y w wy re de co2 cr2 cc2 dn cs df) := by
                  refine g_aload_n F dX1_about_178 rfl rfl ?_
                  refine gM_get_ys F dX1_about_179 ?_
                  refine g_iload F dX1_about_182 rfl ?_
                  refine gM_ld_ys F hi dX1_about_184 ?_
                  refine g_iload F dX1_about_185 rfl ?_
                  refine g_icmp_ge F 200 dX1_about_187 (by decide)  (fun h8 => ?_) (fun h8 => ?_)
                  · refine g_iload F dX1_about_200 rfl ?_
                    refine g_istore (lv2 := [(0, .ref (a 0)), (1, .int (nI c)), (2, .int (nI k)), (3, .int (nI (sumN (fun p => if cr2 p = some c then 1 else 0) (i + 1)))), (4, .int (nI (sumN (fun p => if co2 p = true ∧ cr2 p = some c then 1 else 0) (i + 1)))), (5, .int (nI (sumN (fun p => if cr2 p = some c then v p else 0) (i + 1)))), (6, .int (oI (firstN (fun p => co2 p && decide (cr2 p = some c)) (i + 1)))), (7, .int (mnf x (fun p => decide (cr2 p = some c)) 1073741823 (i + 1))), (8, .int (mnf y (fun p => decide (cr2 p = some c)) 1073741823 i)), (9, .int (mxf x (fun p => decide (cr2 p = some c)) (-1073741823) i)), (10, .int (mxf y (fun p => decide (cr2 p = some c)) (-1073741823) i)), (11, .int (nI i))]) F dX1_about_202 (by decide) rfl ?_
                    rw [mnf_y (x := y) (s := (fun p => decide (cr2 p = some c))) (z := 1073741823) (n := i) (by simp [h7]), if_neg (Int32.not_lt.mpr h8)] at k204
                    exact k204
                  · refine g_aload_n F dX1_about_190 rfl rfl ?_
                    refine gM_get_ys F dX1_about_191 ?_
                    refine g_iload F dX1_about_194 rfl ?_
                    refine gM_ld_ys F hi dX1_about_196 ?_
                    refine g_goto F 202 dX1_about_197 (by decide) ?_
                    refine g_istore (lv2 := [(0, .ref (a 0)), (1, .int (nI c)), (2, .int (nI k)), (3, .int (nI (sumN (fun p => if cr2 p = some c then 1 else 0) (i + 1)))), (4, .int (nI (sumN (fun p => if co2 p = true ∧ cr2 p = some c then 1 else 0) (i + 1)))), (5, .int (nI (sumN (fun p => if cr2 p = some c then v p else 0) (i + 1)))), (6, .int (oI (firstN (fun p => co2 p && decide (cr2 p = some c)) (i + 1)))), (7, .int (mnf x (fun p => decide (cr2 p = some c)) 1073741823 (i + 1))), (8, .int (y i)), (9, .int (mxf x (fun p => decide (cr2 p = some c)) (-1073741823) i)), (10, .int (mxf y (fun p => decide (cr2 p = some c)) (-1073741823) i)), (11, .int (nI i))]) F dX1_about_202 (by decide) rfl ?_
                    rw [mnf_y (x := y) (s := (fun p => decide (cr2 p = some c))) (z := 1073741823) (n := i) (by simp [h7]), if_pos (Int32.not_le.mp h8)] at k204
                    exact k204
                have k152 : GG (EE l D t) X 0 0 152 [(0, .ref (a 0)), (1, .int (nI c)), (2, .int (nI k)), (3, .int (nI (sumN (fun p => if cr2 p = some c then 1 else 0) (i + 1)))), (4, .int (nI (sumN (fun p => if co2 p = true ∧ cr2 p = some c then 1 else 0) (i + 1)))), (5, .int (nI (sumN (fun p => if cr2 p = some c then v p else 0) (i + 1)))), (6, .int (oI (firstN (fun p => co2 p && decide (cr2 p = some c)) (i + 1)))), (7, .int (mnf x (fun p => decide (cr2 p = some c)) 1073741823 i)), (8, .int (mnf y (fun p => decide (cr2 p = some c)) 1073741823 i)), (9, .int (mxf x (fun p => decide (cr2 p = some c)) (-1073741823) i)), (10, .int (mxf y (fun p => decide (cr2 p = some c)) (-1073741823) i)), (11, .int (nI i))] [] (WM a t is x y w wy re de co2 cr2 cc2 dn cs df) := by
                  refine g_aload_n F dX1_about_152 rfl rfl ?_
                  refine gM_get_xs F dX1_about_153 ?_
                  refine g_iload F dX1_about_156 rfl ?_
                  refine gM_ld_xs F hi dX1_about_158 ?_
                  refine g_iload F dX1_about_159 rfl ?_
                  refine g_icmp_ge F 174 dX1_about_161 (by decide)  (fun h8 => ?_) (fun h8 => ?_)
                  · refine g_iload F dX1_about_174 rfl ?_
                    refine g_istore (lv2 := [(0, .ref (a 0)), (1, .int (nI c)), (2, .int (nI k)), (3, .int (nI (sumN (fun p => if cr2 p = some c then 1 else 0) (i + 1)))), (4, .int (nI (sumN (fun p => if co2 p = true ∧ cr2 p = some c then 1 else 0) (i + 1)))), (5, .int (nI (sumN (fun p => if cr2 p = some c then v p else 0) (i + 1)))), (6, .int (oI (firstN (fun p => co2 p && decide (cr2 p = some c)) (i + 1)))), (7, .int (mnf x (fun p => decide (cr2 p = some c)) 1073741823 i)), (8, .int (mnf y (fun p => decide (cr2 p = some c)) 1073741823 i)), (9, .int (mxf x (fun p => decide (cr2 p = some c)) (-1073741823) i)), (10, .int (mxf y (fun p => decide (cr2 p = some c)) (-1073741823) i)), (11, .int (nI i))]) F dX1_about_176 (by decide) rfl ?_
                    rw [mnf_y (x := x) (s := (fun p => decide (cr2 p = some c))) (z := 1073741823) (n := i) (by simp [h7]), if_neg (Int32.not_lt.mpr h8)] at k178
                    exact k178
                  · refine g_aload_n F dX1_about_164 rfl rfl ?_
                    refine gM_get_xs F dX1_about_165 ?_
                    refine g_iload F dX1_about_168 rfl ?_
                    refine gM_ld_xs F hi dX1_about_170 ?_
                    refine g_goto F 176 dX1_about_171 (by decide) ?_
                    refine g_istore (lv2 := [(0, .ref (a 0)), (1, .int (nI c)), (2, .int (nI k)), (3, .int (nI (sumN (fun p => if cr2 p = some c then 1 else 0) (i + 1)))), (4, .int (nI (sumN (fun p => if co2 p = true ∧ cr2 p = some c then 1 else 0) (i + 1)))), (5, .int (nI (sumN (fun p => if cr2 p = some c then v p else 0) (i + 1)))), (6, .int (oI (firstN (fun p => co2 p && decide (cr2 p = some c)) (i + 1)))), (7, .int (x i)), (8, .int (mnf y (fun p => decide (cr2 p = some c)) 1073741823 i)), (9, .int (mxf x (fun p => decide (cr2 p = some c)) (-1073741823) i)), (10, .int (mxf y (fun p => decide (cr2 p = some c)) (-1073741823) i)), (11, .int (nI i))]) F dX1_about_176 (by decide) rfl ?_
                    rw [mnf_y (x := x) (s := (fun p => decide (cr2 p = some c))) (z := 1073741823) (n := i) (by simp [h7]), if_pos (Int32.not_le.mp h8)] at k178
                    exact k178
                have k128 : GG (EE l D t) X 0 0 128 [(0, .ref (a 0)), (1, .int (nI c)), (2, .int (nI k)), (3, .int (nI (sumN (fun p => if cr2 p = some c then 1 else 0) (i + 1)))), (4, .int (nI (sumN (fun p => if co2 p = true ∧ cr2 p = some c then 1 else 0) (i + 1)))), (5, .int (nI (sumN (fun p => if cr2 p = some c then v p else 0) (i + 1)))), (6, .int (oI (firstN (fun p => co2 p && decide (cr2 p = some c)) i))), (7, .int (mnf x (fun p => decide (cr2 p = some c)) 1073741823 i)), (8, .int (mnf y (fun p => decide (cr2 p = some c)) 1073741823 i)), (9, .int (mxf x (fun p => decide (cr2 p = some c)) (-1073741823) i)), (10, .int (mxf y (fun p => decide (cr2 p = some c)) (-1073741823) i)), (11, .int (nI i))] [] (WM a t is x y w wy re de co2 cr2 cc2 dn cs df) := by
                  refine g_iload F dX1_about_128 rfl ?_
                  refine g_if_ge_o F 148 dX1_about_130 (by decide) (fun k hk => by have := (firstN_spec hk).1; omega) (fun h8 => ?_) (fun h8 => ?_)
                  · refine g_iload F dX1_about_148 rfl ?_
                    refine g_istore (lv2 := [(0, .ref (a 0)), (1, .int (nI c)), (2, .int (nI k)), (3, .int (nI (sumN (fun p => if cr2 p = some c then 1 else 0) (i + 1)))), (4, .int (nI (sumN (fun p => if co2 p = true ∧ cr2 p = some c then 1 else 0) (i + 1)))), (5, .int (nI (sumN (fun p => if cr2 p = some c then v p else 0) (i + 1)))), (6, .int (oI (firstN (fun p => co2 p && decide (cr2 p = some c)) i))), (7, .int (mnf x (fun p => decide (cr2 p = some c)) 1073741823 i)), (8, .int (mnf y (fun p => decide (cr2 p = some c)) 1073741823 i)), (9, .int (mxf x (fun p => decide (cr2 p = some c)) (-1073741823) i)), (10, .int (mxf y (fun p => decide (cr2 p = some c)) (-1073741823) i)), (11, .int (nI i))]) F dX1_about_150 (by decide) rfl ?_
                    rw [fN_k h8] at k152
                    exact k152
                  · refine g_aload_n F dX1_about_133 rfl rfl ?_
                    refine gM_get_core F dX1_about_134 ?_
                    refine g_iload F dX1_about_137 rfl ?_
                    refine gM_ld_core F hi dX1_about_139 ?_
                    refine g_if_eq_b F 148 dX1_about_140 (by decide)  (fun h9 => ?_) (fun h9 => ?_)
                    · refine g_iload F dX1_about_148 rfl ?_
                      refine g_istore (lv2 := [(0, .ref (a 0)), (1, .int (nI c)), (2, .int (nI k)), (3, .int (nI (sumN (fun p => if cr2 p = some c then 1 else 0) (i + 1)))), (4, .int (nI (sumN (fun p => if co2 p = true ∧ cr2 p = some c then 1 else 0) (i + 1)))), (5, .int (nI (sumN (fun p => if cr2 p = some c then v p else 0) (i + 1)))), (6, .int (oI (firstN (fun p => co2 p && decide (cr2 p = some c)) i))), (7, .int (mnf x (fun p => decide (cr2 p = some c)) 1073741823 i)), (8, .int (mnf y (fun p => decide (cr2 p = some c)) 1073741823 i)), (9, .int (mxf x (fun p => decide (cr2 p = some c)) (-1073741823) i)), (10, .int (mxf y (fun p => decide (cr2 p = some c)) (-1073741823) i)), (11, .int (nI i))]) F dX1_about_150 (by decide) rfl ?_
                      rw [fN_n (s := (fun p => co2 p && decide (cr2 p = some c))) h8 (by simp [h9])] at k152
                      exact k152
                    · refine g_iload F dX1_about_143 rfl ?_
                      refine g_goto F 150 dX1_about_145 (by decide) ?_
                      refine g_istore (lv2 := [(0, .ref (a 0)), (1, .int (nI c)), (2, .int (nI k)), (3, .int (nI (sumN (fun p => if cr2 p = some c then 1 else 0) (i + 1)))), (4, .int (nI (sumN (fun p => if co2 p = true ∧ cr2 p = some c then 1 else 0) (i + 1)))), (5, .int (nI (sumN (fun p => if cr2 p = some c then v p else 0) (i + 1)))), (6, .int (nI i)), (7, .int (mnf x (fun p => decide (cr2 p = some c)) 1073741823 i)), (8, .int (mnf y (fun p => decide (cr2 p = some c)) 1073741823 i)), (9, .int (mxf x (fun p => decide (cr2 p = some c)) (-1073741823) i)), (10, .int (mxf y (fun p => decide (cr2 p = some c)) (-1073741823) i)), (11, .int (nI i))]) F dX1_about_150 (by decide) rfl ?_
                      rw [fN_y (s := (fun p => co2 p && decide (cr2 p = some c))) h8 (by simp [h9, h7])] at k152
                      exact k152
                refine g_iinc (lv2 := [(0, .ref (a 0)), (1, .int (nI c)), (2, .int (nI k)), (3, .int (nI ((sumN (fun p => if cr2 p = some c then 1 else 0) i) + 1))), (4, .int (nI (sumN (fun p => if co2 p = true ∧ cr2 p = some c then 1 else 0) i))), (5, .int (nI (sumN (fun p => if cr2 p = some c then v p else 0) i))), (6, .int (oI (firstN (fun p => co2 p && decide (cr2 p = some c)) i))), (7, .int (mnf x (fun p => decide (cr2 p = some c)) 1073741823 i)), (8, .int (mnf y (fun p => decide (cr2 p = some c)) 1073741823 i)), (9, .int (mxf x (fun p => decide (cr2 p = some c)) (-1073741823) i)), (10, .int (mxf y (fun p => decide (cr2 p = some c)) (-1073741823) i)), (11, .int (nI i))]) F (nI ((sumN (fun p => if cr2 p = some c then 1 else 0) i) + 1)) dX1_about_93 rfl (nI_add (sumN (fun p => if cr2 p = some c then 1 else 0) i) 1) (by decide) rfl ?_
                refine g_iload F dX1_about_96 rfl ?_
                refine g_aload_n F dX1_about_98 rfl rfl ?_
                refine gM_get_core F dX1_about_99 ?_
                refine g_iload F dX1_about_102 rfl ?_
                refine gM_ld_core F hi dX1_about_104 ?_
                refine g_if_eq_b F 112 dX1_about_105 (by decide)  (fun h8 => ?_) (fun h8 => ?_)
                · refine g_iconst F (nI 0) dX1_about_112 (by decide) ?_
                  refine g_iadd_n F dX1_about_113 ?_
                  refine g_istore (lv2 := [(0, .ref (a 0)), (1, .int (nI c)), (2, .int (nI k)), (3, .int (nI ((sumN (fun p => if cr2 p = some c then 1 else 0) i) + 1))), (4, .int (nI ((sumN (fun p => if co2 p = true ∧ cr2 p = some c then 1 else 0) i) + 0))), (5, .int (nI (sumN (fun p => if cr2 p = some c then v p else 0) i))), (6, .int (oI (firstN (fun p => co2 p && decide (cr2 p = some c)) i))), (7, .int (mnf x (fun p => decide (cr2 p = some c)) 1073741823 i)), (8, .int (mnf y (fun p => decide (cr2 p = some c)) 1073741823 i)), (9, .int (mxf x (fun p => decide (cr2 p = some c)) (-1073741823) i)), (10, .int (mxf y (fun p => decide (cr2 p = some c)) (-1073741823) i)), (11, .int (nI i))]) F dX1_about_114 (by decide) rfl ?_
                  refine g_iload F dX1_about_116 rfl ?_
                  refine g_aload_n F dX1_about_118 rfl rfl ?_
                  refine gM_get_weights F dX1_about_119 ?_
                  refine g_iload F dX1_about_122 rfl ?_
                  refine gM_ld_weights F hi dX1_about_124 ?_
                  refine g_topi (y := nI (v i)) (congrArg nI hwv) ?_
                  refine g_iadd_n F dX1_about_125 ?_
                  refine g_istore (lv2 := [(0, .ref (a 0)), (1, .int (nI c)), (2, .int (nI k)), (3, .int (nI ((sumN (fun p => if cr2 p = some c then 1 else 0) i) + 1))), (4, .int (nI ((sumN (fun p => if co2 p = true ∧ cr2 p = some c then 1 else 0) i) + 0))), (5, .int (nI ((sumN (fun p => if cr2 p = some c then v p else 0) i) + (v i)))), (6, .int (oI (firstN (fun p => co2 p && decide (cr2 p = some c)) i))), (7, .int (mnf x (fun p => decide (cr2 p = some c)) 1073741823 i)), (8, .int (mnf y (fun p => decide (cr2 p = some c)) 1073741823 i)), (9, .int (mxf x (fun p => decide (cr2 p = some c)) (-1073741823) i)), (10, .int (mxf y (fun p => decide (cr2 p = some c)) (-1073741823) i)), (11, .int (nI i))]) F dX1_about_126 (by decide) rfl ?_
                  rw [sumN_c (f := (fun p => if cr2 p = some c then 1 else 0)) (n := i) (c := cr2 i = some c) (v := 1) rfl h7, sumN_z (f := (fun p => if co2 p = true ∧ cr2 p = some c then 1 else 0)) (n := i) (c := co2 i = true ∧ cr2 i = some c) (v := 1) rfl (by simp [h8]), sumN_c (f := (fun p => if cr2 p = some c then v p else 0)) (n := i) (c := cr2 i = some c) (v := v i) rfl h7] at k128
                  exact k128
                · refine g_iconst F (nI 1) dX1_about_108 (by decide) ?_
                  refine g_goto F 113 dX1_about_109 (by decide) ?_
                  refine g_iadd_n F dX1_about_113 ?_
                  refine g_istore (lv2 := [(0, .ref (a 0)), (1, .int (nI c)), (2, .int (nI k)), (3, .int (nI ((sumN (fun p => if cr2 p = some c then 1 else 0) i) + 1))), (4, .int (nI ((sumN (fun p => if co2 p = true ∧ cr2 p = some c then 1 else 0) i) + 1))), (5, .int (nI (sumN (fun p => if cr2 p = some c then v p else 0) i))), (6, .int (oI (firstN (fun p => co2 p && decide (cr2 p = some c)) i))), (7, .int (mnf x (fun p => decide (cr2 p = some c)) 1073741823 i)), (8, .int (mnf y (fun p => decide (cr2 p = some c)) 1073741823 i)), (9, .int (mxf x (fun p => decide (cr2 p = some c)) (-1073741823) i)), (10, .int (mxf y (fun p => decide (cr2 p = some c)) (-1073741823) i)), (11, .int (nI i))]) F dX1_about_114 (by decide) rfl ?_
                  refine g_iload F dX1_about_116 rfl ?_
                  refine g_aload_n F dX1_about_118 rfl rfl ?_
                  refine gM_get_weights F dX1_about_119 ?_
                  refine g_iload F dX1_about_122 rfl ?_
                  refine gM_ld_weights F hi dX1_about_124 ?_
                  refine g_topi (y := nI (v i)) (congrArg nI hwv) ?_
                  refine g_iadd_n F dX1_about_125 ?_
                  refine g_istore (lv2 := [(0, .ref (a 0)), (1, .int (nI c)), (2, .int (nI k)), (3, .int (nI ((sumN (fun p => if cr2 p = some c then 1 else 0) i) + 1))), (4, .int (nI ((sumN (fun p => if co2 p = true ∧ cr2 p = some c then 1 else 0) i) + 1))), (5, .int (nI ((sumN (fun p => if cr2 p = some c then v p else 0) i) + (v i)))), (6, .int (oI (firstN (fun p => co2 p && decide (cr2 p = some c)) i))), (7, .int (mnf x (fun p => decide (cr2 p = some c)) 1073741823 i)), (8, .int (mnf y (fun p => decide (cr2 p = some c)) 1073741823 i)), (9, .int (mxf x (fun p => decide (cr2 p = some c)) (-1073741823) i)), (10, .int (mxf y (fun p => decide (cr2 p = some c)) (-1073741823) i)), (11, .int (nI i))]) F dX1_about_126 (by decide) rfl ?_
                  rw [sumN_c (f := (fun p => if cr2 p = some c then 1 else 0)) (n := i) (c := cr2 i = some c) (v := 1) rfl h7, sumN_c (f := (fun p => if co2 p = true ∧ cr2 p = some c then 1 else 0)) (n := i) (c := co2 i = true ∧ cr2 i = some c) (v := 1) rfl ⟨h8, h7⟩, sumN_c (f := (fun p => if cr2 p = some c then v p else 0)) (n := i) (c := cr2 i = some c) (v := v i) rfl h7] at k128
                  exact k128
              · have hne : cr2 i ≠ some c := h7
                refine g_goto F 256 dX1_about_90 (by decide) ?_
                refine g_iinc (lv2 := [(0, .ref (a 0)), (1, .int (nI c)), (2, .int (nI k)), (3, .int (nI (sumN (fun p => if cr2 p = some c then 1 else 0) i))), (4, .int (nI (sumN (fun p => if co2 p = true ∧ cr2 p = some c then 1 else 0) i))), (5, .int (nI (sumN (fun p => if cr2 p = some c then v p else 0) i))), (6, .int (oI (firstN (fun p => co2 p && decide (cr2 p = some c)) i))), (7, .int (mnf x (fun p => decide (cr2 p = some c)) 1073741823 i)), (8, .int (mnf y (fun p => decide (cr2 p = some c)) 1073741823 i)), (9, .int (mxf x (fun p => decide (cr2 p = some c)) (-1073741823) i)), (10, .int (mxf y (fun p => decide (cr2 p = some c)) (-1073741823) i)), (11, .int (nI (i + 1)))]) F (nI (i + 1)) dX1_about_256 rfl (nI_add i 1) (by decide) rfl ?_
                refine g_goto F 62 dX1_about_259 (by decide) ?_
                rw [sumN_z (f := (fun p => if cr2 p = some c then 1 else 0)) (n := i) (c := cr2 i = some c) (v := 1) rfl hne, sumN_z (f := (fun p => if co2 p = true ∧ cr2 p = some c then 1 else 0)) (n := i) (c := co2 i = true ∧ cr2 i = some c) (v := 1) rfl (fun z => hne z.2), sumN_z (f := (fun p => if cr2 p = some c then v p else 0)) (n := i) (c := cr2 i = some c) (v := v i) rfl hne, fN_skip (s := (fun p => co2 p && decide (cr2 p = some c))) (by simp [hne]), mnf_n (x := x) (s := (fun p => decide (cr2 p = some c))) (z := 1073741823) (n := i) (by simp [hne]), mnf_n (x := y) (s := (fun p => decide (cr2 p = some c))) (z := 1073741823) (n := i) (by simp [hne]), mxf_n (x := x) (s := (fun p => decide (cr2 p = some c))) (z := (-1073741823)) (n := i) (by simp [hne]), mxf_n (x := y) (s := (fun p => decide (cr2 p = some c))) (z := (-1073741823)) (n := i) (by simp [hne])] at ih
                exact ih
        · refine g_iconst F (oI none) dX1_about_30 (by decide) ?_
          exact E _ _ _ _ dX1_about_31 ⟨⟨co2, cr2, cc2, hs2, by unfold aboutF; exact about_out (by intro z; exact h4 (by rw [z]; decide)) (by intro z; exact h4 (by rw [z]; decide)) (by intro z; exact h4 (by rw [z]; decide)) (by intro z; exact h4 (by rw [z]; decide)) (by intro z; exact h4 (by rw [z]; decide)) (by intro z; exact h4 (by rw [z]; decide)) (by intro z; exact h4 (by rw [z]; decide)) (by intro z; exact h4 (by rw [z]; decide))⟩, ⟨_, _, _, _, _, _, _, _, rfl, hM⟩⟩
