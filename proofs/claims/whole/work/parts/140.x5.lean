theorem XI_sorted {w : Nat → Nat} {x y : Nat → Int32} {wy re de : Nat} {co : Nat → Bool} {cr : Nat → Option Nat} {cc sr : Nat} {so : Bool} {cf : Nat → Option Nat} {ck : Bool} {ng nw cs : Nat → Nat} {co2 : Nat → Bool} {cr2 : Nat → Option Nat} {cc2 r0 : Nat} (hI : XI w x y wy re de co cr cc sr so cf ck ng nw cs) (hb : bdC cr2) (hs : Srt w x y wy de r0 co2 cr2 cc2) (hr : r0 < 2 ^ 63) : XI w x y wy re de co2 cr2 cc2 r0 true cf ck ng nw cs :=
  ⟨hI.1, hb, hr, fun _ => hs, hI.2.2.2.2.1, hI.2.2.2.2.2.1, hI.2.2.2.2.2.2.1, hs.cc120⟩
/-- what was known is forgotten -/
theorem XI_new {w w2 : Nat → Nat} {x y x2 y2 : Nat → Int32} {wy re de wy2 re2 de2 : Nat} {co : Nat → Bool} {cr : Nat → Option Nat} {cc sr : Nat} {so : Bool} {cf : Nat → Option Nat} {ck : Bool} {ng nw cs : Nat → Nat} (hI : XI w x y wy re de co cr cc sr so cf ck ng nw cs) (hf : WFp w2 x2 y2 wy2 re2 de2) : XI w2 x2 y2 wy2 re2 de2 co cr cc sr false cf false ng nw cs :=
  ⟨hf, hI.2.1, hI.2.2.1, fun h => (by cases h), fun h => (by cases h), hI.2.2.2.2.2.1, hI.2.2.2.2.2.2.1, hI.2.2.2.2.2.2.2⟩
theorem i32_of {z lo hi : Int32} {m n : Nat} (h1 : ¬ z < lo) (h2 : z ≤ hi) (hl : lo.toInt = m) (hh : hi.toInt = n) : ∃ k, m ≤ k ∧ k ≤ n ∧ z = nI k := by
  have a1 : ¬ z.toInt < lo.toInt := fun q => h1 (Int32.lt_iff_toInt_lt.mpr q)
  have a2 := Int32.le_iff_toInt_le.mp h2
  have a3 := hi.toInt_lt
  refine ⟨z.toInt.toNat, by omega, by omega, Int32.toInt_inj.mp ?_⟩
  rw [nI_toInt (by omega)]
  omega
theorem up_R {x : Nat → Int32} {j : Nat} {v : Int32} (h : ∀ i, inR (x i)) (hv : inR v) : ∀ i, inR (up x j v i) := fun i => by
  unfold up
  split
  · exact hv
  · exact h i
theorem WFp_pt {w : Nat → Nat} {x y : Nat → Int32} {wy re de j n : Nat} {px py : Int32} (hf : WFp w x y wy re de) (hn : n ≤ 20) (hp : isPl px py = true) : WFp (up w j n) (up x j px) (up y j py) wy re de :=
  ⟨up_le hf.1 hn, up_R hf.2.1 (isPl_inR hp).1, up_R hf.2.2.1 (isPl_inR hp).2, hf.2.2.2⟩
theorem WFp_mv {w : Nat → Nat} {x y : Nat → Int32} {wy re de j : Nat} {px py : Int32} (hf : WFp w x y wy re de) (hp : isPl px py = true) : WFp w (up x j px) (up y j py) wy re de :=
  ⟨hf.1, up_R hf.2.1 (isPl_inR hp).1, up_R hf.2.2.1 (isPl_inR hp).2, hf.2.2.2⟩
theorem WFp_rm {w : Nat → Nat} {x y : Nat → Int32} {wy re de j : Nat} (hf : WFp w x y wy re de) : WFp (up w j 0) x y wy re de := ⟨up_le hf.1 (by omega), hf.2⟩
set_option maxHeartbeats 4000000 in
set_option maxRecDepth 100000 in
/-- point -/
theorem cX_point {l : Launch} {D : va_G} {t : Ty3} {a : Nat → Nat} {w : Nat → Nat} {x : Nat → Int32} {y : Nat → Int32} {wy : Nat} {re : Nat} {de : Nat} {co : Nat → Bool} {cr : Nat → Option Nat} {cc : Nat} {sr : Nat} {so : Bool} {cf : Nat → Option Nat} {ck : Bool} {ng : Nat → Nat} {nw : Nat → Nat} {cs : Nat → Nat} {se : Nat → Bool} (hI : XI w x y wy re de co cr cc sr so cf ck ng nw cs) (p0 p1 p2 : Int32) : CtI (EE l D t) yX0_point tsX0_point (RM 2 43) [.ref (a 0), .int p0, .int p1, .int p2] (WX a t w x y wy re de co cr cc sr so cf ck ng nw cs se) 0 0 (fun r u => r = (pointF w x y wy re de p0 p1 p2).1 ∧ XW a t (pointF w x y wy re de p0 p1 p2).2 u) := by
  refine CtI.of (by decide +kernel) rfl (Nat.le_of_ble_eq_true rfl) (fun X F E => ?_)
  show GG (EE l D t) X 0 0 0 [(0, .ref (a 0)), (1, .int p0), (2, .int p1), (3, .int p2)] [] (WX a t w x y wy re de co cr cc sr so cf ck ng nw cs se)
  refine g_iload_n F dX0_point_0 rfl rfl ?_
  refine g_iload_n F dX0_point_1 rfl rfl ?_
  refine c_SI F [] (wr := []) (cX_isPlace p0 p1) cwX0_X0_isPlace ⟨by decide, by decide, rfl, rfl⟩ rfl rfl (Nat.le_of_ble_eq_true rfl) ⟨by decide, by decide⟩ dX0_point_2 (fun r u hu => ?_)
  obtain ⟨rfl, rfl⟩ := hu
  show GG (EE l D t) X 0 0 5 [(0, .ref (a 0)), (1, .int p0), (2, .int p1), (3, .int p2)] [.int (b2 (isPl p0 p1))] (WX a t w x y wy re de co cr cc sr so cf ck ng nw cs se)
  refine g_if_eq_b F 19 dX0_point_5 (by decide)  (fun h => ?_) (fun h => ?_)
  · refine g_iconst F (oI none) dX0_point_19 (by decide) ?_
    exact E _ _ _ _ dX0_point_20 (by rw [show pointF w x y wy re de p0 p1 p2 = (oI none, (w, x, y, wy, re, de)) from by unfold pointF; rw [if_neg (fun z => by rw [h] at z; cases z.1)]]; exact ⟨rfl, ⟨_, _, _, _, _, _, _, _, _, _, _, rfl, hI⟩⟩)
  · refine g_iload_n F dX0_point_8 rfl rfl ?_
    refine g_iconst F 1 dX0_point_9 (by decide) ?_
    refine g_icmp_lt F 19 dX0_point_10 (by decide)  (fun h2 => ?_) (fun h2 => ?_)
    · refine g_iconst F (oI none) dX0_point_19 (by decide) ?_
      exact E _ _ _ _ dX0_point_20 (by rw [show pointF w x y wy re de p0 p1 p2 = (oI none, (w, x, y, wy, re, de)) from by unfold pointF; rw [if_neg (fun z => z.2.1 h2)]]; exact ⟨rfl, ⟨_, _, _, _, _, _, _, _, _, _, _, rfl, hI⟩⟩)
    · refine g_iload_n F dX0_point_13 rfl rfl ?_
      refine g_bipush F 20 dX0_point_14 (by decide) ?_
      refine g_icmp_le F 21 dX0_point_16 (by decide)  (fun h3 => ?_) (fun h3 => ?_)
      · refine g_aload_n F dX0_point_21 rfl rfl ?_
        refine c_VI F [] (wr := []) (cX_leastFree hI.1.1) cwX0_X0_leastFree ⟨by decide, by decide, rfl, rfl⟩ rfl rfl rfl rfl (Nat.le_of_ble_eq_true rfl) ⟨by decide, by decide⟩ dX0_point_22 (fun r u hu => ?_)
        obtain ⟨rfl, rfl⟩ := hu
        show GG (EE l D t) X 0 0 25 [(0, .ref (a 0)), (1, .int p0), (2, .int p1), (3, .int p2)] [.int (oI (fst1 (fun j => decide (w j = 0))))] (WX a t w x y wy re de co cr cc sr so cf ck ng nw cs se)
        cases hq : fst1 (fun j => decide (w j = 0)) with
        | none =>
          refine g_istore (lv2 := [(0, .ref (a 0)), (1, .int p0), (2, .int p1), (3, .int p2), (4, .int (oI none))]) F dX0_point_25 (by decide) rfl ?_
          refine g_iload F dX0_point_27 rfl ?_
          refine g_iconst F (oI none) dX0_point_29 (by decide) ?_
          refine g_icmp_ne_o F 35 dX0_point_30 (by decide) (fun k hk => by cases hk) (fun h => absurd rfl h) (fun h9 => ?_)
          refine g_iconst F (oI none) dX0_point_33 (by decide) ?_
          exact E _ _ _ _ dX0_point_34 (by rw [show pointF w x y wy re de p0 p1 p2 = (oI none, (w, x, y, wy, re, de)) from by unfold pointF; rw [if_pos ⟨h, h2, h3⟩, hq]]; exact ⟨rfl, ⟨_, _, _, _, _, _, _, _, _, _, _, rfl, hI⟩⟩)
        | some j =>
          refine g_istore (lv2 := [(0, .ref (a 0)), (1, .int p0), (2, .int p1), (3, .int p2), (4, .int (oI (some j)))]) F dX0_point_25 (by decide) rfl ?_
          refine g_iload F dX0_point_27 rfl ?_
          refine g_iconst F (oI none) dX0_point_29 (by decide) ?_
          obtain ⟨hj, -, -⟩ := firstN_spec (by rw [← fst1_eq]; exact hq)
          refine g_icmp_ne_o F 35 dX0_point_30 (by decide) (fun k hk => by cases hk; omega) (fun h9 => ?_) (fun h9 => absurd h9 (by simp))
          obtain ⟨m, hm1, hm2, rfl⟩ := i32_of (m := 1) (n := 20) h2 h3 (by decide) (by decide)
          show GG (EE l D t) X 0 0 35 [(0, .ref (a 0)), (1, .int p0), (2, .int p1), (3, .int (nI m)), (4, .int (nI j))] [] (WX a t w x y wy re de co cr cc sr so cf ck ng nw cs se)
          refine g_aload_n F dX0_point_35 rfl rfl ?_
          refine gX_get_weights F dX0_point_36 ?_
          refine g_iload F dX0_point_39 rfl ?_
          refine g_iload_n F dX0_point_41 rfl rfl ?_
          refine gX_st_weights F hj dX0_point_42 ?_
          refine g_aload_n F dX0_point_43 rfl rfl ?_
          refine g_iload F dX0_point_44 rfl ?_
          refine g_iload_n F dX0_point_46 rfl rfl ?_
          refine g_iload_n F dX0_point_47 rfl rfl ?_
          refine c_VV F [] (wr := []) (cX_put hj p0 p1) cwX0_X0_put ⟨by decide, by decide, rfl, rfl⟩ rfl rfl rfl rfl (Nat.le_of_ble_eq_true rfl) ⟨by decide, by decide⟩ dX0_point_48 (fun u hu => ?_)
          obtain rfl := hu
          show GG (EE l D t) X 0 0 51 [(0, .ref (a 0)), (1, .int p0), (2, .int p1), (3, .int (nI m)), (4, .int (nI j))] [] (WX a t (up w j m) (up x j p0) (up y j p1) wy re de co cr cc sr false cf false ng nw cs se)
          refine g_iload F dX0_point_51 rfl ?_
          exact E _ _ _ _ dX0_point_53 (by rw [show pointF w x y wy re de p0 p1 (nI m) = (nI j, (up w j m, up x j p0, up y j p1, wy, re, de)) from by unfold pointF; rw [if_pos ⟨h, h2, h3⟩, hq]; dsimp only; rw [nI_clamp (by omega)]]; exact ⟨rfl, ⟨_, _, _, _, _, _, _, _, _, _, _, rfl, XI_new hI (WFp_pt hI.1 hm2 h)⟩⟩)
      · refine g_iconst F (oI none) dX0_point_19 (by decide) ?_
        exact E _ _ _ _ dX0_point_20 (by rw [show pointF w x y wy re de p0 p1 p2 = (oI none, (w, x, y, wy, re, de)) from by unfold pointF; rw [if_neg (fun z => h3 z.2.2)]]; exact ⟨rfl, ⟨_, _, _, _, _, _, _, _, _, _, _, rfl, hI⟩⟩)
set_option maxHeartbeats 4000000 in
set_option maxRecDepth 100000 in
/-- remove -/
theorem cX_remove {l : Launch} {D : va_G} {t : Ty3} {a : Nat → Nat} {w : Nat → Nat} {x : Nat → Int32} {y : Nat → Int32} {wy : Nat} {re : Nat} {de : Nat} {co : Nat → Bool} {cr : Nat → Option Nat} {cc : Nat} {sr : Nat} {so : Bool} {cf : Nat → Option Nat} {ck : Bool} {ng : Nat → Nat} {nw : Nat → Nat} {cs : Nat → Nat} {se : Nat → Bool} (hI : XI w x y wy re de co cr cc sr so cf ck ng nw cs) (p : Int32) : CtI (EE l D t) yX0_remove tsX0_remove (RM 1 22) [.ref (a 0), .int p] (WX a t w x y wy re de co cr cc sr so cf ck ng nw cs se) 0 0 (fun r u => r = (removeF w x y wy re de p).1 ∧ XW a t (removeF w x y wy re de p).2 u) := by
  refine CtI.of (by decide +kernel) rfl (Nat.le_of_ble_eq_true rfl) (fun X F E => ?_)
  show GG (EE l D t) X 0 0 0 [(0, .ref (a 0)), (1, .int p)] [] (WX a t w x y wy re de co cr cc sr so cf ck ng nw cs se)
  refine g_aload_n F dX0_remove_0 rfl rfl ?_
  refine g_iload_n F dX0_remove_1 rfl rfl ?_
  refine c_VI F [] (wr := []) (cX_isPoint hI.1.1 p) cwX0_X0_isPoint ⟨by decide, by decide, rfl, rfl⟩ rfl rfl rfl rfl (Nat.le_of_ble_eq_true rfl) ⟨by decide, by decide⟩ dX0_remove_2 (fun r u hu => ?_)
  obtain ⟨rfl, rfl⟩ := hu
  show GG (EE l D t) X 0 0 5 [(0, .ref (a 0)), (1, .int p)] [.int (b2 (isPt (fun j => decide (0 < w j)) p))] (WX a t w x y wy re de co cr cc sr so cf ck ng nw cs se)
  refine g_if_ne_b F 10 dX0_remove_5 (by decide)  (fun h => ?_) (fun h => ?_)
  · obtain ⟨j, hj, rfl, hwj⟩ := isPt_t h
    have hwj : 0 < w j := of_decide_eq_true hwj
    refine g_aload_n F dX0_remove_10 rfl rfl ?_
    refine gX_get_weights F dX0_remove_11 ?_
    refine g_iload_n F dX0_remove_14 rfl rfl ?_
    refine g_iconst F (nI 0) dX0_remove_15 (by decide) ?_
    refine gX_st_weights F hj dX0_remove_16 ?_
    refine g_aload_n F dX0_remove_17 rfl rfl ?_
    refine c_VV F [] (wr := []) cX_forget cwX0_X0_forget ⟨by decide, by decide, rfl, rfl⟩ rfl rfl rfl rfl (Nat.le_of_ble_eq_true rfl) ⟨by decide, by decide⟩ dX0_remove_18 (fun u hu => ?_)
    obtain rfl := hu
    show GG (EE l D t) X 0 0 21 [(0, .ref (a 0)), (1, .int (nI j))] [] (WX a t (up w j 0) x y wy re de co cr cc sr false cf false ng nw cs se)
    refine g_aload_n F dX0_remove_21 rfl rfl ?_
    refine c_VI F [] (wr := []) (cX_countPoints (up_le hI.1.1 (by omega))) cwX0_X0_countPoints ⟨by decide, by decide, rfl, rfl⟩ rfl rfl rfl rfl (Nat.le_of_ble_eq_true rfl) ⟨by decide, by decide⟩ dX0_remove_22 (fun r u hu => ?_)
    obtain ⟨rfl, rfl⟩ := hu
    show GG (EE l D t) X 0 0 25 [(0, .ref (a 0)), (1, .int (nI j))] [.int (nI (sum1 (fun i => if 0 < up w j 0 i then 1 else 0)))] (WX a t (up w j 0) x y wy re de co cr cc sr false cf false ng nw cs se)
    exact E _ _ _ _ dX0_remove_25 (by rw [show removeF w x y wy re de (nI j) = (nI (sum1 (fun i => if 0 < up w j 0 i then 1 else 0)), (up w j 0, x, y, wy, re, de)) from by unfold removeF; rw [pt_nI hj hwj]]; exact ⟨rfl, ⟨_, _, _, _, _, _, _, _, _, _, _, rfl, XI_new hI (WFp_rm hI.1)⟩⟩)
  · refine g_iconst F (oI none) dX0_remove_8 (by decide) ?_
    exact E _ _ _ _ dX0_remove_9 (by rw [show removeF w x y wy re de p = (oI none, (w, x, y, wy, re, de)) from by unfold removeF; rw [pt_f h]]; exact ⟨rfl, ⟨_, _, _, _, _, _, _, _, _, _, _, rfl, hI⟩⟩)
set_option maxHeartbeats 4000000 in
set_option maxRecDepth 100000 in
/-- move -/
theorem cX_move {l : Launch} {D : va_G} {t : Ty3} {a : Nat → Nat} {w : Nat → Nat} {x : Nat → Int32} {y : Nat → Int32} {wy : Nat} {re : Nat} {de : Nat} {co : Nat → Bool} {cr : Nat → Option Nat} {cc : Nat} {sr : Nat} {so : Bool} {cf : Nat → Option Nat} {ck : Bool} {ng : Nat → Nat} {nw : Nat → Nat} {cs : Nat → Nat} {se : Nat → Bool} (hI : XI w x y wy re de co cr cc sr so cf ck ng nw cs) (p p0 p1 : Int32) : CtI (EE l D t) yX0_move tsX0_move (RM 2 43) [.ref (a 0), .int p, .int p0, .int p1] (WX a t w x y wy re de co cr cc sr so cf ck ng nw cs se) 0 0 (fun r u => r = (moveF w x y wy re de p p0 p1).1 ∧ XW a t (moveF w x y wy re de p p0 p1).2 u) := by
  refine CtI.of (by decide +kernel) rfl (Nat.le_of_ble_eq_true rfl) (fun X F E => ?_)
  show GG (EE l D t) X 0 0 0 [(0, .ref (a 0)), (1, .int p), (2, .int p0), (3, .int p1)] [] (WX a t w x y wy re de co cr cc sr so cf ck ng nw cs se)
  refine g_aload_n F dX0_move_0 rfl rfl ?_
  refine g_iload_n F dX0_move_1 rfl rfl ?_
  refine c_VI F [] (wr := []) (cX_isPoint hI.1.1 p) cwX0_X0_isPoint ⟨by decide, by decide, rfl, rfl⟩ rfl rfl rfl rfl (Nat.le_of_ble_eq_true rfl) ⟨by decide, by decide⟩ dX0_move_2 (fun r u hu => ?_)
  obtain ⟨rfl, rfl⟩ := hu
  show GG (EE l D t) X 0 0 5 [(0, .ref (a 0)), (1, .int p), (2, .int p0), (3, .int p1)] [.int (b2 (isPt (fun j => decide (0 < w j)) p))] (WX a t w x y wy re de co cr cc sr so cf ck ng nw cs se)
  refine g_if_eq_b F 16 dX0_move_5 (by decide)  (fun h => ?_) (fun h => ?_)
  · refine g_iconst F (nI 0) dX0_move_16 (by decide) ?_
    exact E _ _ _ _ dX0_move_17 (by rw [show moveF w x y wy re de p p0 p1 = (nI 0, (w, x, y, wy, re, de)) from by unfold moveF; rw [pt_f h]]; exact ⟨rfl, ⟨_, _, _, _, _, _, _, _, _, _, _, rfl, hI⟩⟩)
  · obtain ⟨j, hj, rfl, hwj⟩ := isPt_t h
    have hwj : 0 < w j := of_decide_eq_true hwj
    refine g_iload_n F dX0_move_8 rfl rfl ?_
    refine g_iload_n F dX0_move_9 rfl rfl ?_
    refine c_SI F [] (wr := []) (cX_isPlace p0 p1) cwX0_X0_isPlace ⟨by decide, by decide, rfl, rfl⟩ rfl rfl (Nat.le_of_ble_eq_true rfl) ⟨by decide, by decide⟩ dX0_move_10 (fun r u hu => ?_)
    obtain ⟨rfl, rfl⟩ := hu
    show GG (EE l D t) X 0 0 13 [(0, .ref (a 0)), (1, .int (nI j)), (2, .int p0), (3, .int p1)] [.int (b2 (isPl p0 p1))] (WX a t w x y wy re de co cr cc sr so cf ck ng nw cs se)
    refine g_if_ne_b F 18 dX0_move_13 (by decide)  (fun h2 => ?_) (fun h2 => ?_)
    · refine g_aload_n F dX0_move_18 rfl rfl ?_
      refine g_iload_n F dX0_move_19 rfl rfl ?_
      refine g_iload_n F dX0_move_20 rfl rfl ?_
      refine g_iload_n F dX0_move_21 rfl rfl ?_
      refine c_VV F [] (wr := []) (cX_put hj p0 p1) cwX0_X0_put ⟨by decide, by decide, rfl, rfl⟩ rfl rfl rfl rfl (Nat.le_of_ble_eq_true rfl) ⟨by decide, by decide⟩ dX0_move_22 (fun u hu => ?_)
      obtain rfl := hu
      show GG (EE l D t) X 0 0 25 [(0, .ref (a 0)), (1, .int (nI j)), (2, .int p0), (3, .int p1)] [] (WX a t w (up x j p0) (up y j p1) wy re de co cr cc sr false cf false ng nw cs se)
      refine g_iconst F (nI 1) dX0_move_25 (by decide) ?_
      exact E _ _ _ _ dX0_move_26 (by rw [show moveF w x y wy re de (nI j) p0 p1 = (nI 1, (w, up x j p0, up y j p1, wy, re, de)) from by unfold moveF; rw [pt_nI hj hwj]; dsimp only; rw [if_pos h2]]; exact ⟨rfl, ⟨_, _, _, _, _, _, _, _, _, _, _, rfl, XI_new hI (WFp_mv hI.1 h2)⟩⟩)
    · refine g_iconst F (nI 0) dX0_move_16 (by decide) ?_
      exact E _ _ _ _ dX0_move_17 (by rw [show moveF w x y wy re de (nI j) p0 p1 = (nI 0, (w, x, y, wy, re, de)) from by unfold moveF; rw [pt_nI hj hwj]; dsimp only; rw [if_neg (by simp [h2])]]; exact ⟨rfl, ⟨_, _, _, _, _, _, _, _, _, _, _, rfl, hI⟩⟩)
set_option maxHeartbeats 4000000 in
set_option maxRecDepth 100000 in
/-- way -/
theorem cX_way {l : Launch} {D : va_G} {t : Ty3} {a : Nat → Nat} {w : Nat → Nat} {x : Nat → Int32} {y : Nat → Int32} {wy : Nat} {re : Nat} {de : Nat} {co : Nat → Bool} {cr : Nat → Option Nat} {cc : Nat} {sr : Nat} {so : Bool} {cf : Nat → Option Nat} {ck : Bool} {ng : Nat → Nat} {nw : Nat → Nat} {cs : Nat → Nat} {se : Nat → Bool} (hI : XI w x y wy re de co cr cc sr so cf ck ng nw cs) (p : Int32) : CtI (EE l D t) yX0_way tsX0_way (RM 1 20) [.ref (a 0), .int p] (WX a t w x y wy re de co cr cc sr so cf ck ng nw cs se) 0 0 (fun r u => r = (wayF w x y wy re de p).1 ∧ XW a t (wayF w x y wy re de p).2 u) := by
  refine CtI.of (by decide +kernel) rfl (Nat.le_of_ble_eq_true rfl) (fun X F E => ?_)
  show GG (EE l D t) X 0 0 0 [(0, .ref (a 0)), (1, .int p)] [] (WX a t w x y wy re de co cr cc sr so cf ck ng nw cs se)
  refine g_iload_n F dX0_way_0 rfl rfl ?_
  refine g_if_lt F 9 dX0_way_1 (by decide)  (fun h => ?_) (fun h => ?_)
  · refine g_iconst F (nI 0) dX0_way_9 (by decide) ?_
    exact E _ _ _ _ dX0_way_10 (by rw [show wayF w x y wy re de p = (nI 0, (w, x, y, wy, re, de)) from by unfold wayF; rw [if_neg (fun z => z.1 h)]]; exact ⟨rfl, ⟨_, _, _, _, _, _, _, _, _, _, _, rfl, hI⟩⟩)
  · refine g_iload_n F dX0_way_4 rfl rfl ?_
    refine g_iconst F 2 dX0_way_5 (by decide) ?_
    refine g_icmp_le F 11 dX0_way_6 (by decide)  (fun h2 => ?_) (fun h2 => ?_)
    · obtain ⟨m, hm1, hm2, rfl⟩ := i32_of (m := 0) (n := 2) h h2 (by decide) (by decide)
      refine g_aload_n F dX0_way_11 rfl rfl ?_
      refine g_iload_n F dX0_way_12 rfl rfl ?_
      refine gX_put_wayNow F dX0_way_13 ?_
      refine g_aload_n F dX0_way_16 rfl rfl ?_
      refine c_VV F [] (wr := []) cX_forget cwX0_X0_forget ⟨by decide, by decide, rfl, rfl⟩ rfl rfl rfl rfl (Nat.le_of_ble_eq_true rfl) ⟨by decide, by decide⟩ dX0_way_17 (fun u hu => ?_)
      obtain rfl := hu
      show GG (EE l D t) X 0 0 20 [(0, .ref (a 0)), (1, .int (nI m))] [] (WX a t w x y m re de co cr cc sr false cf false ng nw cs se)
      refine g_iconst F (nI 1) dX0_way_20 (by decide) ?_
      exact E _ _ _ _ dX0_way_21 (by rw [show wayF w x y wy re de (nI m) = (nI 1, (w, x, y, m, re, de)) from by unfold wayF; rw [if_pos ⟨h, h2⟩, nI_clamp (by omega)]]; exact ⟨rfl, ⟨_, _, _, _, _, _, _, _, _, _, _, rfl, XI_new hI ⟨hI.1.1, hI.1.2.1, hI.1.2.2.1, hm2, hI.1.2.2.2.2⟩⟩⟩)
    · refine g_iconst F (nI 0) dX0_way_9 (by decide) ?_
      exact E _ _ _ _ dX0_way_10 (by rw [show wayF w x y wy re de p = (nI 0, (w, x, y, wy, re, de)) from by unfold wayF; rw [if_neg (fun z => h2 z.2)]]; exact ⟨rfl, ⟨_, _, _, _, _, _, _, _, _, _, _, rfl, hI⟩⟩)
theorem l_neg {z : Int64} (h : ¬ 0 ≤ z) : z < 0 := by
  rcases lg_tri z 0 with q | q | q
  · exact q
  · exact absurd (by rw [q]; exact Int64.le_refl _) h
  · exact absurd (Int64.le_of_lt q) h
set_option maxHeartbeats 4000000 in
set_option maxRecDepth 100000 in
/-- reach -/
theorem cX_reach {l : Launch} {D : va_G} {t : Ty3} {a : Nat → Nat} {w : Nat → Nat} {x : Nat → Int32} {y : Nat → Int32} {wy : Nat} {re : Nat} {de : Nat} {co : Nat → Bool} {cr : Nat → Option Nat} {cc : Nat} {sr : Nat} {so : Bool} {cf : Nat → Option Nat} {ck : Bool} {ng : Nat → Nat} {nw : Nat → Nat} {cs : Nat → Nat} {se : Nat → Bool} (hI : XI w x y wy re de co cr cc sr so cf ck ng nw cs) (p : Int64) : CtI (EE l D t) yX0_reach tsX0_reach (RM 0 0) [.ref (a 0), .long p] (WX a t w x y wy re de co cr cc sr so cf ck ng nw cs se) 0 0 (fun r u => r = (reachF w x y wy re de p).1 ∧ XW a t (reachF w x y wy re de p).2 u) := by
  refine CtI.of (by decide +kernel) rfl (Nat.le_of_ble_eq_true rfl) (fun X F E => ?_)
  show GG (EE l D t) X 0 0 0 [(0, .ref (a 0)), (1, .long p)] [] (WX a t w x y wy re de co cr cc sr so cf ck ng nw cs se)
  refine g_lload_n F dX0_reach_0 rfl rfl ?_
  refine g_lconst F 0 dX0_reach_1 rfl ?_
  refine g_lc_ge F 8 dX0_reach_2 dX0_reach_3 (by decide)  (fun h => ?_) (fun h => ?_)
  · have h9 : ¬ p < 0 := lg_le_not_lt h
    obtain ⟨m, hm, rfl⟩ := pk_lOf h9
    refine g_aload_n F dX0_reach_8 rfl rfl ?_
    refine g_lload_n F dX0_reach_9 rfl rfl ?_
    refine gX_put_reachNow F dX0_reach_10 ?_
    refine g_iconst F (nI 1) dX0_reach_13 (by decide) ?_
    exact E _ _ _ _ dX0_reach_14 (by rw [show reachF w x y wy re de (lN m) = (nI 1, (w, x, y, wy, m, de)) from by unfold reachF; rw [if_neg h9, pk_lT hm]; rfl]; exact ⟨rfl, ⟨_, _, _, _, _, _, _, _, _, _, _, rfl, ⟨⟨hI.1.1, hI.1.2.1, hI.1.2.2.1, hI.1.2.2.2.1, hm, hI.1.2.2.2.2.2⟩, hI.2⟩⟩⟩)
  · refine g_iconst F (nI 0) dX0_reach_6 (by decide) ?_
    exact E _ _ _ _ dX0_reach_7 (by rw [show reachF w x y wy re de p = (nI 0, (w, x, y, wy, re, de)) from by unfold reachF; rw [if_pos (l_neg h)]]; exact ⟨rfl, ⟨_, _, _, _, _, _, _, _, _, _, _, rfl, hI⟩⟩)
set_option maxHeartbeats 4000000 in
set_option maxRecDepth 100000 in
/-- demand -/
theorem cX_demand {l : Launch} {D : va_G} {t : Ty3} {a : Nat → Nat} {w : Nat → Nat} {x : Nat → Int32} {y : Nat → Int32} {wy : Nat} {re : Nat} {de : Nat} {co : Nat → Bool} {cr : Nat → Option Nat} {cc : Nat} {sr : Nat} {so : Bool} {cf : Nat → Option Nat} {ck : Bool} {ng : Nat → Nat} {nw : Nat → Nat} {cs : Nat → Nat} {se : Nat → Bool} (hI : XI w x y wy re de co cr cc sr so cf ck ng nw cs) (p : Int32) : CtI (EE l D t) yX0_demand tsX0_demand (RM 1 20) [.ref (a 0), .int p] (WX a t w x y wy re de co cr cc sr so cf ck ng nw cs se) 0 0 (fun r u => r = (demandF w x y wy re de p).1 ∧ XW a t (demandF w x y wy re de p).2 u) := by
  refine CtI.of (by decide +kernel) rfl (Nat.le_of_ble_eq_true rfl) (fun X F E => ?_)
  show GG (EE l D t) X 0 0 0 [(0, .ref (a 0)), (1, .int p)] [] (WX a t w x y wy re de co cr cc sr so cf ck ng nw cs se)
  refine g_iload_n F dX0_demand_0 rfl rfl ?_
  refine g_iconst F 1 dX0_demand_1 (by decide) ?_
  refine g_icmp_lt F 12 dX0_demand_2 (by decide)  (fun h => ?_) (fun h => ?_)
  · refine g_iconst F (nI 0) dX0_demand_12 (by decide) ?_
    exact E _ _ _ _ dX0_demand_13 (by rw [show demandF w x y wy re de p = (nI 0, (w, x, y, wy, re, de)) from by unfold demandF; rw [if_neg (fun z => z.1 h)]]; exact ⟨rfl, ⟨_, _, _, _, _, _, _, _, _, _, _, rfl, hI⟩⟩)
  · refine g_iload_n F dX0_demand_5 rfl rfl ?_
    refine g_sipush F 2400 dX0_demand_6 (by decide) ?_
    refine g_icmp_le F 14 dX0_demand_9 (by decide)  (fun h2 => ?_) (fun h2 => ?_)
    · obtain ⟨m, hm1, hm2, rfl⟩ := i32_of (m := 1) (n := 2400) h h2 (by decide) (by decide)
      refine g_aload_n F dX0_demand_14 rfl rfl ?_
      refine g_iload_n F dX0_demand_15 rfl rfl ?_
      refine gX_put_demandNow F dX0_demand_16 ?_
      refine g_aload_n F dX0_demand_19 rfl rfl ?_
      refine c_VV F [] (wr := []) cX_forget cwX0_X0_forget ⟨by decide, by decide, rfl, rfl⟩ rfl rfl rfl rfl (Nat.le_of_ble_eq_true rfl) ⟨by decide, by decide⟩ dX0_demand_20 (fun u hu => ?_)
      obtain rfl := hu
      show GG (EE l D t) X 0 0 23 [(0, .ref (a 0)), (1, .int (nI m))] [] (WX a t w x y wy re m co cr cc sr false cf false ng nw cs se)
      refine g_iconst F (nI 1) dX0_demand_23 (by decide) ?_
      exact E _ _ _ _ dX0_demand_24 (by rw [show demandF w x y wy re de (nI m) = (nI 1, (w, x, y, wy, re, m)) from by unfold demandF; rw [if_pos ⟨h, h2⟩, nI_clamp (by omega)]]; exact ⟨rfl, ⟨_, _, _, _, _, _, _, _, _, _, _, rfl, XI_new hI ⟨hI.1.1, hI.1.2.1, hI.1.2.2.1, hI.1.2.2.2.1, hI.1.2.2.2.2.1, hm1, hm2⟩⟩⟩)
    · refine g_iconst F (nI 0) dX0_demand_12 (by decide) ?_
      exact E _ _ _ _ dX0_demand_13 (by rw [show demandF w x y wy re de p = (nI 0, (w, x, y, wy, re, de)) from by unfold demandF; rw [if_neg (fun z => h2 z.2)]]; exact ⟨rfl, ⟨_, _, _, _, _, _, _, _, _, _, _, rfl, hI⟩⟩)
set_option maxHeartbeats 4000000 in
set_option maxRecDepth 100000 in
/-- distance -/
theorem cX_distance {l : Launch} {D : va_G} {t : Ty3} {a : Nat → Nat} {w : Nat → Nat} {x : Nat → Int32} {y : Nat → Int32} {wy : Nat} {re : Nat} {de : Nat} {co : Nat → Bool} {cr : Nat → Option Nat} {cc : Nat} {sr : Nat} {so : Bool} {cf : Nat → Option Nat} {ck : Bool} {ng : Nat → Nat} {nw : Nat → Nat} {cs : Nat → Nat} {se : Nat → Bool} (hI : XI w x y wy re de co cr cc sr so cf ck ng nw cs) (p q : Int32) : CtL (EE l D t) yX0_distance tsX0_distance (RM 3 72) [.ref (a 0), .int p, .int q] (WX a t w x y wy re de co cr cc sr so cf ck ng nw cs se) 0 0 (fun r u => r = distF w x y wy p q ∧ XW a t (w, x, y, wy, re, de) u) := by
  refine CtL.of (by decide +kernel) rfl (Nat.le_of_ble_eq_true rfl) (fun X F E => ?_)
  show GG (EE l D t) X 0 0 0 [(0, .ref (a 0)), (1, .int p), (2, .int q)] [] (WX a t w x y wy re de co cr cc sr so cf ck ng nw cs se)
  refine g_aload_n F dX0_distance_0 rfl rfl ?_
  refine g_iload_n F dX0_distance_1 rfl rfl ?_
  refine c_VI F [] (wr := []) (cX_isPoint hI.1.1 p) cwX0_X0_isPoint ⟨by decide, by decide, rfl, rfl⟩ rfl rfl rfl rfl (Nat.le_of_ble_eq_true rfl) ⟨by decide, by decide⟩ dX0_distance_2 (fun r u hu => ?_)
  obtain ⟨rfl, rfl⟩ := hu
  show GG (EE l D t) X 0 0 5 [(0, .ref (a 0)), (1, .int p), (2, .int q)] [.int (b2 (isPt (fun j => decide (0 < w j)) p))] (WX a t w x y wy re de co cr cc sr so cf ck ng nw cs se)
  refine g_if_eq_b F 16 dX0_distance_5 (by decide)  (fun h => ?_) (fun h => ?_)
  · refine g_ldc2 F (oL none) dX0_distance_16 (List.mem_cons_of_mem _ mw6_19) ?_
    exact E _ _ _ _ dX0_distance_19 ⟨by unfold distF; rw [pt_f h], ⟨_, _, _, _, _, _, _, _, _, _, _, rfl, hI⟩⟩
  · obtain ⟨i, hi, rfl, hwi⟩ := isPt_t h
    have hwi : 0 < w i := of_decide_eq_true hwi
    refine g_aload_n F dX0_distance_8 rfl rfl ?_
    refine g_iload_n F dX0_distance_9 rfl rfl ?_
    refine c_VI F [] (wr := []) (cX_isPoint hI.1.1 q) cwX0_X0_isPoint ⟨by decide, by decide, rfl, rfl⟩ rfl rfl rfl rfl (Nat.le_of_ble_eq_true rfl) ⟨by decide, by decide⟩ dX0_distance_10 (fun r u hu => ?_)
    obtain ⟨rfl, rfl⟩ := hu
    show GG (EE l D t) X 0 0 13 [(0, .ref (a 0)), (1, .int (nI i)), (2, .int q)] [.int (b2 (isPt (fun j => decide (0 < w j)) q))] (WX a t w x y wy re de co cr cc sr so cf ck ng nw cs se)
    refine g_if_ne_b F 20 dX0_distance_13 (by decide)  (fun h2 => ?_) (fun h2 => ?_)
    · obtain ⟨j, hj, rfl, hwj⟩ := isPt_t h2
      have hwj : 0 < w j := of_decide_eq_true hwj
      refine g_aload_n F dX0_distance_20 rfl rfl ?_
      refine g_iload_n F dX0_distance_21 rfl rfl ?_
      refine g_iload_n F dX0_distance_22 rfl rfl ?_
      refine c_VL F [] (wr := []) (cX_gapBetween hI.1.2.2.2.1 hi hj) cwX0_X0_gapBetween ⟨by decide, by decide, rfl, rfl⟩ rfl rfl rfl rfl (Nat.le_of_ble_eq_true rfl) ⟨by decide, by decide⟩ dX0_distance_23 (fun r u hu => ?_)
      obtain ⟨rfl, rfl⟩ := hu
      show GG (EE l D t) X 0 0 26 [(0, .ref (a 0)), (1, .int (nI i)), (2, .int (nI j))] [.long (lN (gp wy x y i j))] (WX a t w x y wy re de co cr cc sr so cf ck ng nw cs se)
      exact E _ _ _ _ dX0_distance_26 ⟨by unfold distF; rw [pt_nI hi hwi, pt_nI hj hwj], ⟨_, _, _, _, _, _, _, _, _, _, _, rfl, hI⟩⟩
    · refine g_ldc2 F (oL none) dX0_distance_16 (List.mem_cons_of_mem _ mw6_19) ?_
      exact E _ _ _ _ dX0_distance_19 ⟨by unfold distF; rw [pt_nI hi hwi, pt_f h2], ⟨_, _, _, _, _, _, _, _, _, _, _, rfl, hI⟩⟩
set_option maxHeartbeats 4000000 in
set_option maxRecDepth 100000 in
/-- kind -/
theorem cX_kind {l : Launch} {D : va_G} {t : Ty3} {a : Nat → Nat} {w : Nat → Nat} {x : Nat → Int32} {y : Nat → Int32} {wy : Nat} {re : Nat} {de : Nat} {co : Nat → Bool} {cr : Nat → Option Nat} {cc : Nat} {sr : Nat} {so : Bool} {cf : Nat → Option Nat} {ck : Bool} {ng : Nat → Nat} {nw : Nat → Nat} {cs : Nat → Nat} {se : Nat → Bool} (hI : XI w x y wy re de co cr cc sr so cf ck ng nw cs) (p : Int32) : CtI (EE l D t) yX0_kind tsX0_kind (RM 7 166) [.ref (a 0), .int p] (WX a t w x y wy re de co cr cc sr so cf ck ng nw cs se) 0 0 (fun r u => kindR w x y wy re de p r ∧ XW a t (w, x, y, wy, re, de) u) := by
  refine CtI.of (by decide +kernel) rfl (Nat.le_of_ble_eq_true rfl) (fun X F E => ?_)
  show GG (EE l D t) X 0 0 0 [(0, .ref (a 0)), (1, .int p)] [] (WX a t w x y wy re de co cr cc sr so cf ck ng nw cs se)
  refine g_aload_n F dX0_kind_0 rfl rfl ?_
  refine g_iload_n F dX0_kind_1 rfl rfl ?_
  refine c_VI F [] (wr := []) (cX_isPoint hI.1.1 p) cwX0_X0_isPoint ⟨by decide, by decide, rfl, rfl⟩ rfl rfl rfl rfl (Nat.le_of_ble_eq_true rfl) ⟨by decide, by decide⟩ dX0_kind_2 (fun r u hu => ?_)
  obtain ⟨rfl, rfl⟩ := hu
  show GG (EE l D t) X 0 0 5 [(0, .ref (a 0)), (1, .int p)] [.int (b2 (isPt (fun j => decide (0 < w j)) p))] (WX a t w x y wy re de co cr cc sr so cf ck ng nw cs se)
  refine g_if_ne_b F 10 dX0_kind_5 (by decide)  (fun h => ?_) (fun h => ?_)
  · obtain ⟨j, hj, rfl, hwj⟩ := isPt_t h
    have hwj : 0 < w j := of_decide_eq_true hwj
    refine g_aload_n F dX0_kind_10 rfl rfl ?_
    refine g_aload_n F dX0_kind_11 rfl rfl ?_
    refine gX_get_reachNow F dX0_kind_12 ?_
    refine c_VV F [] (wr := []) (cX_sortWith hI.1 hI.2.1 hI.2.2.1 hI.2.2.2.1 hI.1.2.2.2.2.1) cwX0_X0_sortWith ⟨by decide, by decide, rfl, rfl⟩ rfl rfl rfl rfl (Nat.le_of_ble_eq_true rfl) ⟨by decide, by decide⟩ dX0_kind_15 (fun u hu => ?_)
    obtain ⟨co2, cr2, cc2, se2, rfl, hb2, hs2⟩ := hu
    show GG (EE l D t) X 0 0 18 [(0, .ref (a 0)), (1, .int (nI j))] [] (WX a t w x y wy re de co2 cr2 cc2 re true cf ck ng nw cs se2)
    have hI2 : XI w x y wy re de co2 cr2 cc2 re true cf ck ng nw cs := XI_sorted hI hb2 hs2 hI.1.2.2.2.2.1
    refine g_aload_n F dX0_kind_18 rfl rfl ?_
    refine g_iload_n F dX0_kind_19 rfl rfl ?_
    refine c_VI F [] (wr := []) (cX_kindOf hb2 hj) cwX0_X0_kindOf ⟨by decide, by decide, rfl, rfl⟩ rfl rfl rfl rfl (Nat.le_of_ble_eq_true rfl) ⟨by decide, by decide⟩ dX0_kind_20 (fun r u hu => ?_)
    obtain ⟨rfl, rfl⟩ := hu
    show GG (EE l D t) X 0 0 23 [(0, .ref (a 0)), (1, .int (nI j))] [.int (nI (knd co2 cr2 j))] (WX a t w x y wy re de co2 cr2 cc2 re true cf ck ng nw cs se2)
    exact E _ _ _ _ dX0_kind_23 ⟨by unfold kindR; rw [pt_nI hj hwj]; exact ⟨co2, cr2, cc2, hs2, rfl⟩, ⟨_, _, _, _, _, _, _, _, _, _, _, rfl, hI2⟩⟩
  · refine g_iconst F (oI none) dX0_kind_8 (by decide) ?_
    exact E _ _ _ _ dX0_kind_9 ⟨by unfold kindR; rw [pt_f h], ⟨_, _, _, _, _, _, _, _, _, _, _, rfl, hI⟩⟩
set_option maxHeartbeats 4000000 in
set_option maxRecDepth 100000 in
/-- crowd -/
theorem cX_crowd {l : Launch} {D : va_G} {t : Ty3} {a : Nat → Nat} {w : Nat → Nat} {x : Nat → Int32} {y : Nat → Int32} {wy : Nat} {re : Nat} {de : Nat} {co : Nat → Bool} {cr : Nat → Option Nat} {cc : Nat} {sr : Nat} {so : Bool} {cf : Nat → Option Nat} {ck : Bool} {ng : Nat → Nat} {nw : Nat → Nat} {cs : Nat → Nat} {se : Nat → Bool} (hI : XI w x y wy re de co cr cc sr so cf ck ng nw cs) (p : Int32) : CtI (EE l D t) yX0_crowd tsX0_crowd (RM 7 166) [.ref (a 0), .int p] (WX a t w x y wy re de co cr cc sr so cf ck ng nw cs se) 0 0 (fun r u => crowdR w x y wy re de p r ∧ XW a t (w, x, y, wy, re, de) u) := by
  refine CtI.of (by decide +kernel) rfl (Nat.le_of_ble_eq_true rfl) (fun X F E => ?_)
  show GG (EE l D t) X 0 0 0 [(0, .ref (a 0)), (1, .int p)] [] (WX a t w x y wy re de co cr cc sr so cf ck ng nw cs se)
  refine g_aload_n F dX0_crowd_0 rfl rfl ?_
  refine g_iload_n F dX0_crowd_1 rfl rfl ?_
  refine c_VI F [] (wr := []) (cX_isPoint hI.1.1 p) cwX0_X0_isPoint ⟨by decide, by decide, rfl, rfl⟩ rfl rfl rfl rfl (Nat.le_of_ble_eq_true rfl) ⟨by decide, by decide⟩ dX0_crowd_2 (fun r u hu => ?_)
  obtain ⟨rfl, rfl⟩ := hu
  show GG (EE l D t) X 0 0 5 [(0, .ref (a 0)), (1, .int p)] [.int (b2 (isPt (fun j => decide (0 < w j)) p))] (WX a t w x y wy re de co cr cc sr so cf ck ng nw cs se)
  refine g_if_ne_b F 10 dX0_crowd_5 (by decide)  (fun h => ?_) (fun h => ?_)
  · obtain ⟨j, hj, rfl, hwj⟩ := isPt_t h
    have hwj : 0 < w j := of_decide_eq_true hwj
    refine g_aload_n F dX0_crowd_10 rfl rfl ?_
    refine g_aload_n F dX0_crowd_11 rfl rfl ?_
    refine gX_get_reachNow F dX0_crowd_12 ?_
    refine c_VV F [] (wr := []) (cX_sortWith hI.1 hI.2.1 hI.2.2.1 hI.2.2.2.1 hI.1.2.2.2.2.1) cwX0_X0_sortWith ⟨by decide, by decide, rfl, rfl⟩ rfl rfl rfl rfl (Nat.le_of_ble_eq_true rfl) ⟨by decide, by decide⟩ dX0_crowd_15 (fun u hu => ?_)
    obtain ⟨co2, cr2, cc2, se2, rfl, hb2, hs2⟩ := hu
    show GG (EE l D t) X 0 0 18 [(0, .ref (a 0)), (1, .int (nI j))] [] (WX a t w x y wy re de co2 cr2 cc2 re true cf ck ng nw cs se2)
    have hI2 : XI w x y wy re de co2 cr2 cc2 re true cf ck ng nw cs := XI_sorted hI hb2 hs2 hI.1.2.2.2.2.1
    refine g_aload_n F dX0_crowd_18 rfl rfl ?_
    refine gX_get_crowdOf F dX0_crowd_19 ?_
    refine g_iload_n F dX0_crowd_22 rfl rfl ?_
    refine gX_ld_crowdOf F hj dX0_crowd_23 ?_
    exact E _ _ _ _ dX0_crowd_24 ⟨by unfold crowdR; rw [pt_nI hj hwj]; exact ⟨co2, cr2, cc2, hs2, rfl⟩, ⟨_, _, _, _, _, _, _, _, _, _, _, rfl, hI2⟩⟩
  · refine g_iconst F (oI none) dX0_crowd_8 (by decide) ?_
    exact E _ _ _ _ dX0_crowd_9 ⟨by unfold crowdR; rw [pt_f h], ⟨_, _, _, _, _, _, _, _, _, _, _, rfl, hI⟩⟩
set_option maxHeartbeats 4000000 in
set_option maxRecDepth 100000 in
/-- around -/
theorem cX_around {l : Launch} {D : va_G} {t : Ty3} {a : Nat → Nat} {w : Nat → Nat} {x : Nat → Int32} {y : Nat → Int32} {wy : Nat} {re : Nat} {de : Nat} {co : Nat → Bool} {cr : Nat → Option Nat} {cc : Nat} {sr : Nat} {so : Bool} {cf : Nat → Option Nat} {ck : Bool} {ng : Nat → Nat} {nw : Nat → Nat} {cs : Nat → Nat} {se : Nat → Bool} (hI : XI w x y wy re de co cr cc sr so cf ck ng nw cs) (p : Int32) : CtI (EE l D t) yX0_around tsX0_around (RM 4 97) [.ref (a 0), .int p] (WX a t w x y wy re de co cr cc sr so cf ck ng nw cs se) 0 0 (fun r u => r = aroundF w x y wy re p ∧ XW a t (w, x, y, wy, re, de) u) := by
  refine CtI.of (by decide +kernel) rfl (Nat.le_of_ble_eq_true rfl) (fun X F E => ?_)
  show GG (EE l D t) X 0 0 0 [(0, .ref (a 0)), (1, .int p)] [] (WX a t w x y wy re de co cr cc sr so cf ck ng nw cs se)
  refine g_aload_n F dX0_around_0 rfl rfl ?_
  refine g_iload_n F dX0_around_1 rfl rfl ?_
  refine c_VI F [] (wr := []) (cX_isPoint hI.1.1 p) cwX0_X0_isPoint ⟨by decide, by decide, rfl, rfl⟩ rfl rfl rfl rfl (Nat.le_of_ble_eq_true rfl) ⟨by decide, by decide⟩ dX0_around_2 (fun r u hu => ?_)
  obtain ⟨rfl, rfl⟩ := hu
  show GG (EE l D t) X 0 0 5 [(0, .ref (a 0)), (1, .int p)] [.int (b2 (isPt (fun j => decide (0 < w j)) p))] (WX a t w x y wy re de co cr cc sr so cf ck ng nw cs se)
  refine g_if_ne_b F 10 dX0_around_5 (by decide)  (fun h => ?_) (fun h => ?_)
  · obtain ⟨j, hj, rfl, hwj⟩ := isPt_t h
    have hwj : 0 < w j := of_decide_eq_true hwj
    refine g_aload_n F dX0_around_10 rfl rfl ?_
    refine g_iload_n F dX0_around_11 rfl rfl ?_
    refine g_aload_n F dX0_around_12 rfl rfl ?_
    refine gX_get_reachNow F dX0_around_13 ?_
    refine c_VI F [] (wr := []) (cX_weightWithin hI.1 hj hI.1.2.2.2.2.1) cwX0_X0_weightWithin ⟨by decide, by decide, rfl, rfl⟩ rfl rfl rfl rfl (Nat.le_of_ble_eq_true rfl) ⟨by decide, by decide⟩ dX0_around_16 (fun r u hu => ?_)
    obtain ⟨rfl, rfl⟩ := hu
    show GG (EE l D t) X 0 0 19 [(0, .ref (a 0)), (1, .int (nI j))] [.int (nI (ww w (gp wy x y j) re))] (WX a t w x y wy re de co cr cc sr so cf ck ng nw cs se)
    exact E _ _ _ _ dX0_around_19 ⟨by unfold aroundF; rw [pt_nI hj hwj], ⟨_, _, _, _, _, _, _, _, _, _, _, rfl, hI⟩⟩
  · refine g_iconst F (oI none) dX0_around_8 (by decide) ?_
    exact E _ _ _ _ dX0_around_9 ⟨by unfold aroundF; rw [pt_f h], ⟨_, _, _, _, _, _, _, _, _, _, _, rfl, hI⟩⟩
set_option maxHeartbeats 4000000 in
set_option maxRecDepth 100000 in
/-- dense -/
theorem cX_dense {l : Launch} {D : va_G} {t : Ty3} {a : Nat → Nat} {w : Nat → Nat} {x : Nat → Int32} {y : Nat → Int32} {wy : Nat} {re : Nat} {de : Nat} {co : Nat → Bool} {cr : Nat → Option Nat} {cc : Nat} {sr : Nat} {so : Bool} {cf : Nat → Option Nat} {ck : Bool} {ng : Nat → Nat} {nw : Nat → Nat} {cs : Nat → Nat} {se : Nat → Bool} (hI : XI w x y wy re de co cr cc sr so cf ck ng nw cs) (p : Int32) : CtL (EE l D t) yX0_dense tsX0_dense (RM 4 98) [.ref (a 0), .int p] (WX a t w x y wy re de co cr cc sr so cf ck ng nw cs se) 0 0 (fun r u => denseR w x y wy de p r ∧ XW a t (w, x, y, wy, re, de) u) := by
  refine CtL.of (by decide +kernel) rfl (Nat.le_of_ble_eq_true rfl) (fun X F E => ?_)
  show GG (EE l D t) X 0 0 0 [(0, .ref (a 0)), (1, .int p)] [] (WX a t w x y wy re de co cr cc sr so cf ck ng nw cs se)
  refine g_aload_n F dX0_dense_0 rfl rfl ?_
  refine g_iload_n F dX0_dense_1 rfl rfl ?_
  refine c_VI F [] (wr := []) (cX_isPoint hI.1.1 p) cwX0_X0_isPoint ⟨by decide, by decide, rfl, rfl⟩ rfl rfl rfl rfl (Nat.le_of_ble_eq_true rfl) ⟨by decide, by decide⟩ dX0_dense_2 (fun r u hu => ?_)
  obtain ⟨rfl, rfl⟩ := hu
  show GG (EE l D t) X 0 0 5 [(0, .ref (a 0)), (1, .int p)] [.int (b2 (isPt (fun j => decide (0 < w j)) p))] (WX a t w x y wy re de co cr cc sr so cf ck ng nw cs se)
  refine g_if_ne_b F 12 dX0_dense_5 (by decide)  (fun h => ?_) (fun h => ?_)
  · obtain ⟨j, hj, rfl, hwj⟩ := isPt_t h
    have hwj : 0 < w j := of_decide_eq_true hwj
    refine g_aload_n F dX0_dense_12 rfl rfl ?_
    refine g_iload_n F dX0_dense_13 rfl rfl ?_
    refine c_VL F [] (wr := []) (cX_leastReachAsCore hI.1 hI.2.2.2.2.2.1 hj) cwX0_X0_leastReachAsCore ⟨by decide, by decide, rfl, rfl⟩ rfl rfl rfl rfl (Nat.le_of_ble_eq_true rfl) ⟨by decide, by decide⟩ dX0_dense_14 (fun r u hu => ?_)
    obtain ⟨g2, n2, o, rfl, hb2, rfl, ho1, ho2⟩ := hu
    show GG (EE l D t) X 0 0 17 [(0, .ref (a 0)), (1, .int (nI j))] [.long (oL o)] (WX a t w x y wy re de co cr cc sr so cf ck g2 n2 cs se)
    exact E _ _ _ _ dX0_dense_17 ⟨by unfold denseR; rw [pt_nI hj hwj]; exact ⟨o, ho1, rfl⟩, ⟨_, _, _, _, _, _, _, _, _, _, _, rfl, ⟨hI.1, hI.2.1, hI.2.2.1, hI.2.2.2.1, hI.2.2.2.2.1, hb2, hI.2.2.2.2.2.2⟩⟩⟩
  · refine g_ldc2 F (oL none) dX0_dense_8 (List.mem_cons_of_mem _ mw6_19) ?_
    exact E _ _ _ _ dX0_dense_11 ⟨by unfold denseR; rw [pt_f h], ⟨_, _, _, _, _, _, _, _, _, _, _, rfl, hI⟩⟩
set_option maxHeartbeats 4000000 in
set_option maxRecDepth 100000 in
/-- meet -/
theorem cX_meet {l : Launch} {D : va_G} {t : Ty3} {a : Nat → Nat} {w : Nat → Nat} {x : Nat → Int32} {y : Nat → Int32} {wy : Nat} {re : Nat} {de : Nat} {co : Nat → Bool} {cr : Nat → Option Nat} {cc : Nat} {sr : Nat} {so : Bool} {cf : Nat → Option Nat} {ck : Bool} {ng : Nat → Nat} {nw : Nat → Nat} {cs : Nat → Nat} {se : Nat → Bool} (hI : XI w x y wy re de co cr cc sr so cf ck ng nw cs) (p q : Int32) : CtL (EE l D t) yX0_meet tsX0_meet (RM 5 120) [.ref (a 0), .int p, .int q] (WX a t w x y wy re de co cr cc sr so cf ck ng nw cs se) 0 0 (fun r u => meetR w x y wy de p q r ∧ XW a t (w, x, y, wy, re, de) u) := by
  refine CtL.of (by decide +kernel) rfl (Nat.le_of_ble_eq_true rfl) (fun X F E => ?_)
  show GG (EE l D t) X 0 0 0 [(0, .ref (a 0)), (1, .int p), (2, .int q)] [] (WX a t w x y wy re de co cr cc sr so cf ck ng nw cs se)
  refine g_aload_n F dX0_meet_0 rfl rfl ?_
  refine g_iload_n F dX0_meet_1 rfl rfl ?_
  refine c_VI F [] (wr := []) (cX_isPoint hI.1.1 p) cwX0_X0_isPoint ⟨by decide, by decide, rfl, rfl⟩ rfl rfl rfl rfl (Nat.le_of_ble_eq_true rfl) ⟨by decide, by decide⟩ dX0_meet_2 (fun r u hu => ?_)
  obtain ⟨rfl, rfl⟩ := hu
  show GG (EE l D t) X 0 0 5 [(0, .ref (a 0)), (1, .int p), (2, .int q)] [.int (b2 (isPt (fun j => decide (0 < w j)) p))] (WX a t w x y wy re de co cr cc sr so cf ck ng nw cs se)
  refine g_if_eq_b F 27 dX0_meet_5 (by decide)  (fun h => ?_) (fun h => ?_)
  · refine g_ldc2 F (oL none) dX0_meet_27 (List.mem_cons_of_mem _ mw6_19) ?_
    exact E _ _ _ _ dX0_meet_30 ⟨by unfold meetR; rw [pt_f h], ⟨_, _, _, _, _, _, _, _, _, _, _, rfl, hI⟩⟩
  · obtain ⟨i, hi, rfl, hwi⟩ := isPt_t h
    have hwi : 0 < w i := of_decide_eq_true hwi
    refine g_aload_n F dX0_meet_8 rfl rfl ?_
    refine g_iload_n F dX0_meet_9 rfl rfl ?_
    refine c_VI F [] (wr := []) (cX_isPoint hI.1.1 q) cwX0_X0_isPoint ⟨by decide, by decide, rfl, rfl⟩ rfl rfl rfl rfl (Nat.le_of_ble_eq_true rfl) ⟨by decide, by decide⟩ dX0_meet_10 (fun r u hu => ?_)
    obtain ⟨rfl, rfl⟩ := hu
    show GG (EE l D t) X 0 0 13 [(0, .ref (a 0)), (1, .int (nI i)), (2, .int q)] [.int (b2 (isPt (fun j => decide (0 < w j)) q))] (WX a t w x y wy re de co cr cc sr so cf ck ng nw cs se)
    refine g_if_eq_b F 27 dX0_meet_13 (by decide)  (fun h2 => ?_) (fun h2 => ?_)
    · refine g_ldc2 F (oL none) dX0_meet_27 (List.mem_cons_of_mem _ mw6_19) ?_
      exact E _ _ _ _ dX0_meet_30 ⟨by unfold meetR; rw [pt_nI hi hwi, pt_f h2], ⟨_, _, _, _, _, _, _, _, _, _, _, rfl, hI⟩⟩
    · obtain ⟨j, hj, rfl, hwj⟩ := isPt_t h2
      have hwj : 0 < w j := of_decide_eq_true hwj
      refine g_aload_n F dX0_meet_16 rfl rfl ?_
      refine c_VI F [] (wr := []) cX_countWeights cwX0_X0_countWeights ⟨by decide, by decide, rfl, rfl⟩ rfl rfl rfl rfl (Nat.le_of_ble_eq_true rfl) ⟨by decide, by decide⟩ dX0_meet_17 (fun r u hu => ?_)
      obtain ⟨rfl, rfl⟩ := hu
      show GG (EE l D t) X 0 0 20 [(0, .ref (a 0)), (1, .int (nI i)), (2, .int (nI j))] [.int (nI (sum1 w))] (WX a t w x y wy re de co cr cc sr so cf ck ng nw cs se)
      refine g_aload_n F dX0_meet_20 rfl rfl ?_
      refine gX_get_demandNow F dX0_meet_21 ?_
      refine g_icmp_ge_n F 31 dX0_meet_24 (by decide) (by have := sum1_le hI.1.1; omega) (by have := hI.1.2.2.2.2.2; omega) (fun h3 => ?_) (fun h3 => ?_)
      · refine g_aload_n F dX0_meet_31 rfl rfl ?_
        refine c_VV F [] (wr := []) (cX_findCoreFrom hI.1 hI.2.2.2.2.2.1 hI.2.2.2.2.1) cwX0_X0_findCoreFrom ⟨by decide, by decide, rfl, rfl⟩ rfl rfl rfl rfl (Nat.le_of_ble_eq_true rfl) ⟨by decide, by decide⟩ dX0_meet_32 (fun u hu => ?_)
        obtain ⟨cf2, g2, n2, rfl, hC, hb2⟩ := hu
        show GG (EE l D t) X 0 0 35 [(0, .ref (a 0)), (1, .int (nI i)), (2, .int (nI j))] [] (WX a t w x y wy re de co cr cc sr so cf2 true g2 n2 cs se)
        have hd : ∀ k, k < 120 → 0 < w k → cf2 k = some ((cf2 k).getD 0) ∧ (cf2 k).getD 0 < MX := fun k hk hwk => by
          obtain ⟨c1, c2⟩ := hC k hk hwk
          cases e : cf2 k with
          | none =>
            rw [e] at c1
            exact absurd (isDn_none ⟨MX, fun z => Nat.le_of_lt (gp_lt hI.1 k z)⟩ c1) (by omega)
          | some d => exact ⟨rfl, c2 d e⟩
        refine g_aload_n F dX0_meet_35 rfl rfl ?_
        refine g_iload_n F dX0_meet_36 rfl rfl ?_
        refine g_iload_n F dX0_meet_37 rfl rfl ?_
        refine c_VL F [] (wr := []) (cX_leastReachFrom hI.1 hI.2.2.2.2.2.2.1 hd hi hj hwi hwj) cwX0_X0_leastReachFrom ⟨by decide, by decide, rfl, rfl⟩ rfl rfl rfl rfl (Nat.le_of_ble_eq_true rfl) ⟨by decide, by decide⟩ dX0_meet_38 (fun r u hu => ?_)
        obtain ⟨cs2, se2, m, rfl, hcs2, rfl, hm, hm2⟩ := hu
        show GG (EE l D t) X 0 0 41 [(0, .ref (a 0)), (1, .int (nI i)), (2, .int (nI j))] [.long (lN m)] (WX a t w x y wy re de co cr cc sr so cf2 true g2 n2 cs2 se2)
        exact E _ _ _ _ dX0_meet_41 ⟨by unfold meetR; rw [pt_nI hi hwi, pt_nI hj hwj]; dsimp only; rw [if_neg (by omega)]; exact ⟨fun k => (cf2 k).getD 0, m, fun k hk hwk => by have := (hC k hk hwk).1; rw [(hd k hk hwk).1] at this; exact this, hm, rfl⟩, ⟨_, _, _, _, _, _, _, _, _, _, _, rfl, ⟨hI.1, hI.2.1, hI.2.2.1, hI.2.2.2.1, fun _ => hC, hb2, hcs2, hI.2.2.2.2.2.2.2⟩⟩⟩
      · refine g_ldc2 F (oL none) dX0_meet_27 (List.mem_cons_of_mem _ mw6_19) ?_
        exact E _ _ _ _ dX0_meet_30 ⟨by unfold meetR; rw [pt_nI hi hwi, pt_nI hj hwj]; dsimp only; rw [if_pos h3], ⟨_, _, _, _, _, _, _, _, _, _, _, rfl, hI⟩⟩
set_option maxHeartbeats 4000000 in
set_option maxRecDepth 100000 in
/-- count -/
theorem cX_count {l : Launch} {D : va_G} {t : Ty3} {a : Nat → Nat} {w : Nat → Nat} {x : Nat → Int32} {y : Nat → Int32} {wy : Nat} {re : Nat} {de : Nat} {co : Nat → Bool} {cr : Nat → Option Nat} {cc : Nat} {sr : Nat} {so : Bool} {cf : Nat → Option Nat} {ck : Bool} {ng : Nat → Nat} {nw : Nat → Nat} {cs : Nat → Nat} {se : Nat → Bool} (hI : XI w x y wy re de co cr cc sr so cf ck ng nw cs) (p : Int32) : CtI (EE l D t) yX0_count tsX0_count (RM 7 166) [.ref (a 0), .int p] (WX a t w x y wy re de co cr cc sr so cf ck ng nw cs se) 0 0 (fun r u => countR w x y wy re de p r ∧ XW a t (w, x, y, wy, re, de) u) := by
  refine CtI.of (by decide +kernel) rfl (Nat.le_of_ble_eq_true rfl) (fun X F E => ?_)
  show GG (EE l D t) X 0 0 0 [(0, .ref (a 0)), (1, .int p)] [] (WX a t w x y wy re de co cr cc sr so cf ck ng nw cs se)
  rcases pk_ix p (n := 6) (by decide) with hp | hp | ⟨k, hk, rfl⟩
  · refine g_iload_n F dX0_count_0 rfl rfl ?_
    refine g_if_lt_t F 17 dX0_count_1 (by decide) hp ?_
    refine g_iload_n F dX0_count_17 rfl rfl ?_
    refine g_tableOut F 89 dX0_count_18 (Or.inl (Int32.lt_iff_toInt_lt.mp hp)) (by decide) ?_
    obtain ⟨co2, cr2, cc2, hs2⟩ := Srt_ex w x y wy re de
    refine g_iconst F (oI none) dX0_count_89 (by decide) ?_
    exact E _ _ _ _ dX0_count_90 ⟨⟨co2, cr2, cc2, hs2, by unfold countF; rw [if_neg (fun z => absurd hp (by rw [z]; decide)), if_neg (fun z => absurd hp (by rw [z]; decide)), if_neg (fun z => absurd hp (by rw [z]; decide)), if_neg (fun z => absurd hp (by rw [z]; decide)), if_neg (fun z => absurd hp (by rw [z]; decide)), if_neg (fun z => absurd hp (by rw [z]; decide))]⟩, ⟨_, _, _, _, _, _, _, _, _, _, _, rfl, hI⟩⟩
  · refine g_iload_n F dX0_count_0 rfl rfl ?_
    refine g_if_lt_f F 17 dX0_count_1 (by decide) (fun z => absurd (Int32.lt_of_le_of_lt hp z) (by decide)) ?_
    refine g_iload_n F dX0_count_4 rfl rfl ?_
    refine g_iconst F (nI 3) dX0_count_5 (by decide) ?_
    refine g_icmp_gt_t F 17 dX0_count_6 (by decide) (Int32.lt_of_lt_of_le (by decide) hp) ?_
    refine g_iload_n F dX0_count_17 rfl rfl ?_
    refine g_tableOut F 89 dX0_count_18 (Or.inr (Int.lt_of_lt_of_le (by decide) (Int32.le_iff_toInt_le.mp hp))) (by decide) ?_
    obtain ⟨co2, cr2, cc2, hs2⟩ := Srt_ex w x y wy re de
    refine g_iconst F (oI none) dX0_count_89 (by decide) ?_
    exact E _ _ _ _ dX0_count_90 ⟨⟨co2, cr2, cc2, hs2, by unfold countF; rw [if_neg (fun z => absurd hp (by rw [z]; decide)), if_neg (fun z => absurd hp (by rw [z]; decide)), if_neg (fun z => absurd hp (by rw [z]; decide)), if_neg (fun z => absurd hp (by rw [z]; decide)), if_neg (fun z => absurd hp (by rw [z]; decide)), if_neg (fun z => absurd hp (by rw [z]; decide))]⟩, ⟨_, _, _, _, _, _, _, _, _, _, _, rfl, hI⟩⟩
  · rcases (show k = 0 ∨ k = 1 ∨ k = 2 ∨ k = 3 ∨ k = 4 ∨ k = 5 by omega) with rfl | rfl | rfl | rfl | rfl | rfl
    · refine g_iload_n F dX0_count_0 rfl rfl ?_
      refine g_if_lt_f F 17 dX0_count_1 (by decide) (by decide) ?_
      refine g_iload_n F dX0_count_4 rfl rfl ?_
      refine g_iconst F (nI 3) dX0_count_5 (by decide) ?_
      refine g_icmp_gt_f F 17 dX0_count_6 (by decide) (by decide) ?_
      refine g_aload_n F dX0_count_9 rfl rfl ?_
      refine g_aload_n F dX0_count_10 rfl rfl ?_
      refine gX_get_reachNow F dX0_count_11 ?_
      refine c_VV F [] (wr := []) (cX_sortWith hI.1 hI.2.1 hI.2.2.1 hI.2.2.2.1 hI.1.2.2.2.2.1) cwX0_X0_sortWith ⟨by decide, by decide, rfl, rfl⟩ rfl rfl rfl rfl (Nat.le_of_ble_eq_true rfl) ⟨by decide, by decide⟩ dX0_count_14 (fun u hu => ?_)
      obtain ⟨co2, cr2, cc2, se2, rfl, hb2, hs2⟩ := hu
      show GG (EE l D t) X 0 0 17 [(0, .ref (a 0)), (1, .int (nI 0))] [] (WX a t w x y wy re de co2 cr2 cc2 re true cf ck ng nw cs se2)
      have hI2 : XI w x y wy re de co2 cr2 cc2 re true cf ck ng nw cs := XI_sorted hI hb2 hs2 hI.1.2.2.2.2.1
      refine g_iload_n F dX0_count_17 rfl rfl ?_
      refine g_tableIn (off := 38) F 56 dX0_count_18 (by decide) (by decide) (by decide +kernel) (by decide) ?_
      refine g_aload_n F dX0_count_56 rfl rfl ?_
      refine gX_get_crowdCount F dX0_count_57 ?_
      exact E _ _ _ _ dX0_count_60 ⟨⟨co2, cr2, cc2, hs2, by unfold countF; rw [if_pos rfl]⟩, ⟨_, _, _, _, _, _, _, _, _, _, _, rfl, hI2⟩⟩
    · refine g_iload_n F dX0_count_0 rfl rfl ?_
      refine g_if_lt_f F 17 dX0_count_1 (by decide) (by decide) ?_
      refine g_iload_n F dX0_count_4 rfl rfl ?_
      refine g_iconst F (nI 3) dX0_count_5 (by decide) ?_
      refine g_icmp_gt_f F 17 dX0_count_6 (by decide) (by decide) ?_
      refine g_aload_n F dX0_count_9 rfl rfl ?_
      refine g_aload_n F dX0_count_10 rfl rfl ?_
      refine gX_get_reachNow F dX0_count_11 ?_
      refine c_VV F [] (wr := []) (cX_sortWith hI.1 hI.2.1 hI.2.2.1 hI.2.2.2.1 hI.1.2.2.2.2.1) cwX0_X0_sortWith ⟨by decide, by decide, rfl, rfl⟩ rfl rfl rfl rfl (Nat.le_of_ble_eq_true rfl) ⟨by decide, by decide⟩ dX0_count_14 (fun u hu => ?_)
      obtain ⟨co2, cr2, cc2, se2, rfl, hb2, hs2⟩ := hu
      show GG (EE l D t) X 0 0 17 [(0, .ref (a 0)), (1, .int (nI 1))] [] (WX a t w x y wy re de co2 cr2 cc2 re true cf ck ng nw cs se2)
      have hI2 : XI w x y wy re de co2 cr2 cc2 re true cf ck ng nw cs := XI_sorted hI hb2 hs2 hI.1.2.2.2.2.1
      refine g_iload_n F dX0_count_17 rfl rfl ?_
      refine g_tableIn (off := 43) F 61 dX0_count_18 (by decide) (by decide) (by decide +kernel) (by decide) ?_
      refine g_aload_n F dX0_count_61 rfl rfl ?_
      refine g_iconst F (nI 2) dX0_count_62 (by decide) ?_
      refine c_VI F [] (wr := []) (cX_countKind hI.1 hb2 (kd := 2) (by decide)) cwX0_X0_countKind ⟨by decide, by decide, rfl, rfl⟩ rfl rfl rfl rfl (Nat.le_of_ble_eq_true rfl) ⟨by decide, by decide⟩ dX0_count_63 (fun r u hu => ?_)
      obtain ⟨rfl, rfl⟩ := hu
      show GG (EE l D t) X 0 0 66 [(0, .ref (a 0)), (1, .int (nI 1))] [.int (nI (cntK w co2 cr2 2))] (WX a t w x y wy re de co2 cr2 cc2 re true cf ck ng nw cs se2)
      exact E _ _ _ _ dX0_count_66 ⟨⟨co2, cr2, cc2, hs2, by unfold countF; rw [if_neg (by decide), if_pos rfl]⟩, ⟨_, _, _, _, _, _, _, _, _, _, _, rfl, hI2⟩⟩
    · refine g_iload_n F dX0_count_0 rfl rfl ?_
      refine g_if_lt_f F 17 dX0_count_1 (by decide) (by decide) ?_
      refine g_iload_n F dX0_count_4 rfl rfl ?_
      refine g_iconst F (nI 3) dX0_count_5 (by decide) ?_
      refine g_icmp_gt_f F 17 dX0_count_6 (by decide) (by decide) ?_
      refine g_aload_n F dX0_count_9 rfl rfl ?_
      refine g_aload_n F dX0_count_10 rfl rfl ?_
      refine gX_get_reachNow F dX0_count_11 ?_
      refine c_VV F [] (wr := []) (cX_sortWith hI.1 hI.2.1 hI.2.2.1 hI.2.2.2.1 hI.1.2.2.2.2.1) cwX0_X0_sortWith ⟨by decide, by decide, rfl, rfl⟩ rfl rfl rfl rfl (Nat.le_of_ble_eq_true rfl) ⟨by decide, by decide⟩ dX0_count_14 (fun u hu => ?_)
      obtain ⟨co2, cr2, cc2, se2, rfl, hb2, hs2⟩ := hu
      show GG (EE l D t) X 0 0 17 [(0, .ref (a 0)), (1, .int (nI 2))] [] (WX a t w x y wy re de co2 cr2 cc2 re true cf ck ng nw cs se2)
      have hI2 : XI w x y wy re de co2 cr2 cc2 re true cf ck ng nw cs := XI_sorted hI hb2 hs2 hI.1.2.2.2.2.1
      refine g_iload_n F dX0_count_17 rfl rfl ?_
      refine g_tableIn (off := 49) F 67 dX0_count_18 (by decide) (by decide) (by decide +kernel) (by decide) ?_
      refine g_aload_n F dX0_count_67 rfl rfl ?_
      refine g_iconst F (nI 1) dX0_count_68 (by decide) ?_
      refine c_VI F [] (wr := []) (cX_countKind hI.1 hb2 (kd := 1) (by decide)) cwX0_X0_countKind ⟨by decide, by decide, rfl, rfl⟩ rfl rfl rfl rfl (Nat.le_of_ble_eq_true rfl) ⟨by decide, by decide⟩ dX0_count_69 (fun r u hu => ?_)
      obtain ⟨rfl, rfl⟩ := hu
      show GG (EE l D t) X 0 0 72 [(0, .ref (a 0)), (1, .int (nI 2))] [.int (nI (cntK w co2 cr2 1))] (WX a t w x y wy re de co2 cr2 cc2 re true cf ck ng nw cs se2)
      exact E _ _ _ _ dX0_count_72 ⟨⟨co2, cr2, cc2, hs2, by unfold countF; rw [if_neg (by decide), if_neg (by decide), if_pos rfl]⟩, ⟨_, _, _, _, _, _, _, _, _, _, _, rfl, hI2⟩⟩
    · refine g_iload_n F dX0_count_0 rfl rfl ?_
      refine g_if_lt_f F 17 dX0_count_1 (by decide) (by decide) ?_
      refine g_iload_n F dX0_count_4 rfl rfl ?_
      refine g_iconst F (nI 3) dX0_count_5 (by decide) ?_
      refine g_icmp_gt_f F 17 dX0_count_6 (by decide) (by decide) ?_
      refine g_aload_n F dX0_count_9 rfl rfl ?_
      refine g_aload_n F dX0_count_10 rfl rfl ?_
      refine gX_get_reachNow F dX0_count_11 ?_
      refine c_VV F [] (wr := []) (cX_sortWith hI.1 hI.2.1 hI.2.2.1 hI.2.2.2.1 hI.1.2.2.2.2.1) cwX0_X0_sortWith ⟨by decide, by decide, rfl, rfl⟩ rfl rfl rfl rfl (Nat.le_of_ble_eq_true rfl) ⟨by decide, by decide⟩ dX0_count_14 (fun u hu => ?_)
      obtain ⟨co2, cr2, cc2, se2, rfl, hb2, hs2⟩ := hu
      show GG (EE l D t) X 0 0 17 [(0, .ref (a 0)), (1, .int (nI 3))] [] (WX a t w x y wy re de co2 cr2 cc2 re true cf ck ng nw cs se2)
      have hI2 : XI w x y wy re de co2 cr2 cc2 re true cf ck ng nw cs := XI_sorted hI hb2 hs2 hI.1.2.2.2.2.1
      refine g_iload_n F dX0_count_17 rfl rfl ?_
      refine g_tableIn (off := 55) F 73 dX0_count_18 (by decide) (by decide) (by decide +kernel) (by decide) ?_
      refine g_aload_n F dX0_count_73 rfl rfl ?_
      refine g_iconst F (nI 0) dX0_count_74 (by decide) ?_
      refine c_VI F [] (wr := []) (cX_countKind hI.1 hb2 (kd := 0) (by decide)) cwX0_X0_countKind ⟨by decide, by decide, rfl, rfl⟩ rfl rfl rfl rfl (Nat.le_of_ble_eq_true rfl) ⟨by decide, by decide⟩ dX0_count_75 (fun r u hu => ?_)
      obtain ⟨rfl, rfl⟩ := hu
      show GG (EE l D t) X 0 0 78 [(0, .ref (a 0)), (1, .int (nI 3))] [.int (nI (cntK w co2 cr2 0))] (WX a t w x y wy re de co2 cr2 cc2 re true cf ck ng nw cs se2)
      exact E _ _ _ _ dX0_count_78 ⟨⟨co2, cr2, cc2, hs2, by unfold countF; rw [if_neg (by decide), if_neg (by decide), if_neg (by decide), if_pos rfl]⟩, ⟨_, _, _, _, _, _, _, _, _, _, _, rfl, hI2⟩⟩
    · refine g_iload_n F dX0_count_0 rfl rfl ?_
      refine g_if_lt_f F 17 dX0_count_1 (by decide) (by decide) ?_
      refine g_iload_n F dX0_count_4 rfl rfl ?_
      refine g_iconst F (nI 3) dX0_count_5 (by decide) ?_
      refine g_icmp_gt_t F 17 dX0_count_6 (by decide) (by decide) ?_
      refine g_iload_n F dX0_count_17 rfl rfl ?_
      refine g_tableIn (off := 61) F 79 dX0_count_18 (by decide) (by decide) (by decide +kernel) (by decide) ?_
      obtain ⟨co2, cr2, cc2, hs2⟩ := Srt_ex w x y wy re de
      refine g_aload_n F dX0_count_79 rfl rfl ?_
      refine c_VI F [] (wr := []) (cX_countPoints hI.1.1) cwX0_X0_countPoints ⟨by decide, by decide, rfl, rfl⟩ rfl rfl rfl rfl (Nat.le_of_ble_eq_true rfl) ⟨by decide, by decide⟩ dX0_count_80 (fun r u hu => ?_)
      obtain ⟨rfl, rfl⟩ := hu
      show GG (EE l D t) X 0 0 83 [(0, .ref (a 0)), (1, .int (nI 4))] [.int (nI (sum1 (fun j => if 0 < w j then 1 else 0)))] (WX a t w x y wy re de co cr cc sr so cf ck ng nw cs se)
      exact E _ _ _ _ dX0_count_83 ⟨⟨co2, cr2, cc2, hs2, by unfold countF; rw [if_neg (by decide), if_neg (by decide), if_neg (by decide), if_neg (by decide), if_pos rfl]⟩, ⟨_, _, _, _, _, _, _, _, _, _, _, rfl, hI⟩⟩
    · refine g_iload_n F dX0_count_0 rfl rfl ?_
      refine g_if_lt_f F 17 dX0_count_1 (by decide) (by decide) ?_
      refine g_iload_n F dX0_count_4 rfl rfl ?_
      refine g_iconst F (nI 3) dX0_count_5 (by decide) ?_
      refine g_icmp_gt_t F 17 dX0_count_6 (by decide) (by decide) ?_
      refine g_iload_n F dX0_count_17 rfl rfl ?_
      refine g_tableIn (off := 66) F 84 dX0_count_18 (by decide) (by decide) (by decide +kernel) (by decide) ?_
      obtain ⟨co2, cr2, cc2, hs2⟩ := Srt_ex w x y wy re de
      refine g_aload_n F dX0_count_84 rfl rfl ?_
      refine c_VI F [] (wr := []) cX_countWeights cwX0_X0_countWeights ⟨by decide, by decide, rfl, rfl⟩ rfl rfl rfl rfl (Nat.le_of_ble_eq_true rfl) ⟨by decide, by decide⟩ dX0_count_85 (fun r u hu => ?_)
      obtain ⟨rfl, rfl⟩ := hu
      show GG (EE l D t) X 0 0 88 [(0, .ref (a 0)), (1, .int (nI 5))] [.int (nI (sum1 w))] (WX a t w x y wy re de co cr cc sr so cf ck ng nw cs se)
      exact E _ _ _ _ dX0_count_88 ⟨⟨co2, cr2, cc2, hs2, by unfold countF; rw [if_neg (by decide), if_neg (by decide), if_neg (by decide), if_neg (by decide), if_neg (by decide), if_pos rfl]⟩, ⟨_, _, _, _, _, _, _, _, _, _, _, rfl, hI⟩⟩
set_option maxHeartbeats 4000000 in
set_option maxRecDepth 100000 in
/-- about -/
theorem cX_about {l : Launch} {D : va_G} {t : Ty3} {a : Nat → Nat} {w : Nat → Nat} {x : Nat → Int32} {y : Nat → Int32} {wy : Nat} {re : Nat} {de : Nat} {co : Nat → Bool} {cr : Nat → Option Nat} {cc : Nat} {sr : Nat} {so : Bool} {cf : Nat → Option Nat} {ck : Bool} {ng : Nat → Nat} {nw : Nat → Nat} {cs : Nat → Nat} {se : Nat → Bool} (hI : XI w x y wy re de co cr cc sr so cf ck ng nw cs) (p q : Int32) : CtI (EE l D t) yX0_about tsX0_about (RM 7 166) [.ref (a 0), .int p, .int q] (WX a t w x y wy re de co cr cc sr so cf ck ng nw cs se) 0 0 (fun r u => aboutR w x y wy re de p q r ∧ XW a t (w, x, y, wy, re, de) u) := by
  refine CtI.of (by decide +kernel) rfl (Nat.le_of_ble_eq_true rfl) (fun X F E => ?_)
  show GG (EE l D t) X 0 0 0 [(0, .ref (a 0)), (1, .int p), (2, .int q)] [] (WX a t w x y wy re de co cr cc sr so cf ck ng nw cs se)
  refine g_aload_n F dX0_about_0 rfl rfl ?_
  refine g_aload_n F dX0_about_1 rfl rfl ?_
  refine gX_get_reachNow F dX0_about_2 ?_
  refine c_VV F [] (wr := []) (cX_sortWith hI.1 hI.2.1 hI.2.2.1 hI.2.2.2.1 hI.1.2.2.2.2.1) cwX0_X0_sortWith ⟨by decide, by decide, rfl, rfl⟩ rfl rfl rfl rfl (Nat.le_of_ble_eq_true rfl) ⟨by decide, by decide⟩ dX0_about_5 (fun u hu => ?_)
  obtain ⟨co2, cr2, cc2, se2, rfl, hb2, hs2⟩ := hu
  show GG (EE l D t) X 0 0 8 [(0, .ref (a 0)), (1, .int p), (2, .int q)] [] (WX a t w x y wy re de co2 cr2 cc2 re true cf ck ng nw cs se2)
  have hI2 : XI w x y wy re de co2 cr2 cc2 re true cf ck ng nw cs := XI_sorted hI hb2 hs2 hI.1.2.2.2.2.1
  refine g_iload_n F dX0_about_8 rfl rfl ?_
  refine g_if_lt F 20 dX0_about_9 (by decide)  (fun h => ?_) (fun h => ?_)
  · refine g_iconst F (oI none) dX0_about_20 (by decide) ?_
    exact E _ _ _ _ dX0_about_21 ⟨⟨co2, cr2, cc2, hs2, by unfold aboutF; rw [if_neg (fun z => z.1 h)]⟩, ⟨_, _, _, _, _, _, _, _, _, _, _, rfl, hI2⟩⟩
  · refine g_iload_n F dX0_about_12 rfl rfl ?_
    refine g_aload_n F dX0_about_13 rfl rfl ?_
    refine gX_get_crowdCount F dX0_about_14 ?_
    refine g_icmp_lt F 22 dX0_about_17 (by decide)  (fun h2 => ?_) (fun h2 => ?_)
    · obtain ⟨c, hc1, rfl⟩ := nI_of h
      have hcc := hs2.cc120
      have hc2 : c < cc2 := (nI_ltI hc1 (by omega)).mp h2
      refine g_iload_n F dX0_about_22 rfl rfl ?_
      rcases pk_ix q (n := 8) (by decide) with hp | hp | ⟨k, hk, rfl⟩
      · refine g_tableOut F 132 dX0_about_23 (Or.inl (Int32.lt_iff_toInt_lt.mp hp)) (by decide) ?_
        refine g_iconst F (oI none) dX0_about_132 (by decide) ?_
        exact E _ _ _ _ dX0_about_133 ⟨⟨co2, cr2, cc2, hs2, by unfold aboutF; rw [if_pos ⟨h, h2⟩, if_neg (fun z => absurd hp (by rw [z]; decide)), if_neg (fun z => absurd hp (by rw [z]; decide)), if_neg (fun z => absurd hp (by rw [z]; decide)), if_neg (fun z => absurd hp (by rw [z]; decide)), if_neg (fun z => absurd hp (by rw [z]; decide)), if_neg (fun z => absurd hp (by rw [z]; decide)), if_neg (fun z => absurd hp (by rw [z]; decide)), if_neg (fun z => absurd hp (by rw [z]; decide))]⟩, ⟨_, _, _, _, _, _, _, _, _, _, _, rfl, hI2⟩⟩
      · refine g_tableOut F 132 dX0_about_23 (Or.inr (Int.lt_of_lt_of_le (by decide) (Int32.le_iff_toInt_le.mp hp))) (by decide) ?_
        refine g_iconst F (oI none) dX0_about_132 (by decide) ?_
        exact E _ _ _ _ dX0_about_133 ⟨⟨co2, cr2, cc2, hs2, by unfold aboutF; rw [if_pos ⟨h, h2⟩, if_neg (fun z => absurd hp (by rw [z]; decide)), if_neg (fun z => absurd hp (by rw [z]; decide)), if_neg (fun z => absurd hp (by rw [z]; decide)), if_neg (fun z => absurd hp (by rw [z]; decide)), if_neg (fun z => absurd hp (by rw [z]; decide)), if_neg (fun z => absurd hp (by rw [z]; decide)), if_neg (fun z => absurd hp (by rw [z]; decide)), if_neg (fun z => absurd hp (by rw [z]; decide))]⟩, ⟨_, _, _, _, _, _, _, _, _, _, _, rfl, hI2⟩⟩
      · rcases (show k = 0 ∨ k = 1 ∨ k = 2 ∨ k = 3 ∨ k = 4 ∨ k = 5 ∨ k = 6 ∨ k = 7 by omega) with rfl | rfl | rfl | rfl | rfl | rfl | rfl | rfl
        · refine g_tableIn (off := 45) F 68 dX0_about_23 (by decide) (by decide) (by decide +kernel) (by decide) ?_
          refine g_aload_n F dX0_about_68 rfl rfl ?_
          refine g_iload_n F dX0_about_69 rfl rfl ?_
          refine c_VI F [] (wr := []) (cX_pointsOf hb2 (by omega)) cwX0_X0_pointsOf ⟨by decide, by decide, rfl, rfl⟩ rfl rfl rfl rfl (Nat.le_of_ble_eq_true rfl) ⟨by decide, by decide⟩ dX0_about_70 (fun r u hu => ?_)
          obtain ⟨rfl, rfl⟩ := hu
          show GG (EE l D t) X 0 0 73 [(0, .ref (a 0)), (1, .int (nI c)), (2, .int (nI 0))] [.int (nI (sum1 (fun p => if cr2 p = some c then 1 else 0)))] (WX a t w x y wy re de co2 cr2 cc2 re true cf ck ng nw cs se2)
          exact E _ _ _ _ dX0_about_73 ⟨⟨co2, cr2, cc2, hs2, by unfold aboutF; rw [if_pos ⟨h, h2⟩, if_pos rfl, nI_clamp hc1]⟩, ⟨_, _, _, _, _, _, _, _, _, _, _, rfl, hI2⟩⟩
        · refine g_tableIn (off := 51) F 74 dX0_about_23 (by decide) (by decide) (by decide +kernel) (by decide) ?_
          refine g_aload_n F dX0_about_74 rfl rfl ?_
          refine g_iload_n F dX0_about_75 rfl rfl ?_
          refine c_VI F [] (wr := []) (cX_coresOf hb2 (by omega)) cwX0_X0_coresOf ⟨by decide, by decide, rfl, rfl⟩ rfl rfl rfl rfl (Nat.le_of_ble_eq_true rfl) ⟨by decide, by decide⟩ dX0_about_76 (fun r u hu => ?_)
          obtain ⟨rfl, rfl⟩ := hu
          show GG (EE l D t) X 0 0 79 [(0, .ref (a 0)), (1, .int (nI c)), (2, .int (nI 1))] [.int (nI (sum1 (fun p => if co2 p = true ∧ cr2 p = some c then 1 else 0)))] (WX a t w x y wy re de co2 cr2 cc2 re true cf ck ng nw cs se2)
          exact E _ _ _ _ dX0_about_79 ⟨⟨co2, cr2, cc2, hs2, by unfold aboutF; rw [if_pos ⟨h, h2⟩, if_neg (by decide), if_pos rfl, nI_clamp hc1]⟩, ⟨_, _, _, _, _, _, _, _, _, _, _, rfl, hI2⟩⟩
        · refine g_tableIn (off := 57) F 80 dX0_about_23 (by decide) (by decide) (by decide +kernel) (by decide) ?_
          refine g_aload_n F dX0_about_80 rfl rfl ?_
          refine g_iload_n F dX0_about_81 rfl rfl ?_
          refine c_VI F [] (wr := []) (cX_weightsOf hb2 (by omega)) cwX0_X0_weightsOf ⟨by decide, by decide, rfl, rfl⟩ rfl rfl rfl rfl (Nat.le_of_ble_eq_true rfl) ⟨by decide, by decide⟩ dX0_about_82 (fun r u hu => ?_)
          obtain ⟨rfl, rfl⟩ := hu
          show GG (EE l D t) X 0 0 85 [(0, .ref (a 0)), (1, .int (nI c)), (2, .int (nI 2))] [.int (nI (sum1 (fun p => if cr2 p = some c then w p else 0)))] (WX a t w x y wy re de co2 cr2 cc2 re true cf ck ng nw cs se2)
          exact E _ _ _ _ dX0_about_85 ⟨⟨co2, cr2, cc2, hs2, by unfold aboutF; rw [if_pos ⟨h, h2⟩, if_neg (by decide), if_neg (by decide), if_pos rfl, nI_clamp hc1]⟩, ⟨_, _, _, _, _, _, _, _, _, _, _, rfl, hI2⟩⟩
        · refine g_tableIn (off := 63) F 86 dX0_about_23 (by decide) (by decide) (by decide +kernel) (by decide) ?_
          refine g_aload_n F dX0_about_86 rfl rfl ?_
          refine g_iload_n F dX0_about_87 rfl rfl ?_
          refine c_VI F [] (wr := []) (cX_leastCoreOf hb2 (by omega)) cwX0_X0_leastCoreOf ⟨by decide, by decide, rfl, rfl⟩ rfl rfl rfl rfl (Nat.le_of_ble_eq_true rfl) ⟨by decide, by decide⟩ dX0_about_88 (fun r u hu => ?_)
          obtain ⟨rfl, rfl⟩ := hu
          show GG (EE l D t) X 0 0 91 [(0, .ref (a 0)), (1, .int (nI c)), (2, .int (nI 3))] [.int (oI (fst1 (fun p => co2 p && decide (cr2 p = some c))))] (WX a t w x y wy re de co2 cr2 cc2 re true cf ck ng nw cs se2)
          exact E _ _ _ _ dX0_about_91 ⟨⟨co2, cr2, cc2, hs2, by unfold aboutF; rw [if_pos ⟨h, h2⟩, if_neg (by decide), if_neg (by decide), if_neg (by decide), if_pos rfl, nI_clamp hc1]⟩, ⟨_, _, _, _, _, _, _, _, _, _, _, rfl, hI2⟩⟩
        · refine g_tableIn (off := 69) F 92 dX0_about_23 (by decide) (by decide) (by decide +kernel) (by decide) ?_
          refine g_aload_n F dX0_about_92 rfl rfl ?_
          refine g_aload_n F dX0_about_93 rfl rfl ?_
          refine gX_get_xs F dX0_about_94 ?_
          refine g_iload_n F dX0_about_97 rfl rfl ?_
          refine c_VI F [] (wr := []) (cX_leastOf_x hb2 (by omega)) cwX0_X0_leastOf ⟨by decide, by decide, rfl, rfl⟩ rfl rfl rfl rfl (Nat.le_of_ble_eq_true rfl) ⟨by decide, by decide⟩ dX0_about_98 (fun r u hu => ?_)
          obtain ⟨rfl, rfl⟩ := hu
          show GG (EE l D t) X 0 0 101 [(0, .ref (a 0)), (1, .int (nI c)), (2, .int (nI 4))] [.int (mn1 x (fun p => decide (cr2 p = some c)) 1073741823)] (WX a t w x y wy re de co2 cr2 cc2 re true cf ck ng nw cs se2)
          exact E _ _ _ _ dX0_about_101 ⟨⟨co2, cr2, cc2, hs2, by unfold aboutF; rw [if_pos ⟨h, h2⟩, if_neg (by decide), if_neg (by decide), if_neg (by decide), if_neg (by decide), if_pos rfl, nI_clamp hc1]⟩, ⟨_, _, _, _, _, _, _, _, _, _, _, rfl, hI2⟩⟩
        · refine g_tableIn (off := 79) F 102 dX0_about_23 (by decide) (by decide) (by decide +kernel) (by decide) ?_
          refine g_aload_n F dX0_about_102 rfl rfl ?_
          refine g_aload_n F dX0_about_103 rfl rfl ?_
          refine gX_get_ys F dX0_about_104 ?_
          refine g_iload_n F dX0_about_107 rfl rfl ?_
          refine c_VI F [] (wr := []) (cX_leastOf_y hb2 (by omega)) cwX0_X0_leastOf ⟨by decide, by decide, rfl, rfl⟩ rfl rfl rfl rfl (Nat.le_of_ble_eq_true rfl) ⟨by decide, by decide⟩ dX0_about_108 (fun r u hu => ?_)
          obtain ⟨rfl, rfl⟩ := hu
          show GG (EE l D t) X 0 0 111 [(0, .ref (a 0)), (1, .int (nI c)), (2, .int (nI 5))] [.int (mn1 y (fun p => decide (cr2 p = some c)) 1073741823)] (WX a t w x y wy re de co2 cr2 cc2 re true cf ck ng nw cs se2)
          exact E _ _ _ _ dX0_about_111 ⟨⟨co2, cr2, cc2, hs2, by unfold aboutF; rw [if_pos ⟨h, h2⟩, if_neg (by decide), if_neg (by decide), if_neg (by decide), if_neg (by decide), if_neg (by decide), if_pos rfl, nI_clamp hc1]⟩, ⟨_, _, _, _, _, _, _, _, _, _, _, rfl, hI2⟩⟩
        · refine g_tableIn (off := 89) F 112 dX0_about_23 (by decide) (by decide) (by decide +kernel) (by decide) ?_
          refine g_aload_n F dX0_about_112 rfl rfl ?_
          refine g_aload_n F dX0_about_113 rfl rfl ?_
          refine gX_get_xs F dX0_about_114 ?_
          refine g_iload_n F dX0_about_117 rfl rfl ?_
          refine c_VI F [] (wr := []) (cX_greatestOf_x hb2 (by omega)) cwX0_X0_greatestOf ⟨by decide, by decide, rfl, rfl⟩ rfl rfl rfl rfl (Nat.le_of_ble_eq_true rfl) ⟨by decide, by decide⟩ dX0_about_118 (fun r u hu => ?_)
          obtain ⟨rfl, rfl⟩ := hu
          show GG (EE l D t) X 0 0 121 [(0, .ref (a 0)), (1, .int (nI c)), (2, .int (nI 6))] [.int (mx1 x (fun p => decide (cr2 p = some c)) (-1073741823))] (WX a t w x y wy re de co2 cr2 cc2 re true cf ck ng nw cs se2)
          exact E _ _ _ _ dX0_about_121 ⟨⟨co2, cr2, cc2, hs2, by unfold aboutF; rw [if_pos ⟨h, h2⟩, if_neg (by decide), if_neg (by decide), if_neg (by decide), if_neg (by decide), if_neg (by decide), if_neg (by decide), if_pos rfl, nI_clamp hc1]⟩, ⟨_, _, _, _, _, _, _, _, _, _, _, rfl, hI2⟩⟩
        · refine g_tableIn (off := 99) F 122 dX0_about_23 (by decide) (by decide) (by decide +kernel) (by decide) ?_
          refine g_aload_n F dX0_about_122 rfl rfl ?_
          refine g_aload_n F dX0_about_123 rfl rfl ?_
          refine gX_get_ys F dX0_about_124 ?_
          refine g_iload_n F dX0_about_127 rfl rfl ?_
          refine c_VI F [] (wr := []) (cX_greatestOf_y hb2 (by omega)) cwX0_X0_greatestOf ⟨by decide, by decide, rfl, rfl⟩ rfl rfl rfl rfl (Nat.le_of_ble_eq_true rfl) ⟨by decide, by decide⟩ dX0_about_128 (fun r u hu => ?_)
          obtain ⟨rfl, rfl⟩ := hu
          show GG (EE l D t) X 0 0 131 [(0, .ref (a 0)), (1, .int (nI c)), (2, .int (nI 7))] [.int (mx1 y (fun p => decide (cr2 p = some c)) (-1073741823))] (WX a t w x y wy re de co2 cr2 cc2 re true cf ck ng nw cs se2)
          exact E _ _ _ _ dX0_about_131 ⟨⟨co2, cr2, cc2, hs2, by unfold aboutF; rw [if_pos ⟨h, h2⟩, if_neg (by decide), if_neg (by decide), if_neg (by decide), if_neg (by decide), if_neg (by decide), if_neg (by decide), if_neg (by decide), if_pos rfl, nI_clamp hc1]⟩, ⟨_, _, _, _, _, _, _, _, _, _, _, rfl, hI2⟩⟩
    · refine g_iconst F (oI none) dX0_about_20 (by decide) ?_
      exact E _ _ _ _ dX0_about_21 ⟨⟨co2, cr2, cc2, hs2, by unfold aboutF; rw [if_neg (fun z => h2 z.2)]⟩, ⟨_, _, _, _, _, _, _, _, _, _, _, rfl, hI2⟩⟩
set_option maxHeartbeats 4000000 in
set_option maxRecDepth 100000 in
/-- belongs -/
theorem cX_belongs {l : Launch} {D : va_G} {t : Ty3} {a : Nat → Nat} {w : Nat → Nat} {x : Nat → Int32} {y : Nat → Int32} {wy : Nat} {re : Nat} {de : Nat} {co : Nat → Bool} {cr : Nat → Option Nat} {cc : Nat} {sr : Nat} {so : Bool} {cf : Nat → Option Nat} {ck : Bool} {ng : Nat → Nat} {nw : Nat → Nat} {cs : Nat → Nat} {se : Nat → Bool} (hI : XI w x y wy re de co cr cc sr so cf ck ng nw cs) (p q : Int32) : CtI (EE l D t) yX0_belongs tsX0_belongs (RM 7 166) [.ref (a 0), .int p, .int q] (WX a t w x y wy re de co cr cc sr so cf ck ng nw cs se) 0 0 (fun r u => belongsR w x y wy re de p q r ∧ XW a t (w, x, y, wy, re, de) u) := by
  refine CtI.of (by decide +kernel) rfl (Nat.le_of_ble_eq_true rfl) (fun X F E => ?_)
  show GG (EE l D t) X 0 0 0 [(0, .ref (a 0)), (1, .int p), (2, .int q)] [] (WX a t w x y wy re de co cr cc sr so cf ck ng nw cs se)
  refine g_iload_n F dX0_belongs_0 rfl rfl ?_
  refine g_iload_n F dX0_belongs_1 rfl rfl ?_
  refine c_SI F [] (wr := []) (cX_isPlace p q) cwX0_X0_isPlace ⟨by decide, by decide, rfl, rfl⟩ rfl rfl (Nat.le_of_ble_eq_true rfl) ⟨by decide, by decide⟩ dX0_belongs_2 (fun r u hu => ?_)
  obtain ⟨rfl, rfl⟩ := hu
  show GG (EE l D t) X 0 0 5 [(0, .ref (a 0)), (1, .int p), (2, .int q)] [.int (b2 (isPl p q))] (WX a t w x y wy re de co cr cc sr so cf ck ng nw cs se)
  refine g_if_ne_b F 10 dX0_belongs_5 (by decide)  (fun h => ?_) (fun h => ?_)
  · refine g_aload_n F dX0_belongs_10 rfl rfl ?_
    refine g_aload_n F dX0_belongs_11 rfl rfl ?_
    refine gX_get_reachNow F dX0_belongs_12 ?_
    refine c_VV F [] (wr := []) (cX_sortWith hI.1 hI.2.1 hI.2.2.1 hI.2.2.2.1 hI.1.2.2.2.2.1) cwX0_X0_sortWith ⟨by decide, by decide, rfl, rfl⟩ rfl rfl rfl rfl (Nat.le_of_ble_eq_true rfl) ⟨by decide, by decide⟩ dX0_belongs_15 (fun u hu => ?_)
    obtain ⟨co2, cr2, cc2, se2, rfl, hb2, hs2⟩ := hu
    show GG (EE l D t) X 0 0 18 [(0, .ref (a 0)), (1, .int p), (2, .int q)] [] (WX a t w x y wy re de co2 cr2 cc2 re true cf ck ng nw cs se2)
    have hI2 : XI w x y wy re de co2 cr2 cc2 re true cf ck ng nw cs := XI_sorted hI hb2 hs2 hI.1.2.2.2.2.1
    refine g_aload_n F dX0_belongs_18 rfl rfl ?_
    refine g_iload_n F dX0_belongs_19 rfl rfl ?_
    refine g_iload_n F dX0_belongs_20 rfl rfl ?_
    refine g_aload_n F dX0_belongs_21 rfl rfl ?_
    refine gX_get_reachNow F dX0_belongs_22 ?_
    refine c_VI F [] (wr := []) (cX_leastCrowdAt hI.1 (fun z h1 h2 => by obtain ⟨k, e1, -, e3⟩ := hs2.core h1 h2; exact ⟨k, e1, e3⟩) (isPl_inR h).1 (isPl_inR h).2 hI.1.2.2.2.2.1) cwX0_X0_leastCrowdAt ⟨by decide, by decide, rfl, rfl⟩ rfl rfl rfl rfl (Nat.le_of_ble_eq_true rfl) ⟨by decide, by decide⟩ dX0_belongs_25 (fun r u hu => ?_)
    obtain ⟨rfl, rfl⟩ := hu
    show GG (EE l D t) X 0 0 28 [(0, .ref (a 0)), (1, .int p), (2, .int q)] [.int (oI (lcs1 co2 cr2 (fun z => gapN wy (x z) (y z) p q) re))] (WX a t w x y wy re de co2 cr2 cc2 re true cf ck ng nw cs se2)
    exact E _ _ _ _ dX0_belongs_28 ⟨by unfold belongsR; rw [if_pos h]; exact ⟨co2, cr2, cc2, hs2, rfl⟩, ⟨_, _, _, _, _, _, _, _, _, _, _, rfl, hI2⟩⟩
  · refine g_iconst F (oI none) dX0_belongs_8 (by decide) ?_
    exact E _ _ _ _ dX0_belongs_9 ⟨by unfold belongsR; rw [if_neg (by simp [h])], ⟨_, _, _, _, _, _, _, _, _, _, _, rfl, hI⟩⟩
set_option maxHeartbeats 4000000 in
set_option maxRecDepth 100000 in
/-- crowds -/
theorem cX_crowds {l : Launch} {D : va_G} {t : Ty3} {a : Nat → Nat} {w : Nat → Nat} {x : Nat → Int32} {y : Nat → Int32} {wy : Nat} {re : Nat} {de : Nat} {co : Nat → Bool} {cr : Nat → Option Nat} {cc : Nat} {sr : Nat} {so : Bool} {cf : Nat → Option Nat} {ck : Bool} {ng : Nat → Nat} {nw : Nat → Nat} {cs : Nat → Nat} {se : Nat → Bool} (hI : XI w x y wy re de co cr cc sr so cf ck ng nw cs) (p : Int64) : CtI (EE l D t) yX0_crowds tsX0_crowds (RM 7 166) [.ref (a 0), .long p] (WX a t w x y wy re de co cr cc sr so cf ck ng nw cs se) 0 0 (fun r u => crowdsR w x y wy de p r ∧ XW a t (w, x, y, wy, re, de) u) := by
  refine CtI.of (by decide +kernel) rfl (Nat.le_of_ble_eq_true rfl) (fun X F E => ?_)
  show GG (EE l D t) X 0 0 0 [(0, .ref (a 0)), (1, .long p)] [] (WX a t w x y wy re de co cr cc sr so cf ck ng nw cs se)
  refine g_lload_n F dX0_crowds_0 rfl rfl ?_
  refine g_lconst F 0 dX0_crowds_1 rfl ?_
  refine g_lc_ge F 8 dX0_crowds_2 dX0_crowds_3 (by decide)  (fun h => ?_) (fun h => ?_)
  · have h9 : ¬ p < 0 := lg_le_not_lt h
    obtain ⟨m, hm, rfl⟩ := pk_lOf h9
    refine g_aload_n F dX0_crowds_8 rfl rfl ?_
    refine g_lload_n F dX0_crowds_9 rfl rfl ?_
    refine c_VV F [] (wr := []) (cX_sortWith hI.1 hI.2.1 hI.2.2.1 hI.2.2.2.1 hm) cwX0_X0_sortWith ⟨by decide, by decide, rfl, rfl⟩ rfl rfl rfl rfl (Nat.le_of_ble_eq_true rfl) ⟨by decide, by decide⟩ dX0_crowds_10 (fun u hu => ?_)
    obtain ⟨co2, cr2, cc2, se2, rfl, hb2, hs2⟩ := hu
    show GG (EE l D t) X 0 0 13 [(0, .ref (a 0)), (1, .long (lN m))] [] (WX a t w x y wy re de co2 cr2 cc2 m true cf ck ng nw cs se2)
    have hI2 : XI w x y wy re de co2 cr2 cc2 m true cf ck ng nw cs := XI_sorted hI hb2 hs2 hm
    refine g_aload_n F dX0_crowds_13 rfl rfl ?_
    refine gX_get_crowdCount F dX0_crowds_14 ?_
    exact E _ _ _ _ dX0_crowds_17 ⟨by unfold crowdsR; rw [if_neg h9, pk_lT hm]; exact ⟨co2, cr2, cc2, hs2, rfl⟩, ⟨_, _, _, _, _, _, _, _, _, _, _, rfl, hI2⟩⟩
  · refine g_iconst F (oI none) dX0_crowds_6 (by decide) ?_
    exact E _ _ _ _ dX0_crowds_7 ⟨by unfold crowdsR; rw [if_pos (l_neg h)], ⟨_, _, _, _, _, _, _, _, _, _, _, rfl, hI⟩⟩
set_option maxHeartbeats 4000000 in
set_option maxRecDepth 100000 in
/-- check -/
theorem cX_check {l : Launch} {D : va_G} {t : Ty3} {a : Nat → Nat} {w : Nat → Nat} {x : Nat → Int32} {y : Nat → Int32} {wy : Nat} {re : Nat} {de : Nat} {co : Nat → Bool} {cr : Nat → Option Nat} {cc : Nat} {sr : Nat} {so : Bool} {cf : Nat → Option Nat} {ck : Bool} {ng : Nat → Nat} {nw : Nat → Nat} {cs : Nat → Nat} {se : Nat → Bool} (hI : XI w x y wy re de co cr cc sr so cf ck ng nw cs) : CtI (EE l D t) yX0_check tsX0_check (RM 7 166) [.ref (a 0)] (WX a t w x y wy re de co cr cc sr so cf ck ng nw cs se) 0 0 (fun r u => r = nI 1 ∧ XW a t (w, x, y, wy, re, de) u) := by
  refine CtI.of (by decide +kernel) rfl (Nat.le_of_ble_eq_true rfl) (fun X F E => ?_)
  show GG (EE l D t) X 0 0 0 [(0, .ref (a 0))] [] (WX a t w x y wy re de co cr cc sr so cf ck ng nw cs se)
  refine g_aload_n F dX0_check_0 rfl rfl ?_
  refine g_aload_n F dX0_check_1 rfl rfl ?_
  refine gX_get_reachNow F dX0_check_2 ?_
  refine c_VV F [] (wr := []) (cX_sortWith hI.1 hI.2.1 hI.2.2.1 hI.2.2.2.1 hI.1.2.2.2.2.1) cwX0_X0_sortWith ⟨by decide, by decide, rfl, rfl⟩ rfl rfl rfl rfl (Nat.le_of_ble_eq_true rfl) ⟨by decide, by decide⟩ dX0_check_5 (fun u hu => ?_)
  obtain ⟨co2, cr2, cc2, se2, rfl, hb2, hs2⟩ := hu
  show GG (EE l D t) X 0 0 8 [(0, .ref (a 0))] [] (WX a t w x y wy re de co2 cr2 cc2 re true cf ck ng nw cs se2)
  have hI2 : XI w x y wy re de co2 cr2 cc2 re true cf ck ng nw cs := XI_sorted hI hb2 hs2 hI.1.2.2.2.2.1
  refine g_iconst F (nI 0) dX0_check_8 (by decide) ?_
  refine g_istore_n (lv2 := [(0, .ref (a 0)), (1, .int (nI 0))]) F dX0_check_9 rfl (by decide) rfl ?_
  refine up_loop (P := fun i => GG (EE l D t) X 0 0 10 [(0, .ref (a 0)), (1, .int (nI i))] [] (WX a t w x y wy re de co2 cr2 cc2 re true cf ck ng nw cs se2)) 120 ?_ (fun i hi ih => ?_)
  · show GG (EE l D t) X 0 0 10 [(0, .ref (a 0)), (1, .int (nI 120))] [] (WX a t w x y wy re de co2 cr2 cc2 re true cf ck ng nw cs se2)
    refine g_iload_n F dX0_check_10 rfl rfl ?_
    refine g_bipush F (nI 120) dX0_check_11 (by decide) ?_
    refine g_icmp_ge_t F 41 dX0_check_13 (by decide) (nI_le (Nat.le_refl 120) (by decide)) ?_
    refine g_iconst F (nI 1) dX0_check_41 (by decide) ?_
    exact E _ _ _ _ dX0_check_42 ⟨rfl, ⟨_, _, _, _, _, _, _, _, _, _, _, rfl, hI2⟩⟩
  · show GG (EE l D t) X 0 0 10 [(0, .ref (a 0)), (1, .int (nI i))] [] (WX a t w x y wy re de co2 cr2 cc2 re true cf ck ng nw cs se2)
    refine g_iload_n F dX0_check_10 rfl rfl ?_
    refine g_bipush F (nI 120) dX0_check_11 (by decide) ?_
    refine g_icmp_ge_f F 41 dX0_check_13 (by decide) (nI_ge hi (by decide)) ?_
    refine g_aload_n F dX0_check_16 rfl rfl ?_
    refine gX_get_core F dX0_check_17 ?_
    refine g_iload_n F dX0_check_20 rfl rfl ?_
    refine gX_ld_core F hi dX0_check_21 ?_
    refine g_if_eq_b F 35 dX0_check_22 (by decide)  (fun h => ?_) (fun h => ?_)
    · refine g_iinc (lv2 := [(0, .ref (a 0)), (1, .int (nI (i + 1)))]) F (nI (i + 1)) dX0_check_35 rfl (nI_add i 1) (by decide) rfl ?_
      refine g_goto F 10 dX0_check_38 (by decide) ?_
      exact ih
    · refine g_aload_n F dX0_check_25 rfl rfl ?_
      refine g_iload_n F dX0_check_26 rfl rfl ?_
      refine c_VI F [] (wr := []) (cX_standsRight hI.1 hs2 hi h) cwX0_X0_standsRight ⟨by decide, by decide, rfl, rfl⟩ rfl rfl rfl rfl (Nat.le_of_ble_eq_true rfl) ⟨by decide, by decide⟩ dX0_check_27 (fun r u hu => ?_)
      obtain ⟨rfl, rfl⟩ := hu
      show GG (EE l D t) X 0 0 30 [(0, .ref (a 0)), (1, .int (nI i))] [.int (b2 true)] (WX a t w x y wy re de co2 cr2 cc2 re true cf ck ng nw cs se2)
      refine g_if_ne_b F 35 dX0_check_30 (by decide)  (fun h2 => ?_) (fun h2 => ?_)
      · refine g_iinc (lv2 := [(0, .ref (a 0)), (1, .int (nI (i + 1)))]) F (nI (i + 1)) dX0_check_35 rfl (nI_add i 1) (by decide) rfl ?_
        refine g_goto F 10 dX0_check_38 (by decide) ?_
        exact ih
      · cases h2
