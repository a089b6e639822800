theorem bdC_none {cr : Nat → Option Nat} (hb : bdC cr) : bdC (fill cr (fun _ => none) 120) := fun i z hz => by
  by_cases hi : i < 120
  · rw [fill_in hi] at hz
    cases hz
  · rw [fill_out (by omega)] at hz
    exact hb i z hz
set_option maxHeartbeats 4000000 in
set_option maxRecDepth 100000 in
/-- sortWith -/
theorem cX_sortWith {l : Launch} {D : va_G} {t : Ty3} {a : Nat → Nat} {w : Nat → Nat} {x : Nat → Int32} {y : Nat → Int32} {wy : Nat} {re : Nat} {de : Nat} {co : Nat → Bool} {cr : Nat → Option Nat} {cc : Nat} {sr : Nat} {so : Bool} {cf : Nat → Option Nat} {ck : Bool} {ng : Nat → Nat} {nw : Nat → Nat} {cs : Nat → Nat} {se : Nat → Bool} (hf : WFp w x y wy re de) (hb : bdC cr) (hsr : sr < 2 ^ 63) (hs : so = true → Srt w x y wy de sr co cr cc) {r0 : Nat} (hr : r0 < 2 ^ 63) : CtV (EE l D t) yX0_sortWith tsX0_sortWith (RM 6 144) [.ref (a 0), .long (lN r0)] (WX a t w x y wy re de co cr cc sr so cf ck ng nw cs se) 0 0 (fun u => ∃ (co2 : Nat → Bool) (cr2 : Nat → Option Nat) (cc2 : Nat) (se2 : Nat → Bool), u = WX a t w x y wy re de co2 cr2 cc2 r0 true cf ck ng nw cs se2 ∧ bdC cr2 ∧ Srt w x y wy de r0 co2 cr2 cc2) := by
  refine CtV.of (by decide +kernel) rfl (Nat.le_of_ble_eq_true rfl) (fun X F E => ?_)
  show GG (EE l D t) X 0 0 0 [(0, .ref (a 0)), (1, .long (lN r0))] [] (WX a t w x y wy re de co cr cc sr so cf ck ng nw cs se)
  refine g_aload_n F dX0_sortWith_0 rfl rfl ?_
  refine gX_get_sorted F dX0_sortWith_1 ?_
  refine g_if_eq_b F 17 dX0_sortWith_4 (by decide)  (fun h => ?_) (fun h => ?_)
  · refine g_aload_n F dX0_sortWith_17 rfl rfl ?_
    refine g_lload_n F dX0_sortWith_18 rfl rfl ?_
    refine c_VV F [] (wr := []) (cX_markCores hf hr) cwX0_X0_markCores ⟨by decide, by decide, rfl, rfl⟩ rfl rfl rfl rfl (Nat.le_of_ble_eq_true rfl) ⟨by decide, by decide⟩ dX0_sortWith_19 (fun u hu => ?_)
    obtain rfl := hu
    show GG (EE l D t) X 0 0 22 [(0, .ref (a 0)), (1, .long (lN r0))] [] (WX a t w x y wy re de (fill co (isC w x y wy de r0) 120) (fill cr (fun _ => none) 120) cc sr so cf ck ng nw cs (fill se (fun _ => false) 120))
    refine g_aload_n F dX0_sortWith_22 rfl rfl ?_
    refine g_lload_n F dX0_sortWith_23 rfl rfl ?_
    refine c_VV F [] (wr := []) (cX_gatherCrowds hf (bdC_none hb) hr) cwX0_X0_gatherCrowds ⟨by decide, by decide, rfl, rfl⟩ rfl rfl rfl rfl (Nat.le_of_ble_eq_true rfl) ⟨by decide, by decide⟩ dX0_sortWith_24 (fun u hu => ?_)
    obtain rfl := hu
    show GG (EE l D t) X 0 0 27 [(0, .ref (a 0)), (1, .long (lN r0))] [] (WX a t w x y wy re de (fill co (isC w x y wy de r0) 120) ((gS1 (fill co (isC w x y wy de r0) 120) (gp wy x y) r0 (fill cr (fun _ => none) 120) (fill se (fun _ => false) 120)).1) ((gS1 (fill co (isC w x y wy de r0) 120) (gp wy x y) r0 (fill cr (fun _ => none) 120) (fill se (fun _ => false) 120)).2.2) sr so cf ck ng nw cs ((gS1 (fill co (isC w x y wy de r0) 120) (gp wy x y) r0 (fill cr (fun _ => none) 120) (fill se (fun _ => false) 120)).2.1))
    refine g_aload_n F dX0_sortWith_27 rfl rfl ?_
    refine g_lload_n F dX0_sortWith_28 rfl rfl ?_
    refine c_VV F [] (wr := []) (cX_joinBorders hf (core_X se) hr) cwX0_X0_joinBorders ⟨by decide, by decide, rfl, rfl⟩ rfl rfl rfl rfl (Nat.le_of_ble_eq_true rfl) ⟨by decide, by decide⟩ dX0_sortWith_29 (fun u hu => ?_)
    obtain rfl := hu
    show GG (EE l D t) X 0 0 32 [(0, .ref (a 0)), (1, .long (lN r0))] [] (WX a t w x y wy re de (fill co (isC w x y wy de r0) 120) (fill (gS1 (fill co (isC w x y wy de r0) 120) (gp wy x y) r0 (fill cr (fun _ => none) 120) (fill se (fun _ => false) 120)).1 (jB w (fill co (isC w x y wy de r0) 120) (gS1 (fill co (isC w x y wy de r0) 120) (gp wy x y) r0 (fill cr (fun _ => none) 120) (fill se (fun _ => false) 120)).1 (fun p q => gapN wy (x q) (y q) (x p) (y p)) r0) 120) ((gS1 (fill co (isC w x y wy de r0) 120) (gp wy x y) r0 (fill cr (fun _ => none) 120) (fill se (fun _ => false) 120)).2.2) sr so cf ck ng nw cs ((gS1 (fill co (isC w x y wy de r0) 120) (gp wy x y) r0 (fill cr (fun _ => none) 120) (fill se (fun _ => false) 120)).2.1))
    refine g_aload_n F dX0_sortWith_32 rfl rfl ?_
    refine g_lload_n F dX0_sortWith_33 rfl rfl ?_
    refine gX_put_sortedReach F dX0_sortWith_34 ?_
    refine g_aload_n F dX0_sortWith_37 rfl rfl ?_
    refine g_iconst F (b2 true) dX0_sortWith_38 (by decide) ?_
    refine gX_put_sorted F dX0_sortWith_39 ?_
    exact E _ _ _ dX0_sortWith_42 ⟨_, _, _, _, rfl, bdC_X se hb, srt_X se⟩
  · refine g_aload_n F dX0_sortWith_7 rfl rfl ?_
    refine gX_get_sortedReach F dX0_sortWith_8 ?_
    refine g_lload_n F dX0_sortWith_11 rfl rfl ?_
    refine g_lc_ne_n F 17 dX0_sortWith_12 dX0_sortWith_13 (by decide) hsr hr (fun h2 => ?_) (fun h2 => ?_)
    · refine g_aload_n F dX0_sortWith_17 rfl rfl ?_
      refine g_lload_n F dX0_sortWith_18 rfl rfl ?_
      refine c_VV F [] (wr := []) (cX_markCores hf hr) cwX0_X0_markCores ⟨by decide, by decide, rfl, rfl⟩ rfl rfl rfl rfl (Nat.le_of_ble_eq_true rfl) ⟨by decide, by decide⟩ dX0_sortWith_19 (fun u hu => ?_)
      obtain rfl := hu
      show GG (EE l D t) X 0 0 22 [(0, .ref (a 0)), (1, .long (lN r0))] [] (WX a t w x y wy re de (fill co (isC w x y wy de r0) 120) (fill cr (fun _ => none) 120) cc sr so cf ck ng nw cs (fill se (fun _ => false) 120))
      refine g_aload_n F dX0_sortWith_22 rfl rfl ?_
      refine g_lload_n F dX0_sortWith_23 rfl rfl ?_
      refine c_VV F [] (wr := []) (cX_gatherCrowds hf (bdC_none hb) hr) cwX0_X0_gatherCrowds ⟨by decide, by decide, rfl, rfl⟩ rfl rfl rfl rfl (Nat.le_of_ble_eq_true rfl) ⟨by decide, by decide⟩ dX0_sortWith_24 (fun u hu => ?_)
      obtain rfl := hu
      show GG (EE l D t) X 0 0 27 [(0, .ref (a 0)), (1, .long (lN r0))] [] (WX a t w x y wy re de (fill co (isC w x y wy de r0) 120) ((gS1 (fill co (isC w x y wy de r0) 120) (gp wy x y) r0 (fill cr (fun _ => none) 120) (fill se (fun _ => false) 120)).1) ((gS1 (fill co (isC w x y wy de r0) 120) (gp wy x y) r0 (fill cr (fun _ => none) 120) (fill se (fun _ => false) 120)).2.2) sr so cf ck ng nw cs ((gS1 (fill co (isC w x y wy de r0) 120) (gp wy x y) r0 (fill cr (fun _ => none) 120) (fill se (fun _ => false) 120)).2.1))
      refine g_aload_n F dX0_sortWith_27 rfl rfl ?_
      refine g_lload_n F dX0_sortWith_28 rfl rfl ?_
      refine c_VV F [] (wr := []) (cX_joinBorders hf (core_X se) hr) cwX0_X0_joinBorders ⟨by decide, by decide, rfl, rfl⟩ rfl rfl rfl rfl (Nat.le_of_ble_eq_true rfl) ⟨by decide, by decide⟩ dX0_sortWith_29 (fun u hu => ?_)
      obtain rfl := hu
      show GG (EE l D t) X 0 0 32 [(0, .ref (a 0)), (1, .long (lN r0))] [] (WX a t w x y wy re de (fill co (isC w x y wy de r0) 120) (fill (gS1 (fill co (isC w x y wy de r0) 120) (gp wy x y) r0 (fill cr (fun _ => none) 120) (fill se (fun _ => false) 120)).1 (jB w (fill co (isC w x y wy de r0) 120) (gS1 (fill co (isC w x y wy de r0) 120) (gp wy x y) r0 (fill cr (fun _ => none) 120) (fill se (fun _ => false) 120)).1 (fun p q => gapN wy (x q) (y q) (x p) (y p)) r0) 120) ((gS1 (fill co (isC w x y wy de r0) 120) (gp wy x y) r0 (fill cr (fun _ => none) 120) (fill se (fun _ => false) 120)).2.2) sr so cf ck ng nw cs ((gS1 (fill co (isC w x y wy de r0) 120) (gp wy x y) r0 (fill cr (fun _ => none) 120) (fill se (fun _ => false) 120)).2.1))
      refine g_aload_n F dX0_sortWith_32 rfl rfl ?_
      refine g_lload_n F dX0_sortWith_33 rfl rfl ?_
      refine gX_put_sortedReach F dX0_sortWith_34 ?_
      refine g_aload_n F dX0_sortWith_37 rfl rfl ?_
      refine g_iconst F (b2 true) dX0_sortWith_38 (by decide) ?_
      refine gX_put_sorted F dX0_sortWith_39 ?_
      exact E _ _ _ dX0_sortWith_42 ⟨_, _, _, _, rfl, bdC_X se hb, srt_X se⟩
    · exact E _ _ _ dX0_sortWith_16 ⟨co, cr, cc, se, by rw [h, h2], hb, by rw [← h2]; exact hs h⟩
set_option maxHeartbeats 4000000 in
set_option maxRecDepth 100000 in
/-- kindOf -/
theorem cX_kindOf {l : Launch} {D : va_G} {t : Ty3} {a : Nat → Nat} {w : Nat → Nat} {x : Nat → Int32} {y : Nat → Int32} {wy : Nat} {re : Nat} {de : Nat} {co : Nat → Bool} {cr : Nat → Option Nat} {cc : Nat} {sr : Nat} {so : Bool} {cf : Nat → Option Nat} {ck : Bool} {ng : Nat → Nat} {nw : Nat → Nat} {cs : Nat → Nat} {se : Nat → Bool} (hb : bdC cr) {p : Nat} (hp : p < 120) : CtI (EE l D t) yX0_kindOf tsX0_kindOf (RM 0 0) [.ref (a 0), .int (nI p)] (WX a t w x y wy re de co cr cc sr so cf ck ng nw cs se) 0 0 (fun r u => u = WX a t w x y wy re de co cr cc sr so cf ck ng nw cs se ∧ r = nI (knd co cr p)) := by
  refine CtI.of (by decide +kernel) rfl (Nat.le_of_ble_eq_true rfl) (fun X F E => ?_)
  show GG (EE l D t) X 0 0 0 [(0, .ref (a 0)), (1, .int (nI p))] [] (WX a t w x y wy re de co cr cc sr so cf ck ng nw cs se)
  refine g_aload_n F dX0_kindOf_0 rfl rfl ?_
  refine gX_get_core F dX0_kindOf_1 ?_
  refine g_iload_n F dX0_kindOf_4 rfl rfl ?_
  refine gX_ld_core F hp dX0_kindOf_5 ?_
  refine g_if_eq_b F 11 dX0_kindOf_6 (by decide)  (fun h => ?_) (fun h => ?_)
  · refine g_aload_n F dX0_kindOf_11 rfl rfl ?_
    refine gX_get_crowdOf F dX0_kindOf_12 ?_
    refine g_iload_n F dX0_kindOf_15 rfl rfl ?_
    refine gX_ld_crowdOf F hp dX0_kindOf_16 ?_
    refine g_iconst F (oI none) dX0_kindOf_17 (by decide) ?_
    refine g_icmp_ne_o F 25 dX0_kindOf_18 (by decide) (bd31 hb p) (fun h2 => ?_) (fun h2 => ?_)
    · refine g_iconst F (nI 1) dX0_kindOf_25 (by decide) ?_
      exact E _ _ _ _ dX0_kindOf_26 ⟨rfl, by unfold knd; rw [if_neg (by simp [h]), if_neg h2]⟩
    · refine g_iconst F (nI 0) dX0_kindOf_21 (by decide) ?_
      refine g_goto F 26 dX0_kindOf_22 (by decide) ?_
      exact E _ _ _ _ dX0_kindOf_26 ⟨rfl, by unfold knd; rw [if_neg (by simp [h]), if_pos h2]⟩
  · refine g_iconst F (nI 2) dX0_kindOf_9 (by decide) ?_
    exact E _ _ _ _ dX0_kindOf_10 ⟨rfl, by unfold knd; rw [if_pos h]⟩
set_option maxHeartbeats 4000000 in
set_option maxRecDepth 100000 in
/-- countKind -/
theorem cX_countKind {l : Launch} {D : va_G} {t : Ty3} {a : Nat → Nat} {w : Nat → Nat} {x : Nat → Int32} {y : Nat → Int32} {wy : Nat} {re : Nat} {de : Nat} {co : Nat → Bool} {cr : Nat → Option Nat} {cc : Nat} {sr : Nat} {so : Bool} {cf : Nat → Option Nat} {ck : Bool} {ng : Nat → Nat} {nw : Nat → Nat} {cs : Nat → Nat} {se : Nat → Bool} (hf : WFp w x y wy re de) (hb : bdC cr) {kd : Nat} (hk : kd ≤ 2) : CtI (EE l D t) yX0_countKind tsX0_countKind (RM 1 21) [.ref (a 0), .int (nI kd)] (WX a t w x y wy re de co cr cc sr so cf ck ng nw cs se) 0 0 (fun r u => u = WX a t w x y wy re de co cr cc sr so cf ck ng nw cs se ∧ r = nI (sum1 (fun p => if 0 < w p ∧ knd co cr p = kd then 1 else 0))) := by
  refine CtI.of (by decide +kernel) rfl (Nat.le_of_ble_eq_true rfl) (fun X F E => ?_)
  show GG (EE l D t) X 0 0 0 [(0, .ref (a 0)), (1, .int (nI kd))] [] (WX a t w x y wy re de co cr cc sr so cf ck ng nw cs se)
  refine g_iconst F (nI 0) dX0_countKind_0 (by decide) ?_
  refine g_istore_n (lv2 := [(0, .ref (a 0)), (1, .int (nI kd)), (2, .int (nI 0))]) F dX0_countKind_1 rfl (by decide) rfl ?_
  refine g_iconst F (nI 0) dX0_countKind_2 (by decide) ?_
  refine g_istore_n (lv2 := [(0, .ref (a 0)), (1, .int (nI kd)), (2, .int (nI 0)), (3, .int (nI 0))]) F dX0_countKind_3 rfl (by decide) rfl ?_
  refine up_loop (P := fun i => GG (EE l D t) X 0 0 4 [(0, .ref (a 0)), (1, .int (nI kd)), (2, .int (nI (sumN (fun p => if 0 < w p ∧ knd co cr p = kd then 1 else 0) i))), (3, .int (nI i))] [] (WX a t w x y wy re de co cr cc sr so cf ck ng nw cs se)) 120 ?_ (fun i hi ih => ?_)
  · show GG (EE l D t) X 0 0 4 [(0, .ref (a 0)), (1, .int (nI kd)), (2, .int (nI (sumN (fun p => if 0 < w p ∧ knd co cr p = kd then 1 else 0) 120))), (3, .int (nI 120))] [] (WX a t w x y wy re de co cr cc sr so cf ck ng nw cs se)
    refine g_iload_n F dX0_countKind_4 rfl rfl ?_
    refine g_bipush F (nI 120) dX0_countKind_5 (by decide) ?_
    refine g_icmp_ge_t F 37 dX0_countKind_7 (by decide) (nI_le (Nat.le_refl 120) (by decide)) ?_
    refine g_iload_n F dX0_countKind_37 rfl rfl ?_
    exact E _ _ _ _ dX0_countKind_38 ⟨rfl, by rw [sum1_eq]⟩
  · show GG (EE l D t) X 0 0 4 [(0, .ref (a 0)), (1, .int (nI kd)), (2, .int (nI (sumN (fun p => if 0 < w p ∧ knd co cr p = kd then 1 else 0) i))), (3, .int (nI i))] [] (WX a t w x y wy re de co cr cc sr so cf ck ng nw cs se)
    refine g_iload_n F dX0_countKind_4 rfl rfl ?_
    refine g_bipush F (nI 120) dX0_countKind_5 (by decide) ?_
    refine g_icmp_ge_f F 37 dX0_countKind_7 (by decide) (nI_ge hi (by decide)) ?_
    refine g_aload_n F dX0_countKind_10 rfl rfl ?_
    refine gX_get_weights F dX0_countKind_11 ?_
    refine g_iload_n F dX0_countKind_14 rfl rfl ?_
    refine gX_ld_weights F hi dX0_countKind_15 ?_
    refine g_if_le_n F 31 dX0_countKind_16 (by decide) (by have := hf.1 i; omega) (fun h => ?_) (fun h => ?_)
    · refine g_iinc (lv2 := [(0, .ref (a 0)), (1, .int (nI kd)), (2, .int (nI (sumN (fun p => if 0 < w p ∧ knd co cr p = kd then 1 else 0) i))), (3, .int (nI (i + 1)))]) F (nI (i + 1)) dX0_countKind_31 rfl (nI_add i 1) (by decide) rfl ?_
      refine g_goto F 4 dX0_countKind_34 (by decide) ?_
      rw [sumN_z (f := (fun p => if 0 < w p ∧ knd co cr p = kd then 1 else 0)) (n := i) (c := 0 < w i ∧ knd co cr i = kd) (v := 1) rfl (by omega)] at ih
      exact ih
    · refine g_aload_n F dX0_countKind_19 rfl rfl ?_
      refine g_iload_n F dX0_countKind_20 rfl rfl ?_
      refine c_VI F [] (wr := []) (cX_kindOf hb hi) cwX0_X0_kindOf ⟨by decide, by decide, rfl, rfl⟩ rfl rfl rfl rfl (Nat.le_of_ble_eq_true rfl) ⟨by decide, by decide⟩ dX0_countKind_21 (fun r u hu => ?_)
      obtain ⟨rfl, rfl⟩ := hu
      show GG (EE l D t) X 0 0 24 [(0, .ref (a 0)), (1, .int (nI kd)), (2, .int (nI (sumN (fun p => if 0 < w p ∧ knd co cr p = kd then 1 else 0) i))), (3, .int (nI i))] [.int (nI (knd co cr i))] (WX a t w x y wy re de co cr cc sr so cf ck ng nw cs se)
      refine g_iload_n F dX0_countKind_24 rfl rfl ?_
      refine g_icmp_ne_n F 31 dX0_countKind_25 (by decide) (by have := knd_le co cr i; omega) (by omega) (fun h2 => ?_) (fun h2 => ?_)
      · refine g_iinc (lv2 := [(0, .ref (a 0)), (1, .int (nI kd)), (2, .int (nI (sumN (fun p => if 0 < w p ∧ knd co cr p = kd then 1 else 0) i))), (3, .int (nI (i + 1)))]) F (nI (i + 1)) dX0_countKind_31 rfl (nI_add i 1) (by decide) rfl ?_
        refine g_goto F 4 dX0_countKind_34 (by decide) ?_
        rw [sumN_z (f := (fun p => if 0 < w p ∧ knd co cr p = kd then 1 else 0)) (n := i) (c := 0 < w i ∧ knd co cr i = kd) (v := 1) rfl (fun z => h2 z.2)] at ih
        exact ih
      · refine g_iinc (lv2 := [(0, .ref (a 0)), (1, .int (nI kd)), (2, .int (nI ((sumN (fun p => if 0 < w p ∧ knd co cr p = kd then 1 else 0) i) + 1))), (3, .int (nI i))]) F (nI ((sumN (fun p => if 0 < w p ∧ knd co cr p = kd then 1 else 0) i) + 1)) dX0_countKind_28 rfl (nI_add (sumN (fun p => if 0 < w p ∧ knd co cr p = kd then 1 else 0) i) 1) (by decide) rfl ?_
        refine g_iinc (lv2 := [(0, .ref (a 0)), (1, .int (nI kd)), (2, .int (nI ((sumN (fun p => if 0 < w p ∧ knd co cr p = kd then 1 else 0) i) + 1))), (3, .int (nI (i + 1)))]) F (nI (i + 1)) dX0_countKind_31 rfl (nI_add i 1) (by decide) rfl ?_
        refine g_goto F 4 dX0_countKind_34 (by decide) ?_
        rw [sumN_c (f := (fun p => if 0 < w p ∧ knd co cr p = kd then 1 else 0)) (n := i) (c := 0 < w i ∧ knd co cr i = kd) (v := 1) rfl ⟨h, h2⟩] at ih
        exact ih
set_option maxHeartbeats 4000000 in
set_option maxRecDepth 100000 in
/-- X0_pointsOf -/
theorem cX_pointsOf {l : Launch} {D : va_G} {t : Ty3} {a : Nat → Nat} {w : Nat → Nat} {x : Nat → Int32} {y : Nat → Int32} {wy : Nat} {re : Nat} {de : Nat} {co : Nat → Bool} {cr : Nat → Option Nat} {cc : Nat} {sr : Nat} {so : Bool} {cf : Nat → Option Nat} {ck : Bool} {ng : Nat → Nat} {nw : Nat → Nat} {cs : Nat → Nat} {se : Nat → Bool} (hb : bdC cr) {c : Nat} (hc : c < 120) : CtI (EE l D t) yX0_pointsOf tsX0_pointsOf (RM 0 0) [.ref (a 0), .int (nI c)] (WX a t w x y wy re de co cr cc sr so cf ck ng nw cs se) 0 0 (fun r u => u = WX a t w x y wy re de co cr cc sr so cf ck ng nw cs se ∧ r = nI (sum1 (fun p => if cr p = some c then 1 else 0))) := by
  refine CtI.of (by decide +kernel) rfl (Nat.le_of_ble_eq_true rfl) (fun X F E => ?_)
  show GG (EE l D t) X 0 0 0 [(0, .ref (a 0)), (1, .int (nI c))] [] (WX a t w x y wy re de co cr cc sr so cf ck ng nw cs se)
  refine g_iconst F (nI 0) dX0_pointsOf_0 (by decide) ?_
  refine g_istore_n (lv2 := [(0, .ref (a 0)), (1, .int (nI c)), (2, .int (nI 0))]) F dX0_pointsOf_1 rfl (by decide) rfl ?_
  refine g_iconst F (nI 0) dX0_pointsOf_2 (by decide) ?_
  refine g_istore_n (lv2 := [(0, .ref (a 0)), (1, .int (nI c)), (2, .int (nI 0)), (3, .int (nI 0))]) F dX0_pointsOf_3 rfl (by decide) rfl ?_
  refine up_loop (P := fun i => GG (EE l D t) X 0 0 4 [(0, .ref (a 0)), (1, .int (nI c)), (2, .int (nI (sumN (fun p => if cr p = some c then 1 else 0) i))), (3, .int (nI i))] [] (WX a t w x y wy re de co cr cc sr so cf ck ng nw cs se)) 120 ?_ (fun i hi ih => ?_)
  · show GG (EE l D t) X 0 0 4 [(0, .ref (a 0)), (1, .int (nI c)), (2, .int (nI (sumN (fun p => if cr p = some c then 1 else 0) 120))), (3, .int (nI 120))] [] (WX a t w x y wy re de co cr cc sr so cf ck ng nw cs se)
    refine g_iload_n F dX0_pointsOf_4 rfl rfl ?_
    refine g_bipush F (nI 120) dX0_pointsOf_5 (by decide) ?_
    refine g_icmp_ge_t F 29 dX0_pointsOf_7 (by decide) (nI_le (Nat.le_refl 120) (by decide)) ?_
    refine g_iload_n F dX0_pointsOf_29 rfl rfl ?_
    exact E _ _ _ _ dX0_pointsOf_30 ⟨rfl, by rw [sum1_eq]⟩
  · show GG (EE l D t) X 0 0 4 [(0, .ref (a 0)), (1, .int (nI c)), (2, .int (nI (sumN (fun p => if cr p = some c then 1 else 0) i))), (3, .int (nI i))] [] (WX a t w x y wy re de co cr cc sr so cf ck ng nw cs se)
    refine g_iload_n F dX0_pointsOf_4 rfl rfl ?_
    refine g_bipush F (nI 120) dX0_pointsOf_5 (by decide) ?_
    refine g_icmp_ge_f F 29 dX0_pointsOf_7 (by decide) (nI_ge hi (by decide)) ?_
    refine g_aload_n F dX0_pointsOf_10 rfl rfl ?_
    refine gX_get_crowdOf F dX0_pointsOf_11 ?_
    refine g_iload_n F dX0_pointsOf_14 rfl rfl ?_
    refine gX_ld_crowdOf F hi dX0_pointsOf_15 ?_
    refine g_iload_n F dX0_pointsOf_16 rfl rfl ?_
    refine g_icmp_ne_on F 23 dX0_pointsOf_17 (by decide) (bd31 hb i) (by omega) (fun h0 => ?_) (fun h0 => ?_)
    · refine g_iinc (lv2 := [(0, .ref (a 0)), (1, .int (nI c)), (2, .int (nI (sumN (fun p => if cr p = some c then 1 else 0) i))), (3, .int (nI (i + 1)))]) F (nI (i + 1)) dX0_pointsOf_23 rfl (nI_add i 1) (by decide) rfl ?_
      refine g_goto F 4 dX0_pointsOf_26 (by decide) ?_
      rw [sumN_z (f := (fun p => if cr p = some c then 1 else 0)) (n := i) (c := cr i = some c) (v := 1) rfl (by simp [h0])] at ih
      exact ih
    · refine g_iinc (lv2 := [(0, .ref (a 0)), (1, .int (nI c)), (2, .int (nI ((sumN (fun p => if cr p = some c then 1 else 0) i) + 1))), (3, .int (nI i))]) F (nI ((sumN (fun p => if cr p = some c then 1 else 0) i) + 1)) dX0_pointsOf_20 rfl (nI_add (sumN (fun p => if cr p = some c then 1 else 0) i) 1) (by decide) rfl ?_
      refine g_iinc (lv2 := [(0, .ref (a 0)), (1, .int (nI c)), (2, .int (nI ((sumN (fun p => if cr p = some c then 1 else 0) i) + 1))), (3, .int (nI (i + 1)))]) F (nI (i + 1)) dX0_pointsOf_23 rfl (nI_add i 1) (by decide) rfl ?_
      refine g_goto F 4 dX0_pointsOf_26 (by decide) ?_
      rw [sumN_c (f := (fun p => if cr p = some c then 1 else 0)) (n := i) (c := cr i = some c) (v := 1) rfl h0] at ih
      exact ih
set_option maxHeartbeats 4000000 in
set_option maxRecDepth 100000 in
/-- X0_coresOf -/
theorem cX_coresOf {l : Launch} {D : va_G} {t : Ty3} {a : Nat → Nat} {w : Nat → Nat} {x : Nat → Int32} {y : Nat → Int32} {wy : Nat} {re : Nat} {de : Nat} {co : Nat → Bool} {cr : Nat → Option Nat} {cc : Nat} {sr : Nat} {so : Bool} {cf : Nat → Option Nat} {ck : Bool} {ng : Nat → Nat} {nw : Nat → Nat} {cs : Nat → Nat} {se : Nat → Bool} (hb : bdC cr) {c : Nat} (hc : c < 120) : CtI (EE l D t) yX0_coresOf tsX0_coresOf (RM 0 0) [.ref (a 0), .int (nI c)] (WX a t w x y wy re de co cr cc sr so cf ck ng nw cs se) 0 0 (fun r u => u = WX a t w x y wy re de co cr cc sr so cf ck ng nw cs se ∧ r = nI (sum1 (fun p => if co p = true ∧ cr p = some c then 1 else 0))) := by
  refine CtI.of (by decide +kernel) rfl (Nat.le_of_ble_eq_true rfl) (fun X F E => ?_)
  show GG (EE l D t) X 0 0 0 [(0, .ref (a 0)), (1, .int (nI c))] [] (WX a t w x y wy re de co cr cc sr so cf ck ng nw cs se)
  refine g_iconst F (nI 0) dX0_coresOf_0 (by decide) ?_
  refine g_istore_n (lv2 := [(0, .ref (a 0)), (1, .int (nI c)), (2, .int (nI 0))]) F dX0_coresOf_1 rfl (by decide) rfl ?_
  refine g_iconst F (nI 0) dX0_coresOf_2 (by decide) ?_
  refine g_istore_n (lv2 := [(0, .ref (a 0)), (1, .int (nI c)), (2, .int (nI 0)), (3, .int (nI 0))]) F dX0_coresOf_3 rfl (by decide) rfl ?_
  refine up_loop (P := fun i => GG (EE l D t) X 0 0 4 [(0, .ref (a 0)), (1, .int (nI c)), (2, .int (nI (sumN (fun p => if co p = true ∧ cr p = some c then 1 else 0) i))), (3, .int (nI i))] [] (WX a t w x y wy re de co cr cc sr so cf ck ng nw cs se)) 120 ?_ (fun i hi ih => ?_)
  · show GG (EE l D t) X 0 0 4 [(0, .ref (a 0)), (1, .int (nI c)), (2, .int (nI (sumN (fun p => if co p = true ∧ cr p = some c then 1 else 0) 120))), (3, .int (nI 120))] [] (WX a t w x y wy re de co cr cc sr so cf ck ng nw cs se)
    refine g_iload_n F dX0_coresOf_4 rfl rfl ?_
    refine g_bipush F (nI 120) dX0_coresOf_5 (by decide) ?_
    refine g_icmp_ge_t F 38 dX0_coresOf_7 (by decide) (nI_le (Nat.le_refl 120) (by decide)) ?_
    refine g_iload_n F dX0_coresOf_38 rfl rfl ?_
    exact E _ _ _ _ dX0_coresOf_39 ⟨rfl, by rw [sum1_eq]⟩
  · show GG (EE l D t) X 0 0 4 [(0, .ref (a 0)), (1, .int (nI c)), (2, .int (nI (sumN (fun p => if co p = true ∧ cr p = some c then 1 else 0) i))), (3, .int (nI i))] [] (WX a t w x y wy re de co cr cc sr so cf ck ng nw cs se)
    refine g_iload_n F dX0_coresOf_4 rfl rfl ?_
    refine g_bipush F (nI 120) dX0_coresOf_5 (by decide) ?_
    refine g_icmp_ge_f F 38 dX0_coresOf_7 (by decide) (nI_ge hi (by decide)) ?_
    refine g_aload_n F dX0_coresOf_10 rfl rfl ?_
    refine gX_get_core F dX0_coresOf_11 ?_
    refine g_iload_n F dX0_coresOf_14 rfl rfl ?_
    refine gX_ld_core F hi dX0_coresOf_15 ?_
    refine g_if_eq_b F 32 dX0_coresOf_16 (by decide)  (fun h0 => ?_) (fun h0 => ?_)
    · refine g_iinc (lv2 := [(0, .ref (a 0)), (1, .int (nI c)), (2, .int (nI (sumN (fun p => if co p = true ∧ cr p = some c then 1 else 0) i))), (3, .int (nI (i + 1)))]) F (nI (i + 1)) dX0_coresOf_32 rfl (nI_add i 1) (by decide) rfl ?_
      refine g_goto F 4 dX0_coresOf_35 (by decide) ?_
      rw [sumN_z (f := (fun p => if co p = true ∧ cr p = some c then 1 else 0)) (n := i) (c := co i = true ∧ cr i = some c) (v := 1) rfl (by simp [h0])] at ih
      exact ih
    · refine g_aload_n F dX0_coresOf_19 rfl rfl ?_
      refine gX_get_crowdOf F dX0_coresOf_20 ?_
      refine g_iload_n F dX0_coresOf_23 rfl rfl ?_
      refine gX_ld_crowdOf F hi dX0_coresOf_24 ?_
      refine g_iload_n F dX0_coresOf_25 rfl rfl ?_
      refine g_icmp_ne_on F 32 dX0_coresOf_26 (by decide) (bd31 hb i) (by omega) (fun h1 => ?_) (fun h1 => ?_)
      · refine g_iinc (lv2 := [(0, .ref (a 0)), (1, .int (nI c)), (2, .int (nI (sumN (fun p => if co p = true ∧ cr p = some c then 1 else 0) i))), (3, .int (nI (i + 1)))]) F (nI (i + 1)) dX0_coresOf_32 rfl (nI_add i 1) (by decide) rfl ?_
        refine g_goto F 4 dX0_coresOf_35 (by decide) ?_
        rw [sumN_z (f := (fun p => if co p = true ∧ cr p = some c then 1 else 0)) (n := i) (c := co i = true ∧ cr i = some c) (v := 1) rfl (by simp [h1])] at ih
        exact ih
      · refine g_iinc (lv2 := [(0, .ref (a 0)), (1, .int (nI c)), (2, .int (nI ((sumN (fun p => if co p = true ∧ cr p = some c then 1 else 0) i) + 1))), (3, .int (nI i))]) F (nI ((sumN (fun p => if co p = true ∧ cr p = some c then 1 else 0) i) + 1)) dX0_coresOf_29 rfl (nI_add (sumN (fun p => if co p = true ∧ cr p = some c then 1 else 0) i) 1) (by decide) rfl ?_
        refine g_iinc (lv2 := [(0, .ref (a 0)), (1, .int (nI c)), (2, .int (nI ((sumN (fun p => if co p = true ∧ cr p = some c then 1 else 0) i) + 1))), (3, .int (nI (i + 1)))]) F (nI (i + 1)) dX0_coresOf_32 rfl (nI_add i 1) (by decide) rfl ?_
        refine g_goto F 4 dX0_coresOf_35 (by decide) ?_
        rw [sumN_c (f := (fun p => if co p = true ∧ cr p = some c then 1 else 0)) (n := i) (c := co i = true ∧ cr i = some c) (v := 1) rfl ⟨h0, h1⟩] at ih
        exact ih
set_option maxHeartbeats 4000000 in
set_option maxRecDepth 100000 in
/-- X0_weightsOf -/
theorem cX_weightsOf {l : Launch} {D : va_G} {t : Ty3} {a : Nat → Nat} {w : Nat → Nat} {x : Nat → Int32} {y : Nat → Int32} {wy : Nat} {re : Nat} {de : Nat} {co : Nat → Bool} {cr : Nat → Option Nat} {cc : Nat} {sr : Nat} {so : Bool} {cf : Nat → Option Nat} {ck : Bool} {ng : Nat → Nat} {nw : Nat → Nat} {cs : Nat → Nat} {se : Nat → Bool} (hb : bdC cr) {c : Nat} (hc : c < 120) : CtI (EE l D t) yX0_weightsOf tsX0_weightsOf (RM 0 0) [.ref (a 0), .int (nI c)] (WX a t w x y wy re de co cr cc sr so cf ck ng nw cs se) 0 0 (fun r u => u = WX a t w x y wy re de co cr cc sr so cf ck ng nw cs se ∧ r = nI (sum1 (fun p => if cr p = some c then w p else 0))) := by
  refine CtI.of (by decide +kernel) rfl (Nat.le_of_ble_eq_true rfl) (fun X F E => ?_)
  show GG (EE l D t) X 0 0 0 [(0, .ref (a 0)), (1, .int (nI c))] [] (WX a t w x y wy re de co cr cc sr so cf ck ng nw cs se)
  refine g_iconst F (nI 0) dX0_weightsOf_0 (by decide) ?_
  refine g_istore_n (lv2 := [(0, .ref (a 0)), (1, .int (nI c)), (2, .int (nI 0))]) F dX0_weightsOf_1 rfl (by decide) rfl ?_
  refine g_iconst F (nI 0) dX0_weightsOf_2 (by decide) ?_
  refine g_istore_n (lv2 := [(0, .ref (a 0)), (1, .int (nI c)), (2, .int (nI 0)), (3, .int (nI 0))]) F dX0_weightsOf_3 rfl (by decide) rfl ?_
  refine up_loop (P := fun i => GG (EE l D t) X 0 0 4 [(0, .ref (a 0)), (1, .int (nI c)), (2, .int (nI (sumN (fun p => if cr p = some c then w p else 0) i))), (3, .int (nI i))] [] (WX a t w x y wy re de co cr cc sr so cf ck ng nw cs se)) 120 ?_ (fun i hi ih => ?_)
  · show GG (EE l D t) X 0 0 4 [(0, .ref (a 0)), (1, .int (nI c)), (2, .int (nI (sumN (fun p => if cr p = some c then w p else 0) 120))), (3, .int (nI 120))] [] (WX a t w x y wy re de co cr cc sr so cf ck ng nw cs se)
    refine g_iload_n F dX0_weightsOf_4 rfl rfl ?_
    refine g_bipush F (nI 120) dX0_weightsOf_5 (by decide) ?_
    refine g_icmp_ge_t F 35 dX0_weightsOf_7 (by decide) (nI_le (Nat.le_refl 120) (by decide)) ?_
    refine g_iload_n F dX0_weightsOf_35 rfl rfl ?_
    exact E _ _ _ _ dX0_weightsOf_36 ⟨rfl, by rw [sum1_eq]⟩
  · show GG (EE l D t) X 0 0 4 [(0, .ref (a 0)), (1, .int (nI c)), (2, .int (nI (sumN (fun p => if cr p = some c then w p else 0) i))), (3, .int (nI i))] [] (WX a t w x y wy re de co cr cc sr so cf ck ng nw cs se)
    refine g_iload_n F dX0_weightsOf_4 rfl rfl ?_
    refine g_bipush F (nI 120) dX0_weightsOf_5 (by decide) ?_
    refine g_icmp_ge_f F 35 dX0_weightsOf_7 (by decide) (nI_ge hi (by decide)) ?_
    refine g_aload_n F dX0_weightsOf_10 rfl rfl ?_
    refine gX_get_crowdOf F dX0_weightsOf_11 ?_
    refine g_iload_n F dX0_weightsOf_14 rfl rfl ?_
    refine gX_ld_crowdOf F hi dX0_weightsOf_15 ?_
    refine g_iload_n F dX0_weightsOf_16 rfl rfl ?_
    refine g_icmp_ne_on F 29 dX0_weightsOf_17 (by decide) (bd31 hb i) (by omega) (fun h0 => ?_) (fun h0 => ?_)
    · refine g_iinc (lv2 := [(0, .ref (a 0)), (1, .int (nI c)), (2, .int (nI (sumN (fun p => if cr p = some c then w p else 0) i))), (3, .int (nI (i + 1)))]) F (nI (i + 1)) dX0_weightsOf_29 rfl (nI_add i 1) (by decide) rfl ?_
      refine g_goto F 4 dX0_weightsOf_32 (by decide) ?_
      rw [sumN_z (f := (fun p => if cr p = some c then w p else 0)) (n := i) (c := cr i = some c) (v := w i) rfl (by simp [h0])] at ih
      exact ih
    · refine g_iload_n F dX0_weightsOf_20 rfl rfl ?_
      refine g_aload_n F dX0_weightsOf_21 rfl rfl ?_
      refine gX_get_weights F dX0_weightsOf_22 ?_
      refine g_iload_n F dX0_weightsOf_25 rfl rfl ?_
      refine gX_ld_weights F hi dX0_weightsOf_26 ?_
      refine g_iadd_n F dX0_weightsOf_27 ?_
      refine g_istore_n (lv2 := [(0, .ref (a 0)), (1, .int (nI c)), (2, .int (nI ((sumN (fun p => if cr p = some c then w p else 0) i) + (w i)))), (3, .int (nI i))]) F dX0_weightsOf_28 rfl (by decide) rfl ?_
      refine g_iinc (lv2 := [(0, .ref (a 0)), (1, .int (nI c)), (2, .int (nI ((sumN (fun p => if cr p = some c then w p else 0) i) + (w i)))), (3, .int (nI (i + 1)))]) F (nI (i + 1)) dX0_weightsOf_29 rfl (nI_add i 1) (by decide) rfl ?_
      refine g_goto F 4 dX0_weightsOf_32 (by decide) ?_
      rw [sumN_c (f := (fun p => if cr p = some c then w p else 0)) (n := i) (c := cr i = some c) (v := w i) rfl h0] at ih
      exact ih
set_option maxHeartbeats 4000000 in
set_option maxRecDepth 100000 in
/-- leastCoreOf -/
theorem cX_leastCoreOf {l : Launch} {D : va_G} {t : Ty3} {a : Nat → Nat} {w : Nat → Nat} {x : Nat → Int32} {y : Nat → Int32} {wy : Nat} {re : Nat} {de : Nat} {co : Nat → Bool} {cr : Nat → Option Nat} {cc : Nat} {sr : Nat} {so : Bool} {cf : Nat → Option Nat} {ck : Bool} {ng : Nat → Nat} {nw : Nat → Nat} {cs : Nat → Nat} {se : Nat → Bool} (hb : bdC cr) {c : Nat} (hc : c < 120) : CtI (EE l D t) yX0_leastCoreOf tsX0_leastCoreOf (RM 0 0) [.ref (a 0), .int (nI c)] (WX a t w x y wy re de co cr cc sr so cf ck ng nw cs se) 0 0 (fun r u => u = WX a t w x y wy re de co cr cc sr so cf ck ng nw cs se ∧ r = oI (fst1 (fun p => co p && decide (cr p = some c)))) := by
  refine CtI.of (by decide +kernel) rfl (Nat.le_of_ble_eq_true rfl) (fun X F E => ?_)
  show GG (EE l D t) X 0 0 0 [(0, .ref (a 0)), (1, .int (nI c))] [] (WX a t w x y wy re de co cr cc sr so cf ck ng nw cs se)
  refine g_iconst F (nI 0) dX0_leastCoreOf_0 (by decide) ?_
  refine g_istore_n (lv2 := [(0, .ref (a 0)), (1, .int (nI c)), (2, .int (nI 0))]) F dX0_leastCoreOf_1 rfl (by decide) rfl ?_
  refine up_loopI (I := fun i => ∀ j, j < i → (fun p => co p && decide (cr p = some c)) j = false) (P := fun i => GG (EE l D t) X 0 0 2 [(0, .ref (a 0)), (1, .int (nI c)), (2, .int (nI i))] [] (WX a t w x y wy re de co cr cc sr so cf ck ng nw cs se)) 120 (fun j hj => absurd hj (by omega)) (fun hI => ?_) (fun i hi hI ih => ?_)
  · show GG (EE l D t) X 0 0 2 [(0, .ref (a 0)), (1, .int (nI c)), (2, .int (nI 120))] [] (WX a t w x y wy re de co cr cc sr so cf ck ng nw cs se)
    refine g_iload_n F dX0_leastCoreOf_2 rfl rfl ?_
    refine g_bipush F (nI 120) dX0_leastCoreOf_3 (by decide) ?_
    refine g_icmp_ge_t F 35 dX0_leastCoreOf_5 (by decide) (nI_le (Nat.le_refl 120) (by decide)) ?_
    refine g_iconst F (oI none) dX0_leastCoreOf_35 (by decide) ?_
    exact E _ _ _ _ dX0_leastCoreOf_36 ⟨rfl, by rw [fst1_eq, firstN_none hI]⟩
  · show GG (EE l D t) X 0 0 2 [(0, .ref (a 0)), (1, .int (nI c)), (2, .int (nI i))] [] (WX a t w x y wy re de co cr cc sr so cf ck ng nw cs se)
    refine g_iload_n F dX0_leastCoreOf_2 rfl rfl ?_
    refine g_bipush F (nI 120) dX0_leastCoreOf_3 (by decide) ?_
    refine g_icmp_ge_f F 35 dX0_leastCoreOf_5 (by decide) (nI_ge hi (by decide)) ?_
    refine g_aload_n F dX0_leastCoreOf_8 rfl rfl ?_
    refine gX_get_core F dX0_leastCoreOf_9 ?_
    refine g_iload_n F dX0_leastCoreOf_12 rfl rfl ?_
    refine gX_ld_core F hi dX0_leastCoreOf_13 ?_
    refine g_if_eq_b F 29 dX0_leastCoreOf_14 (by decide)  (fun h => ?_) (fun h => ?_)
    · refine g_iinc (lv2 := [(0, .ref (a 0)), (1, .int (nI c)), (2, .int (nI (i + 1)))]) F (nI (i + 1)) dX0_leastCoreOf_29 rfl (nI_add i 1) (by decide) rfl ?_
      refine g_goto F 2 dX0_leastCoreOf_32 (by decide) ?_
      exact ih (lt_s hI (by simp [h]))
    · refine g_aload_n F dX0_leastCoreOf_17 rfl rfl ?_
      refine gX_get_crowdOf F dX0_leastCoreOf_18 ?_
      refine g_iload_n F dX0_leastCoreOf_21 rfl rfl ?_
      refine gX_ld_crowdOf F hi dX0_leastCoreOf_22 ?_
      refine g_iload_n F dX0_leastCoreOf_23 rfl rfl ?_
      refine g_icmp_ne_on F 29 dX0_leastCoreOf_24 (by decide) (bd31 hb i) (by omega) (fun h2 => ?_) (fun h2 => ?_)
      · refine g_iinc (lv2 := [(0, .ref (a 0)), (1, .int (nI c)), (2, .int (nI (i + 1)))]) F (nI (i + 1)) dX0_leastCoreOf_29 rfl (nI_add i 1) (by decide) rfl ?_
        refine g_goto F 2 dX0_leastCoreOf_32 (by decide) ?_
        exact ih (lt_s hI (by simp [h2]))
      · refine g_iload_n F dX0_leastCoreOf_27 rfl rfl ?_
        exact E _ _ _ _ dX0_leastCoreOf_28 ⟨rfl, by rw [fst1_eq, firstN_some (i := i) (by simp [h, h2]) hI hi]; rfl⟩
set_option maxHeartbeats 4000000 in
set_option maxRecDepth 100000 in
/-- X0_leastOf -/
theorem cX_leastOf_x {l : Launch} {D : va_G} {t : Ty3} {a : Nat → Nat} {w : Nat → Nat} {x : Nat → Int32} {y : Nat → Int32} {wy : Nat} {re : Nat} {de : Nat} {co : Nat → Bool} {cr : Nat → Option Nat} {cc : Nat} {sr : Nat} {so : Bool} {cf : Nat → Option Nat} {ck : Bool} {ng : Nat → Nat} {nw : Nat → Nat} {cs : Nat → Nat} {se : Nat → Bool} (hb : bdC cr) {c : Nat} (hc : c < 120) : CtI (EE l D t) yX0_leastOf tsX0_leastOf (RM 1 23) [.ref (a 0), .ref (a 2), .int (nI c)] (WX a t w x y wy re de co cr cc sr so cf ck ng nw cs se) 0 0 (fun r u => u = WX a t w x y wy re de co cr cc sr so cf ck ng nw cs se ∧ r = mn1 x (fun p => decide (cr p = some c)) 1073741823) := by
  refine CtI.of (by decide +kernel) rfl (Nat.le_of_ble_eq_true rfl) (fun X F E => ?_)
  show GG (EE l D t) X 0 0 0 [(0, .ref (a 0)), (1, .ref (a 2)), (2, .int (nI c))] [] (WX a t w x y wy re de co cr cc sr so cf ck ng nw cs se)
  refine g_ldc F (1073741823) dX0_leastOf_0 (List.mem_cons_of_mem _ mw3_7) ?_
  refine g_istore_n (lv2 := [(0, .ref (a 0)), (1, .ref (a 2)), (2, .int (nI c)), (3, .int (1073741823))]) F dX0_leastOf_2 rfl (by decide) rfl ?_
  refine g_iconst F (nI 0) dX0_leastOf_3 (by decide) ?_
  refine g_istore (lv2 := [(0, .ref (a 0)), (1, .ref (a 2)), (2, .int (nI c)), (3, .int (1073741823)), (4, .int (nI 0))]) F dX0_leastOf_4 (by decide) rfl ?_
  refine up_loop (P := fun i => GG (EE l D t) X 0 0 6 [(0, .ref (a 0)), (1, .ref (a 2)), (2, .int (nI c)), (3, .int (mnf x (fun p => decide (cr p = some c)) 1073741823 i)), (4, .int (nI i))] [] (WX a t w x y wy re de co cr cc sr so cf ck ng nw cs se)) 120 ?_ (fun i hi ih => ?_)
  · show GG (EE l D t) X 0 0 6 [(0, .ref (a 0)), (1, .ref (a 2)), (2, .int (nI c)), (3, .int (mnf x (fun p => decide (cr p = some c)) 1073741823 120)), (4, .int (nI 120))] [] (WX a t w x y wy re de co cr cc sr so cf ck ng nw cs se)
    refine g_iload F dX0_leastOf_6 rfl ?_
    refine g_bipush F (nI 120) dX0_leastOf_8 (by decide) ?_
    refine g_icmp_ge_t F 46 dX0_leastOf_10 (by decide) (nI_le (Nat.le_refl 120) (by decide)) ?_
    refine g_iload_n F dX0_leastOf_46 rfl rfl ?_
    exact E _ _ _ _ dX0_leastOf_47 ⟨rfl, by rw [mn1_eq]⟩
  · show GG (EE l D t) X 0 0 6 [(0, .ref (a 0)), (1, .ref (a 2)), (2, .int (nI c)), (3, .int (mnf x (fun p => decide (cr p = some c)) 1073741823 i)), (4, .int (nI i))] [] (WX a t w x y wy re de co cr cc sr so cf ck ng nw cs se)
    refine g_iload F dX0_leastOf_6 rfl ?_
    refine g_bipush F (nI 120) dX0_leastOf_8 (by decide) ?_
    refine g_icmp_ge_f F 46 dX0_leastOf_10 (by decide) (nI_ge hi (by decide)) ?_
    refine g_iload F dX0_leastOf_13 rfl ?_
    refine g_aload_n F dX0_leastOf_15 rfl rfl ?_
    refine g_alen F 2 0 (x := (120, .inl x)) rfl rfl dX0_leastOf_16 ?_
    show GG (EE l D t) X 0 0 17 [(0, .ref (a 0)), (1, .ref (a 2)), (2, .int (nI c)), (3, .int (mnf x (fun p => decide (cr p = some c)) 1073741823 i)), (4, .int (nI i))] [.int (nI 120), .int (nI i)] (WX a t w x y wy re de co cr cc sr so cf ck ng nw cs se)
    refine g_icmp_ge_f F 46 dX0_leastOf_17 (by decide) (nI_ge hi (by decide)) ?_
    refine g_aload_n F dX0_leastOf_20 rfl rfl ?_
    refine gX_get_crowdOf F dX0_leastOf_21 ?_
    refine g_iload F dX0_leastOf_24 rfl ?_
    refine gX_ld_crowdOf F hi dX0_leastOf_26 ?_
    refine g_iload_n F dX0_leastOf_27 rfl rfl ?_
    refine g_icmp_ne_on F 40 dX0_leastOf_28 (by decide) (bd31 hb i) (by omega) (fun h => ?_) (fun h => ?_)
    · refine g_iinc (lv2 := [(0, .ref (a 0)), (1, .ref (a 2)), (2, .int (nI c)), (3, .int (mnf x (fun p => decide (cr p = some c)) 1073741823 i)), (4, .int (nI (i + 1)))]) F (nI (i + 1)) dX0_leastOf_40 rfl (nI_add i 1) (by decide) rfl ?_
      refine g_goto F 6 dX0_leastOf_43 (by decide) ?_
      rw [mnf_n (x := x) (s := (fun p => decide (cr p = some c))) (z := 1073741823) (n := i) (by simp [h])] at ih
      exact ih
    · refine g_iload_n F dX0_leastOf_31 rfl rfl ?_
      refine g_aload_n F dX0_leastOf_32 rfl rfl ?_
      refine g_iload F dX0_leastOf_33 rfl ?_
      refine gX_ld_xs F hi dX0_leastOf_35 ?_
      refine g_mini F dX0_leastOf_36 mM_mini ⟨by decide, Nat.le_of_ble_eq_true rfl, by decide, by decide⟩ ?_
      refine g_istore_n (lv2 := [(0, .ref (a 0)), (1, .ref (a 2)), (2, .int (nI c)), (3, .int (if (x i) < (mnf x (fun p => decide (cr p = some c)) 1073741823 i) then (x i) else (mnf x (fun p => decide (cr p = some c)) 1073741823 i))), (4, .int (nI i))]) F dX0_leastOf_39 rfl (by decide) rfl ?_
      refine g_iinc (lv2 := [(0, .ref (a 0)), (1, .ref (a 2)), (2, .int (nI c)), (3, .int (if (x i) < (mnf x (fun p => decide (cr p = some c)) 1073741823 i) then (x i) else (mnf x (fun p => decide (cr p = some c)) 1073741823 i))), (4, .int (nI (i + 1)))]) F (nI (i + 1)) dX0_leastOf_40 rfl (nI_add i 1) (by decide) rfl ?_
      refine g_goto F 6 dX0_leastOf_43 (by decide) ?_
      rw [mnf_y (x := x) (s := (fun p => decide (cr p = some c))) (z := 1073741823) (n := i) (by simp [h])] at ih
      exact ih
set_option maxHeartbeats 4000000 in
set_option maxRecDepth 100000 in
/-- X0_leastOf -/
theorem cX_leastOf_y {l : Launch} {D : va_G} {t : Ty3} {a : Nat → Nat} {w : Nat → Nat} {x : Nat → Int32} {y : Nat → Int32} {wy : Nat} {re : Nat} {de : Nat} {co : Nat → Bool} {cr : Nat → Option Nat} {cc : Nat} {sr : Nat} {so : Bool} {cf : Nat → Option Nat} {ck : Bool} {ng : Nat → Nat} {nw : Nat → Nat} {cs : Nat → Nat} {se : Nat → Bool} (hb : bdC cr) {c : Nat} (hc : c < 120) : CtI (EE l D t) yX0_leastOf tsX0_leastOf (RM 1 23) [.ref (a 0), .ref (a 3), .int (nI c)] (WX a t w x y wy re de co cr cc sr so cf ck ng nw cs se) 0 0 (fun r u => u = WX a t w x y wy re de co cr cc sr so cf ck ng nw cs se ∧ r = mn1 y (fun p => decide (cr p = some c)) 1073741823) := by
  refine CtI.of (by decide +kernel) rfl (Nat.le_of_ble_eq_true rfl) (fun X F E => ?_)
  show GG (EE l D t) X 0 0 0 [(0, .ref (a 0)), (1, .ref (a 3)), (2, .int (nI c))] [] (WX a t w x y wy re de co cr cc sr so cf ck ng nw cs se)
  refine g_ldc F (1073741823) dX0_leastOf_0 (List.mem_cons_of_mem _ mw3_7) ?_
  refine g_istore_n (lv2 := [(0, .ref (a 0)), (1, .ref (a 3)), (2, .int (nI c)), (3, .int (1073741823))]) F dX0_leastOf_2 rfl (by decide) rfl ?_
  refine g_iconst F (nI 0) dX0_leastOf_3 (by decide) ?_
  refine g_istore (lv2 := [(0, .ref (a 0)), (1, .ref (a 3)), (2, .int (nI c)), (3, .int (1073741823)), (4, .int (nI 0))]) F dX0_leastOf_4 (by decide) rfl ?_
  refine up_loop (P := fun i => GG (EE l D t) X 0 0 6 [(0, .ref (a 0)), (1, .ref (a 3)), (2, .int (nI c)), (3, .int (mnf y (fun p => decide (cr p = some c)) 1073741823 i)), (4, .int (nI i))] [] (WX a t w x y wy re de co cr cc sr so cf ck ng nw cs se)) 120 ?_ (fun i hi ih => ?_)
  · show GG (EE l D t) X 0 0 6 [(0, .ref (a 0)), (1, .ref (a 3)), (2, .int (nI c)), (3, .int (mnf y (fun p => decide (cr p = some c)) 1073741823 120)), (4, .int (nI 120))] [] (WX a t w x y wy re de co cr cc sr so cf ck ng nw cs se)
    refine g_iload F dX0_leastOf_6 rfl ?_
    refine g_bipush F (nI 120) dX0_leastOf_8 (by decide) ?_
    refine g_icmp_ge_t F 46 dX0_leastOf_10 (by decide) (nI_le (Nat.le_refl 120) (by decide)) ?_
    refine g_iload_n F dX0_leastOf_46 rfl rfl ?_
    exact E _ _ _ _ dX0_leastOf_47 ⟨rfl, by rw [mn1_eq]⟩
  · show GG (EE l D t) X 0 0 6 [(0, .ref (a 0)), (1, .ref (a 3)), (2, .int (nI c)), (3, .int (mnf y (fun p => decide (cr p = some c)) 1073741823 i)), (4, .int (nI i))] [] (WX a t w x y wy re de co cr cc sr so cf ck ng nw cs se)
    refine g_iload F dX0_leastOf_6 rfl ?_
    refine g_bipush F (nI 120) dX0_leastOf_8 (by decide) ?_
    refine g_icmp_ge_f F 46 dX0_leastOf_10 (by decide) (nI_ge hi (by decide)) ?_
    refine g_iload F dX0_leastOf_13 rfl ?_
    refine g_aload_n F dX0_leastOf_15 rfl rfl ?_
    refine g_alen F 3 0 (x := (120, .inl y)) rfl rfl dX0_leastOf_16 ?_
    show GG (EE l D t) X 0 0 17 [(0, .ref (a 0)), (1, .ref (a 3)), (2, .int (nI c)), (3, .int (mnf y (fun p => decide (cr p = some c)) 1073741823 i)), (4, .int (nI i))] [.int (nI 120), .int (nI i)] (WX a t w x y wy re de co cr cc sr so cf ck ng nw cs se)
    refine g_icmp_ge_f F 46 dX0_leastOf_17 (by decide) (nI_ge hi (by decide)) ?_
    refine g_aload_n F dX0_leastOf_20 rfl rfl ?_
    refine gX_get_crowdOf F dX0_leastOf_21 ?_
    refine g_iload F dX0_leastOf_24 rfl ?_
    refine gX_ld_crowdOf F hi dX0_leastOf_26 ?_
    refine g_iload_n F dX0_leastOf_27 rfl rfl ?_
    refine g_icmp_ne_on F 40 dX0_leastOf_28 (by decide) (bd31 hb i) (by omega) (fun h => ?_) (fun h => ?_)
    · refine g_iinc (lv2 := [(0, .ref (a 0)), (1, .ref (a 3)), (2, .int (nI c)), (3, .int (mnf y (fun p => decide (cr p = some c)) 1073741823 i)), (4, .int (nI (i + 1)))]) F (nI (i + 1)) dX0_leastOf_40 rfl (nI_add i 1) (by decide) rfl ?_
      refine g_goto F 6 dX0_leastOf_43 (by decide) ?_
      rw [mnf_n (x := y) (s := (fun p => decide (cr p = some c))) (z := 1073741823) (n := i) (by simp [h])] at ih
      exact ih
    · refine g_iload_n F dX0_leastOf_31 rfl rfl ?_
      refine g_aload_n F dX0_leastOf_32 rfl rfl ?_
      refine g_iload F dX0_leastOf_33 rfl ?_
      refine gX_ld_ys F hi dX0_leastOf_35 ?_
      refine g_mini F dX0_leastOf_36 mM_mini ⟨by decide, Nat.le_of_ble_eq_true rfl, by decide, by decide⟩ ?_
      refine g_istore_n (lv2 := [(0, .ref (a 0)), (1, .ref (a 3)), (2, .int (nI c)), (3, .int (if (y i) < (mnf y (fun p => decide (cr p = some c)) 1073741823 i) then (y i) else (mnf y (fun p => decide (cr p = some c)) 1073741823 i))), (4, .int (nI i))]) F dX0_leastOf_39 rfl (by decide) rfl ?_
      refine g_iinc (lv2 := [(0, .ref (a 0)), (1, .ref (a 3)), (2, .int (nI c)), (3, .int (if (y i) < (mnf y (fun p => decide (cr p = some c)) 1073741823 i) then (y i) else (mnf y (fun p => decide (cr p = some c)) 1073741823 i))), (4, .int (nI (i + 1)))]) F (nI (i + 1)) dX0_leastOf_40 rfl (nI_add i 1) (by decide) rfl ?_
      refine g_goto F 6 dX0_leastOf_43 (by decide) ?_
      rw [mnf_y (x := y) (s := (fun p => decide (cr p = some c))) (z := 1073741823) (n := i) (by simp [h])] at ih
      exact ih
set_option maxHeartbeats 4000000 in
set_option maxRecDepth 100000 in
/-- X0_greatestOf -/
theorem cX_greatestOf_x {l : Launch} {D : va_G} {t : Ty3} {a : Nat → Nat} {w : Nat → Nat} {x : Nat → Int32} {y : Nat → Int32} {wy : Nat} {re : Nat} {de : Nat} {co : Nat → Bool} {cr : Nat → Option Nat} {cc : Nat} {sr : Nat} {so : Bool} {cf : Nat → Option Nat} {ck : Bool} {ng : Nat → Nat} {nw : Nat → Nat} {cs : Nat → Nat} {se : Nat → Bool} (hb : bdC cr) {c : Nat} (hc : c < 120) : CtI (EE l D t) yX0_greatestOf tsX0_greatestOf (RM 1 23) [.ref (a 0), .ref (a 2), .int (nI c)] (WX a t w x y wy re de co cr cc sr so cf ck ng nw cs se) 0 0 (fun r u => u = WX a t w x y wy re de co cr cc sr so cf ck ng nw cs se ∧ r = mx1 x (fun p => decide (cr p = some c)) (-1073741823)) := by
  refine CtI.of (by decide +kernel) rfl (Nat.le_of_ble_eq_true rfl) (fun X F E => ?_)
  show GG (EE l D t) X 0 0 0 [(0, .ref (a 0)), (1, .ref (a 2)), (2, .int (nI c))] [] (WX a t w x y wy re de co cr cc sr so cf ck ng nw cs se)
  refine g_ldc F (-1073741823) dX0_greatestOf_0 (List.mem_cons_of_mem _ mw3_6) ?_
  refine g_istore_n (lv2 := [(0, .ref (a 0)), (1, .ref (a 2)), (2, .int (nI c)), (3, .int (-1073741823))]) F dX0_greatestOf_2 rfl (by decide) rfl ?_
  refine g_iconst F (nI 0) dX0_greatestOf_3 (by decide) ?_
  refine g_istore (lv2 := [(0, .ref (a 0)), (1, .ref (a 2)), (2, .int (nI c)), (3, .int (-1073741823)), (4, .int (nI 0))]) F dX0_greatestOf_4 (by decide) rfl ?_
  refine up_loop (P := fun i => GG (EE l D t) X 0 0 6 [(0, .ref (a 0)), (1, .ref (a 2)), (2, .int (nI c)), (3, .int (mxf x (fun p => decide (cr p = some c)) (-1073741823) i)), (4, .int (nI i))] [] (WX a t w x y wy re de co cr cc sr so cf ck ng nw cs se)) 120 ?_ (fun i hi ih => ?_)
  · show GG (EE l D t) X 0 0 6 [(0, .ref (a 0)), (1, .ref (a 2)), (2, .int (nI c)), (3, .int (mxf x (fun p => decide (cr p = some c)) (-1073741823) 120)), (4, .int (nI 120))] [] (WX a t w x y wy re de co cr cc sr so cf ck ng nw cs se)
    refine g_iload F dX0_greatestOf_6 rfl ?_
    refine g_bipush F (nI 120) dX0_greatestOf_8 (by decide) ?_
    refine g_icmp_ge_t F 46 dX0_greatestOf_10 (by decide) (nI_le (Nat.le_refl 120) (by decide)) ?_
    refine g_iload_n F dX0_greatestOf_46 rfl rfl ?_
    exact E _ _ _ _ dX0_greatestOf_47 ⟨rfl, by rw [mx1_eq]⟩
  · show GG (EE l D t) X 0 0 6 [(0, .ref (a 0)), (1, .ref (a 2)), (2, .int (nI c)), (3, .int (mxf x (fun p => decide (cr p = some c)) (-1073741823) i)), (4, .int (nI i))] [] (WX a t w x y wy re de co cr cc sr so cf ck ng nw cs se)
    refine g_iload F dX0_greatestOf_6 rfl ?_
    refine g_bipush F (nI 120) dX0_greatestOf_8 (by decide) ?_
    refine g_icmp_ge_f F 46 dX0_greatestOf_10 (by decide) (nI_ge hi (by decide)) ?_
    refine g_iload F dX0_greatestOf_13 rfl ?_
    refine g_aload_n F dX0_greatestOf_15 rfl rfl ?_
    refine g_alen F 2 0 (x := (120, .inl x)) rfl rfl dX0_greatestOf_16 ?_
    show GG (EE l D t) X 0 0 17 [(0, .ref (a 0)), (1, .ref (a 2)), (2, .int (nI c)), (3, .int (mxf x (fun p => decide (cr p = some c)) (-1073741823) i)), (4, .int (nI i))] [.int (nI 120), .int (nI i)] (WX a t w x y wy re de co cr cc sr so cf ck ng nw cs se)
    refine g_icmp_ge_f F 46 dX0_greatestOf_17 (by decide) (nI_ge hi (by decide)) ?_
    refine g_aload_n F dX0_greatestOf_20 rfl rfl ?_
    refine gX_get_crowdOf F dX0_greatestOf_21 ?_
    refine g_iload F dX0_greatestOf_24 rfl ?_
    refine gX_ld_crowdOf F hi dX0_greatestOf_26 ?_
    refine g_iload_n F dX0_greatestOf_27 rfl rfl ?_
    refine g_icmp_ne_on F 40 dX0_greatestOf_28 (by decide) (bd31 hb i) (by omega) (fun h => ?_) (fun h => ?_)
    · refine g_iinc (lv2 := [(0, .ref (a 0)), (1, .ref (a 2)), (2, .int (nI c)), (3, .int (mxf x (fun p => decide (cr p = some c)) (-1073741823) i)), (4, .int (nI (i + 1)))]) F (nI (i + 1)) dX0_greatestOf_40 rfl (nI_add i 1) (by decide) rfl ?_
      refine g_goto F 6 dX0_greatestOf_43 (by decide) ?_
      rw [mxf_n (x := x) (s := (fun p => decide (cr p = some c))) (z := (-1073741823)) (n := i) (by simp [h])] at ih
      exact ih
    · refine g_iload_n F dX0_greatestOf_31 rfl rfl ?_
      refine g_aload_n F dX0_greatestOf_32 rfl rfl ?_
      refine g_iload F dX0_greatestOf_33 rfl ?_
      refine gX_ld_xs F hi dX0_greatestOf_35 ?_
      refine g_maxi F dX0_greatestOf_36 mM_maxi ⟨by decide, Nat.le_of_ble_eq_true rfl, by decide, by decide⟩ ?_
      refine g_istore_n (lv2 := [(0, .ref (a 0)), (1, .ref (a 2)), (2, .int (nI c)), (3, .int (if (mxf x (fun p => decide (cr p = some c)) (-1073741823) i) < (x i) then (x i) else (mxf x (fun p => decide (cr p = some c)) (-1073741823) i))), (4, .int (nI i))]) F dX0_greatestOf_39 rfl (by decide) rfl ?_
      refine g_iinc (lv2 := [(0, .ref (a 0)), (1, .ref (a 2)), (2, .int (nI c)), (3, .int (if (mxf x (fun p => decide (cr p = some c)) (-1073741823) i) < (x i) then (x i) else (mxf x (fun p => decide (cr p = some c)) (-1073741823) i))), (4, .int (nI (i + 1)))]) F (nI (i + 1)) dX0_greatestOf_40 rfl (nI_add i 1) (by decide) rfl ?_
      refine g_goto F 6 dX0_greatestOf_43 (by decide) ?_
      rw [mxf_y (x := x) (s := (fun p => decide (cr p = some c))) (z := (-1073741823)) (n := i) (by simp [h])] at ih
      exact ih
set_option maxHeartbeats 4000000 in
set_option maxRecDepth 100000 in
/-- X0_greatestOf -/
theorem cX_greatestOf_y {l : Launch} {D : va_G} {t : Ty3} {a : Nat → Nat} {w : Nat → Nat} {x : Nat → Int32} {y : Nat → Int32} {wy : Nat} {re : Nat} {de : Nat} {co : Nat → Bool} {cr : Nat → Option Nat} {cc : Nat} {sr : Nat} {so : Bool} {cf : Nat → Option Nat} {ck : Bool} {ng : Nat → Nat} {nw : Nat → Nat} {cs : Nat → Nat} {se : Nat → Bool} (hb : bdC cr) {c : Nat} (hc : c < 120) : CtI (EE l D t) yX0_greatestOf tsX0_greatestOf (RM 1 23) [.ref (a 0), .ref (a 3), .int (nI c)] (WX a t w x y wy re de co cr cc sr so cf ck ng nw cs se) 0 0 (fun r u => u = WX a t w x y wy re de co cr cc sr so cf ck ng nw cs se ∧ r = mx1 y (fun p => decide (cr p = some c)) (-1073741823)) := by
  refine CtI.of (by decide +kernel) rfl (Nat.le_of_ble_eq_true rfl) (fun X F E => ?_)
  show GG (EE l D t) X 0 0 0 [(0, .ref (a 0)), (1, .ref (a 3)), (2, .int (nI c))] [] (WX a t w x y wy re de co cr cc sr so cf ck ng nw cs se)
  refine g_ldc F (-1073741823) dX0_greatestOf_0 (List.mem_cons_of_mem _ mw3_6) ?_
  refine g_istore_n (lv2 := [(0, .ref (a 0)), (1, .ref (a 3)), (2, .int (nI c)), (3, .int (-1073741823))]) F dX0_greatestOf_2 rfl (by decide) rfl ?_
  refine g_iconst F (nI 0) dX0_greatestOf_3 (by decide) ?_
  refine g_istore (lv2 := [(0, .ref (a 0)), (1, .ref (a 3)), (2, .int (nI c)), (3, .int (-1073741823)), (4, .int (nI 0))]) F dX0_greatestOf_4 (by decide) rfl ?_
  refine up_loop (P := fun i => GG (EE l D t) X 0 0 6 [(0, .ref (a 0)), (1, .ref (a 3)), (2, .int (nI c)), (3, .int (mxf y (fun p => decide (cr p = some c)) (-1073741823) i)), (4, .int (nI i))] [] (WX a t w x y wy re de co cr cc sr so cf ck ng nw cs se)) 120 ?_ (fun i hi ih => ?_)
  · show GG (EE l D t) X 0 0 6 [(0, .ref (a 0)), (1, .ref (a 3)), (2, .int (nI c)), (3, .int (mxf y (fun p => decide (cr p = some c)) (-1073741823) 120)), (4, .int (nI 120))] [] (WX a t w x y wy re de co cr cc sr so cf ck ng nw cs se)
    refine g_iload F dX0_greatestOf_6 rfl ?_
    refine g_bipush F (nI 120) dX0_greatestOf_8 (by decide) ?_
    refine g_icmp_ge_t F 46 dX0_greatestOf_10 (by decide) (nI_le (Nat.le_refl 120) (by decide)) ?_
    refine g_iload_n F dX0_greatestOf_46 rfl rfl ?_
    exact E _ _ _ _ dX0_greatestOf_47 ⟨rfl, by rw [mx1_eq]⟩
  · show GG (EE l D t) X 0 0 6 [(0, .ref (a 0)), (1, .ref (a 3)), (2, .int (nI c)), (3, .int (mxf y (fun p => decide (cr p = some c)) (-1073741823) i)), (4, .int (nI i))] [] (WX a t w x y wy re de co cr cc sr so cf ck ng nw cs se)
    refine g_iload F dX0_greatestOf_6 rfl ?_
    refine g_bipush F (nI 120) dX0_greatestOf_8 (by decide) ?_
    refine g_icmp_ge_f F 46 dX0_greatestOf_10 (by decide) (nI_ge hi (by decide)) ?_
    refine g_iload F dX0_greatestOf_13 rfl ?_
    refine g_aload_n F dX0_greatestOf_15 rfl rfl ?_
    refine g_alen F 3 0 (x := (120, .inl y)) rfl rfl dX0_greatestOf_16 ?_
    show GG (EE l D t) X 0 0 17 [(0, .ref (a 0)), (1, .ref (a 3)), (2, .int (nI c)), (3, .int (mxf y (fun p => decide (cr p = some c)) (-1073741823) i)), (4, .int (nI i))] [.int (nI 120), .int (nI i)] (WX a t w x y wy re de co cr cc sr so cf ck ng nw cs se)
    refine g_icmp_ge_f F 46 dX0_greatestOf_17 (by decide) (nI_ge hi (by decide)) ?_
    refine g_aload_n F dX0_greatestOf_20 rfl rfl ?_
    refine gX_get_crowdOf F dX0_greatestOf_21 ?_
    refine g_iload F dX0_greatestOf_24 rfl ?_
    refine gX_ld_crowdOf F hi dX0_greatestOf_26 ?_
    refine g_iload_n F dX0_greatestOf_27 rfl rfl ?_
    refine g_icmp_ne_on F 40 dX0_greatestOf_28 (by decide) (bd31 hb i) (by omega) (fun h => ?_) (fun h => ?_)
    · refine g_iinc (lv2 := [(0, .ref (a 0)), (1, .ref (a 3)), (2, .int (nI c)), (3, .int (mxf y (fun p => decide (cr p = some c)) (-1073741823) i)), (4, .int (nI (i + 1)))]) F (nI (i + 1)) dX0_greatestOf_40 rfl (nI_add i 1) (by decide) rfl ?_
      refine g_goto F 6 dX0_greatestOf_43 (by decide) ?_
      rw [mxf_n (x := y) (s := (fun p => decide (cr p = some c))) (z := (-1073741823)) (n := i) (by simp [h])] at ih
      exact ih
    · refine g_iload_n F dX0_greatestOf_31 rfl rfl ?_
      refine g_aload_n F dX0_greatestOf_32 rfl rfl ?_
      refine g_iload F dX0_greatestOf_33 rfl ?_
      refine gX_ld_ys F hi dX0_greatestOf_35 ?_
      refine g_maxi F dX0_greatestOf_36 mM_maxi ⟨by decide, Nat.le_of_ble_eq_true rfl, by decide, by decide⟩ ?_
      refine g_istore_n (lv2 := [(0, .ref (a 0)), (1, .ref (a 3)), (2, .int (nI c)), (3, .int (if (mxf y (fun p => decide (cr p = some c)) (-1073741823) i) < (y i) then (y i) else (mxf y (fun p => decide (cr p = some c)) (-1073741823) i))), (4, .int (nI i))]) F dX0_greatestOf_39 rfl (by decide) rfl ?_
      refine g_iinc (lv2 := [(0, .ref (a 0)), (1, .ref (a 3)), (2, .int (nI c)), (3, .int (if (mxf y (fun p => decide (cr p = some c)) (-1073741823) i) < (y i) then (y i) else (mxf y (fun p => decide (cr p = some c)) (-1073741823) i))), (4, .int (nI (i + 1)))]) F (nI (i + 1)) dX0_greatestOf_40 rfl (nI_add i 1) (by decide) rfl ?_
      refine g_goto F 6 dX0_greatestOf_43 (by decide) ?_
      rw [mxf_y (x := y) (s := (fun p => decide (cr p = some c))) (z := (-1073741823)) (n := i) (by simp [h])] at ih
      exact ih
set_option maxHeartbeats 4000000 in
set_option maxRecDepth 100000 in
/-- standsRight -/
theorem cX_standsRight {l : Launch} {D : va_G} {t : Ty3} {a : Nat → Nat} {w : Nat → Nat} {x : Nat → Int32} {y : Nat → Int32} {wy : Nat} {re : Nat} {de : Nat} {co : Nat → Bool} {cr : Nat → Option Nat} {cc : Nat} {sr : Nat} {so : Bool} {cf : Nat → Option Nat} {ck : Bool} {ng : Nat → Nat} {nw : Nat → Nat} {cs : Nat → Nat} {se : Nat → Bool} (hf : WFp w x y wy re de) (hs : Srt w x y wy de re co cr cc) {p : Nat} (hp : p < 120) (hc : co p = true) : CtI (EE l D t) yX0_standsRight tsX0_standsRight (RM 3 72) [.ref (a 0), .int (nI p)] (WX a t w x y wy re de co cr cc sr so cf ck ng nw cs se) 0 0 (fun r u => u = WX a t w x y wy re de co cr cc sr so cf ck ng nw cs se ∧ r = b2 true) := by
  refine CtZ.of (by decide +kernel) rfl (Nat.le_of_ble_eq_true rfl) (fun v u h => by obtain ⟨_, rfl⟩ := h; exact narrow_b2 _) (fun X F E => ?_)
  show GG (EE l D t) X 0 0 0 [(0, .ref (a 0)), (1, .int (nI p))] [] (WX a t w x y wy re de co cr cc sr so cf ck ng nw cs se)
  refine g_iconst F (b2 false) dX0_standsRight_0 (by decide) ?_
  refine g_istore_n (lv2 := [(0, .ref (a 0)), (1, .int (nI p)), (2, .int (b2 false))]) F dX0_standsRight_1 rfl (by decide) rfl ?_
  refine g_iconst F (b2 false) dX0_standsRight_2 (by decide) ?_
  refine g_istore_n (lv2 := [(0, .ref (a 0)), (1, .int (nI p)), (2, .int (b2 false)), (3, .int (b2 false))]) F dX0_standsRight_3 rfl (by decide) rfl ?_
  refine g_iconst F (nI 0) dX0_standsRight_4 (by decide) ?_
  refine g_istore (lv2 := [(0, .ref (a 0)), (1, .int (nI p)), (2, .int (b2 false)), (3, .int (b2 false)), (4, .int (nI 0))]) F dX0_standsRight_5 (by decide) rfl ?_
  refine up_loop (P := fun i => GG (EE l D t) X 0 0 7 [(0, .ref (a 0)), (1, .int (nI p)), (2, .int (b2 (anyN (fun q => decide (q ≠ p) && (co q && decide (cr q = cr p))) i))), (3, .int (b2 (anyN (fun q => decide (q ≠ p) && (co q && (decide (cr q = cr p) && decide (gp wy x y p q ≤ re)))) i))), (4, .int (nI i))] [] (WX a t w x y wy re de co cr cc sr so cf ck ng nw cs se)) 120 ?_ (fun i hi ih => ?_)
  · show GG (EE l D t) X 0 0 7 [(0, .ref (a 0)), (1, .int (nI p)), (2, .int (b2 (anyN (fun q => decide (q ≠ p) && (co q && decide (cr q = cr p))) 120))), (3, .int (b2 (anyN (fun q => decide (q ≠ p) && (co q && (decide (cr q = cr p) && decide (gp wy x y p q ≤ re)))) 120))), (4, .int (nI 120))] [] (WX a t w x y wy re de co cr cc sr so cf ck ng nw cs se)
    refine g_iload F dX0_standsRight_7 rfl ?_
    refine g_bipush F (nI 120) dX0_standsRight_9 (by decide) ?_
    refine g_icmp_ge_t F 104 dX0_standsRight_11 (by decide) (nI_le (Nat.le_refl 120) (by decide)) ?_
    refine g_iload_n F dX0_standsRight_104 rfl rfl ?_
    refine g_if_ne_b F 112 dX0_standsRight_105 (by decide)  (fun h => ?_) (fun h => ?_)
    · refine g_iconst F (b2 true) dX0_standsRight_112 (by decide) ?_
      refine g_goto F 117 dX0_standsRight_113 (by decide) ?_
      exact E _ _ _ _ dX0_standsRight_117 ⟨rfl, rfl⟩
    · refine g_iload_n F dX0_standsRight_108 rfl rfl ?_
      refine g_if_ne_b F 116 dX0_standsRight_109 (by decide)  (fun h2 => ?_) (fun h2 => ?_)
      · exfalso
        obtain ⟨q, q1, q2⟩ := anyN_ex h2
        simp only [Bool.and_eq_true, decide_eq_true_eq] at q2
        obtain ⟨z, z1, z2, z3, z4, z5⟩ := hs.more hp q1 hc q2.2.1 q2.2.2 q2.1
        rw [anyN_of (s := (fun q => decide (q ≠ p) && (co q && (decide (cr q = cr p) && decide (gp wy x y p q ≤ re))))) (j := z) (by simp [z2, z3, z4, z5]) z1] at h
        cases h
      · refine g_iconst F (b2 true) dX0_standsRight_112 (by decide) ?_
        refine g_goto F 117 dX0_standsRight_113 (by decide) ?_
        exact E _ _ _ _ dX0_standsRight_117 ⟨rfl, rfl⟩
  · show GG (EE l D t) X 0 0 7 [(0, .ref (a 0)), (1, .int (nI p)), (2, .int (b2 (anyN (fun q => decide (q ≠ p) && (co q && decide (cr q = cr p))) i))), (3, .int (b2 (anyN (fun q => decide (q ≠ p) && (co q && (decide (cr q = cr p) && decide (gp wy x y p q ≤ re)))) i))), (4, .int (nI i))] [] (WX a t w x y wy re de co cr cc sr so cf ck ng nw cs se)
    refine g_iload F dX0_standsRight_7 rfl ?_
    refine g_bipush F (nI 120) dX0_standsRight_9 (by decide) ?_
    refine g_icmp_ge_f F 104 dX0_standsRight_11 (by decide) (nI_ge hi (by decide)) ?_
    refine g_iload F dX0_standsRight_14 rfl ?_
    refine g_iload_n F dX0_standsRight_16 rfl rfl ?_
    refine g_icmp_eq_n F 98 dX0_standsRight_17 (by decide) (by omega) (by omega) (fun h => ?_) (fun h => ?_)
    · refine g_iinc (lv2 := [(0, .ref (a 0)), (1, .int (nI p)), (2, .int (b2 (anyN (fun q => decide (q ≠ p) && (co q && decide (cr q = cr p))) i))), (3, .int (b2 (anyN (fun q => decide (q ≠ p) && (co q && (decide (cr q = cr p) && decide (gp wy x y p q ≤ re)))) i))), (4, .int (nI (i + 1)))]) F (nI (i + 1)) dX0_standsRight_98 rfl (nI_add i 1) (by decide) rfl ?_
      refine g_goto F 7 dX0_standsRight_101 (by decide) ?_
      rw [anyN_f (s := (fun q => decide (q ≠ p) && (co q && decide (cr q = cr p)))) (n := i) (by simp [h]), anyN_f (s := (fun q => decide (q ≠ p) && (co q && (decide (cr q = cr p) && decide (gp wy x y p q ≤ re))))) (n := i) (by simp [h])] at ih
      exact ih
    · refine g_aload_n F dX0_standsRight_20 rfl rfl ?_
      refine gX_get_core F dX0_standsRight_21 ?_
      refine g_iload F dX0_standsRight_24 rfl ?_
      refine gX_ld_core F hi dX0_standsRight_26 ?_
      refine g_if_ne_b F 33 dX0_standsRight_27 (by decide)  (fun h2 => ?_) (fun h2 => ?_)
      · refine g_aload_n F dX0_standsRight_33 rfl rfl ?_
        refine g_iload_n F dX0_standsRight_34 rfl rfl ?_
        refine g_iload F dX0_standsRight_35 rfl ?_
        refine c_VL F [] (wr := []) (cX_gapBetween hf.2.2.2.1 hp hi) cwX0_X0_gapBetween ⟨by decide, by decide, rfl, rfl⟩ rfl rfl rfl rfl (Nat.le_of_ble_eq_true rfl) ⟨by decide, by decide⟩ dX0_standsRight_37 (fun r u hu => ?_)
        obtain ⟨rfl, rfl⟩ := hu
        show GG (EE l D t) X 0 0 40 [(0, .ref (a 0)), (1, .int (nI p)), (2, .int (b2 (anyN (fun q => decide (q ≠ p) && (co q && decide (cr q = cr p))) i))), (3, .int (b2 (anyN (fun q => decide (q ≠ p) && (co q && (decide (cr q = cr p) && decide (gp wy x y p q ≤ re)))) i))), (4, .int (nI i))] [.long (lN (gp wy x y p i))] (WX a t w x y wy re de co cr cc sr so cf ck ng nw cs se)
        refine g_aload_n F dX0_standsRight_40 rfl rfl ?_
        refine gX_get_reachNow F dX0_standsRight_41 ?_
        refine g_lc_gt_n F 52 dX0_standsRight_44 dX0_standsRight_45 (by decide) (Nat.lt_of_lt_of_le (gp_lt hf p i) (by decide)) hf.2.2.2.2.1 (fun h3 => ?_) (fun h3 => ?_)
        · refine g_iconst F (b2 false) dX0_standsRight_52 (by decide) ?_
          refine g_istore (lv2 := [(0, .ref (a 0)), (1, .int (nI p)), (2, .int (b2 (anyN (fun q => decide (q ≠ p) && (co q && decide (cr q = cr p))) i))), (3, .int (b2 (anyN (fun q => decide (q ≠ p) && (co q && (decide (cr q = cr p) && decide (gp wy x y p q ≤ re)))) i))), (4, .int (nI i)), (5, .int (b2 false))]) F dX0_standsRight_53 (by decide) rfl ?_
          refine g_aload_n F dX0_standsRight_55 rfl rfl ?_
          refine gX_get_crowdOf F dX0_standsRight_56 ?_
          refine g_iload F dX0_standsRight_59 rfl ?_
          refine gX_ld_crowdOf F hi dX0_standsRight_61 ?_
          refine g_aload_n F dX0_standsRight_62 rfl rfl ?_
          refine gX_get_crowdOf F dX0_standsRight_63 ?_
          refine g_iload_n F dX0_standsRight_66 rfl rfl ?_
          refine gX_ld_crowdOf F hp dX0_standsRight_67 ?_
          refine g_icmp_ne_oo F 91 dX0_standsRight_68 (by decide) (hs.bd31 hi) (hs.bd31 hp) (fun h4 => ?_) (fun h4 => ?_)
          · refine g_iload F dX0_standsRight_91 rfl ?_
            refine g_if_eq_b F 98 dX0_standsRight_93 (by decide)  (fun h5 => ?_) (fun h5 => ?_)
            · refine g_iinc (lv2 := [(0, .ref (a 0)), (1, .int (nI p)), (2, .int (b2 (anyN (fun q => decide (q ≠ p) && (co q && decide (cr q = cr p))) i))), (3, .int (b2 (anyN (fun q => decide (q ≠ p) && (co q && (decide (cr q = cr p) && decide (gp wy x y p q ≤ re)))) i))), (4, .int (nI (i + 1))), (5, .int (b2 false))]) F (nI (i + 1)) dX0_standsRight_98 rfl (nI_add i 1) (by decide) rfl ?_
              refine g_goto F 7 dX0_standsRight_101 (by decide) ?_
              refine g_lv [0, 1, 2, 3, 4] rfl ?_
              rw [anyN_f (s := (fun q => decide (q ≠ p) && (co q && decide (cr q = cr p)))) (n := i) (by simp [h4]), anyN_f (s := (fun q => decide (q ≠ p) && (co q && (decide (cr q = cr p) && decide (gp wy x y p q ≤ re))))) (n := i) (by simp [h4])] at ih
              exact ih
            · cases h5
          · refine g_iconst F (b2 true) dX0_standsRight_71 (by decide) ?_
            refine g_istore_n (lv2 := [(0, .ref (a 0)), (1, .int (nI p)), (2, .int (b2 true)), (3, .int (b2 (anyN (fun q => decide (q ≠ p) && (co q && (decide (cr q = cr p) && decide (gp wy x y p q ≤ re)))) i))), (4, .int (nI i)), (5, .int (b2 false))]) F dX0_standsRight_72 rfl (by decide) rfl ?_
            refine g_iload_n F dX0_standsRight_73 rfl rfl ?_
            refine g_if_ne_b F 82 dX0_standsRight_74 (by decide)  (fun h5 => ?_) (fun h5 => ?_)
            · refine g_iconst F (b2 true) dX0_standsRight_82 (by decide) ?_
              refine g_goto F 87 dX0_standsRight_83 (by decide) ?_
              refine g_istore_n (lv2 := [(0, .ref (a 0)), (1, .int (nI p)), (2, .int (b2 true)), (3, .int (b2 true)), (4, .int (nI i)), (5, .int (b2 false))]) F dX0_standsRight_87 rfl (by decide) rfl ?_
              refine g_goto F 98 dX0_standsRight_88 (by decide) ?_
              refine g_iinc (lv2 := [(0, .ref (a 0)), (1, .int (nI p)), (2, .int (b2 true)), (3, .int (b2 true)), (4, .int (nI (i + 1))), (5, .int (b2 false))]) F (nI (i + 1)) dX0_standsRight_98 rfl (nI_add i 1) (by decide) rfl ?_
              refine g_goto F 7 dX0_standsRight_101 (by decide) ?_
              refine g_lv [0, 1, 2, 3, 4] rfl ?_
              rw [anyN_t (s := (fun q => decide (q ≠ p) && (co q && decide (cr q = cr p)))) (n := i) (by simp [h, h2, h4]), anyN_k (s := (fun q => decide (q ≠ p) && (co q && (decide (cr q = cr p) && decide (gp wy x y p q ≤ re))))) (n := i) h5] at ih
              exact ih
            · refine g_iload F dX0_standsRight_77 rfl ?_
              refine g_if_eq_b F 86 dX0_standsRight_79 (by decide)  (fun h6 => ?_) (fun h6 => ?_)
              · refine g_iconst F (b2 false) dX0_standsRight_86 (by decide) ?_
                refine g_istore_n (lv2 := [(0, .ref (a 0)), (1, .int (nI p)), (2, .int (b2 true)), (3, .int (b2 false)), (4, .int (nI i)), (5, .int (b2 false))]) F dX0_standsRight_87 rfl (by decide) rfl ?_
                refine g_goto F 98 dX0_standsRight_88 (by decide) ?_
                refine g_iinc (lv2 := [(0, .ref (a 0)), (1, .int (nI p)), (2, .int (b2 true)), (3, .int (b2 false)), (4, .int (nI (i + 1))), (5, .int (b2 false))]) F (nI (i + 1)) dX0_standsRight_98 rfl (nI_add i 1) (by decide) rfl ?_
                refine g_goto F 7 dX0_standsRight_101 (by decide) ?_
                refine g_lv [0, 1, 2, 3, 4] rfl ?_
                rw [anyN_t (s := (fun q => decide (q ≠ p) && (co q && decide (cr q = cr p)))) (n := i) (by simp [h, h2, h4]), anyN_f (s := (fun q => decide (q ≠ p) && (co q && (decide (cr q = cr p) && decide (gp wy x y p q ≤ re))))) (n := i) (by simp; omega), h5] at ih
                exact ih
              · cases h6
        · refine g_iconst F (b2 true) dX0_standsRight_48 (by decide) ?_
          refine g_goto F 53 dX0_standsRight_49 (by decide) ?_
          refine g_istore (lv2 := [(0, .ref (a 0)), (1, .int (nI p)), (2, .int (b2 (anyN (fun q => decide (q ≠ p) && (co q && decide (cr q = cr p))) i))), (3, .int (b2 (anyN (fun q => decide (q ≠ p) && (co q && (decide (cr q = cr p) && decide (gp wy x y p q ≤ re)))) i))), (4, .int (nI i)), (5, .int (b2 true))]) F dX0_standsRight_53 (by decide) rfl ?_
          refine g_aload_n F dX0_standsRight_55 rfl rfl ?_
          refine gX_get_crowdOf F dX0_standsRight_56 ?_
          refine g_iload F dX0_standsRight_59 rfl ?_
          refine gX_ld_crowdOf F hi dX0_standsRight_61 ?_
          refine g_aload_n F dX0_standsRight_62 rfl rfl ?_
          refine gX_get_crowdOf F dX0_standsRight_63 ?_
          refine g_iload_n F dX0_standsRight_66 rfl rfl ?_
          refine gX_ld_crowdOf F hp dX0_standsRight_67 ?_
          refine g_icmp_ne_oo F 91 dX0_standsRight_68 (by decide) (hs.bd31 hi) (hs.bd31 hp) (fun h4 => ?_) (fun h4 => ?_)
          · refine g_iload F dX0_standsRight_91 rfl ?_
            refine g_if_eq_b F 98 dX0_standsRight_93 (by decide)  (fun h5 => ?_) (fun h5 => ?_)
            · cases h5
            · exact absurd (hs.same hp hi hc h2 h3).symm h4
          · refine g_iconst F (b2 true) dX0_standsRight_71 (by decide) ?_
            refine g_istore_n (lv2 := [(0, .ref (a 0)), (1, .int (nI p)), (2, .int (b2 true)), (3, .int (b2 (anyN (fun q => decide (q ≠ p) && (co q && (decide (cr q = cr p) && decide (gp wy x y p q ≤ re)))) i))), (4, .int (nI i)), (5, .int (b2 true))]) F dX0_standsRight_72 rfl (by decide) rfl ?_
            refine g_iload_n F dX0_standsRight_73 rfl rfl ?_
            refine g_if_ne_b F 82 dX0_standsRight_74 (by decide)  (fun h5 => ?_) (fun h5 => ?_)
            · refine g_iconst F (b2 true) dX0_standsRight_82 (by decide) ?_
              refine g_goto F 87 dX0_standsRight_83 (by decide) ?_
              refine g_istore_n (lv2 := [(0, .ref (a 0)), (1, .int (nI p)), (2, .int (b2 true)), (3, .int (b2 true)), (4, .int (nI i)), (5, .int (b2 true))]) F dX0_standsRight_87 rfl (by decide) rfl ?_
              refine g_goto F 98 dX0_standsRight_88 (by decide) ?_
              refine g_iinc (lv2 := [(0, .ref (a 0)), (1, .int (nI p)), (2, .int (b2 true)), (3, .int (b2 true)), (4, .int (nI (i + 1))), (5, .int (b2 true))]) F (nI (i + 1)) dX0_standsRight_98 rfl (nI_add i 1) (by decide) rfl ?_
              refine g_goto F 7 dX0_standsRight_101 (by decide) ?_
              refine g_lv [0, 1, 2, 3, 4] rfl ?_
              rw [anyN_t (s := (fun q => decide (q ≠ p) && (co q && decide (cr q = cr p)))) (n := i) (by simp [h, h2, h4]), anyN_k (s := (fun q => decide (q ≠ p) && (co q && (decide (cr q = cr p) && decide (gp wy x y p q ≤ re))))) (n := i) h5] at ih
              exact ih
            · refine g_iload F dX0_standsRight_77 rfl ?_
              refine g_if_eq_b F 86 dX0_standsRight_79 (by decide)  (fun h6 => ?_) (fun h6 => ?_)
              · cases h6
              · refine g_iconst F (b2 true) dX0_standsRight_82 (by decide) ?_
                refine g_goto F 87 dX0_standsRight_83 (by decide) ?_
                refine g_istore_n (lv2 := [(0, .ref (a 0)), (1, .int (nI p)), (2, .int (b2 true)), (3, .int (b2 true)), (4, .int (nI i)), (5, .int (b2 true))]) F dX0_standsRight_87 rfl (by decide) rfl ?_
                refine g_goto F 98 dX0_standsRight_88 (by decide) ?_
                refine g_iinc (lv2 := [(0, .ref (a 0)), (1, .int (nI p)), (2, .int (b2 true)), (3, .int (b2 true)), (4, .int (nI (i + 1))), (5, .int (b2 true))]) F (nI (i + 1)) dX0_standsRight_98 rfl (nI_add i 1) (by decide) rfl ?_
                refine g_goto F 7 dX0_standsRight_101 (by decide) ?_
                refine g_lv [0, 1, 2, 3, 4] rfl ?_
                rw [anyN_t (s := (fun q => decide (q ≠ p) && (co q && decide (cr q = cr p)))) (n := i) (by simp [h, h2, h4]), anyN_t (s := (fun q => decide (q ≠ p) && (co q && (decide (cr q = cr p) && decide (gp wy x y p q ≤ re))))) (n := i) (by simp [h, h2, h4, h3])] at ih
                exact ih
      · refine g_goto F 98 dX0_standsRight_30 (by decide) ?_
        refine g_iinc (lv2 := [(0, .ref (a 0)), (1, .int (nI p)), (2, .int (b2 (anyN (fun q => decide (q ≠ p) && (co q && decide (cr q = cr p))) i))), (3, .int (b2 (anyN (fun q => decide (q ≠ p) && (co q && (decide (cr q = cr p) && decide (gp wy x y p q ≤ re)))) i))), (4, .int (nI (i + 1)))]) F (nI (i + 1)) dX0_standsRight_98 rfl (nI_add i 1) (by decide) rfl ?_
        refine g_goto F 7 dX0_standsRight_101 (by decide) ?_
        rw [anyN_f (s := (fun q => decide (q ≠ p) && (co q && decide (cr q = cr p)))) (n := i) (by simp [h2]), anyN_f (s := (fun q => decide (q ≠ p) && (co q && (decide (cr q = cr p) && decide (gp wy x y p q ≤ re))))) (n := i) (by simp [h2])] at ih
        exact ih
