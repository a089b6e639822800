set_option maxHeartbeats 4000000 in
set_option maxRecDepth 100000 in
/-- markCores -/
theorem cX_markCores {l : Launch} {D : va_G} {t : Ty3} {a : Nat → Nat} {w : Nat → Nat} {x : Nat → Int32} {y : Nat → Int32} {wy : Nat} {re : Nat} {de : Nat} {co : Nat → Bool} {cr : Nat → Option Nat} {cc : Nat} {sr : Nat} {so : Bool} {cf : Nat → Option Nat} {ck : Bool} {ng : Nat → Nat} {nw : Nat → Nat} {cs : Nat → Nat} {se : Nat → Bool} (hf : WFp w x y wy re de) {r0 : Nat} (hr : r0 < 2 ^ 63) : CtV (EE l D t) yX0_markCores tsX0_markCores (RM 4 97) [.ref (a 0), .long (lN r0)] (WX a t w x y wy re de co cr cc sr so cf ck ng nw cs se) 0 0 (fun u => u = WX a t w x y wy re de (fill co (isC w x y wy de r0) 120) (fill cr (fun _ => none) 120) cc sr so cf ck ng nw cs (fill se (fun _ => false) 120)) := by
  refine CtV.of (by decide +kernel) rfl (Nat.le_of_ble_eq_true rfl) (fun X F E => ?_)
  show GG (EE l D t) X 0 0 0 [(0, .ref (a 0)), (1, .long (lN r0))] [] (WX a t w x y wy re de co cr cc sr so cf ck ng nw cs se)
  refine g_iconst F (nI 0) dX0_markCores_0 (by decide) ?_
  refine g_istore_n (lv2 := [(0, .ref (a 0)), (1, .long (lN r0)), (3, .int (nI 0))]) F dX0_markCores_1 rfl (by decide) rfl ?_
  have e0 : WX a t w x y wy re de (fill co (isC w x y wy de r0) 0) (fill cr (fun _ => none) 0) cc sr so cf ck ng nw cs (fill se (fun _ => false) 0) = WX a t w x y wy re de co cr cc sr so cf ck ng nw cs se := by rw [fill_0, fill_0, fill_0]
  rw [← e0]
  refine up_loop (P := fun i => GG (EE l D t) X 0 0 2 [(0, .ref (a 0)), (1, .long (lN r0)), (3, .int (nI i))] [] (WX a t w x y wy re de (fill co (isC w x y wy de r0) i) (fill cr (fun _ => none) i) cc sr so cf ck ng nw cs (fill se (fun _ => false) i))) 120 ?_ (fun i hi ih => ?_)
  · show GG (EE l D t) X 0 0 2 [(0, .ref (a 0)), (1, .long (lN r0)), (3, .int (nI 120))] [] (WX a t w x y wy re de (fill co (isC w x y wy de r0) 120) (fill cr (fun _ => none) 120) cc sr so cf ck ng nw cs (fill se (fun _ => false) 120))
    refine g_iload_n F dX0_markCores_2 rfl rfl ?_
    refine g_bipush F (nI 120) dX0_markCores_3 (by decide) ?_
    refine g_icmp_ge_t F 61 dX0_markCores_5 (by decide) (nI_le (Nat.le_refl 120) (by decide)) ?_
    exact E _ _ _ dX0_markCores_61 rfl
  · show GG (EE l D t) X 0 0 2 [(0, .ref (a 0)), (1, .long (lN r0)), (3, .int (nI i))] [] (WX a t w x y wy re de (fill co (isC w x y wy de r0) i) (fill cr (fun _ => none) i) cc sr so cf ck ng nw cs (fill se (fun _ => false) i))
    refine g_iload_n F dX0_markCores_2 rfl rfl ?_
    refine g_bipush F (nI 120) dX0_markCores_3 (by decide) ?_
    refine g_icmp_ge_f F 61 dX0_markCores_5 (by decide) (nI_ge hi (by decide)) ?_
    refine g_aload_n F dX0_markCores_8 rfl rfl ?_
    refine gX_get_core F dX0_markCores_9 ?_
    refine g_iload_n F dX0_markCores_12 rfl rfl ?_
    refine g_aload_n F dX0_markCores_13 rfl rfl ?_
    refine gX_get_weights F dX0_markCores_14 ?_
    refine g_iload_n F dX0_markCores_17 rfl rfl ?_
    refine gX_ld_weights F hi dX0_markCores_18 ?_
    refine g_if_le_n F 39 dX0_markCores_19 (by decide) (by have := hf.1 i; omega) (fun h => ?_) (fun h => ?_)
    · refine g_iconst F (b2 false) dX0_markCores_39 (by decide) ?_
      refine gX_st_core F hi dX0_markCores_40 ?_
      refine g_aload_n F dX0_markCores_41 rfl rfl ?_
      refine gX_get_crowdOf F dX0_markCores_42 ?_
      refine g_iload_n F dX0_markCores_45 rfl rfl ?_
      refine g_iconst F (oI none) dX0_markCores_46 (by decide) ?_
      refine gX_st_crowdOf F hi dX0_markCores_47 ?_
      refine g_aload_n F dX0_markCores_48 rfl rfl ?_
      refine gX_get_settled F dX0_markCores_49 ?_
      refine g_iload_n F dX0_markCores_52 rfl rfl ?_
      refine g_iconst F (b2 false) dX0_markCores_53 (by decide) ?_
      refine gX_st_settled F hi dX0_markCores_54 ?_
      refine g_iinc (lv2 := [(0, .ref (a 0)), (1, .long (lN r0)), (3, .int (nI (i + 1)))]) F (nI (i + 1)) dX0_markCores_55 rfl (nI_add i 1) (by decide) rfl ?_
      refine g_goto F 2 dX0_markCores_58 (by decide) ?_
      rw [fill_up (f := co) (g := (isC w x y wy de r0)) (v := false) (by unfold isC; simp; omega), fill_up (f := cr) (g := fun _ => none) (v := none) rfl, fill_up (f := se) (g := fun _ => false) (v := false) rfl] at ih
      exact ih
    · refine g_aload_n F dX0_markCores_22 rfl rfl ?_
      refine g_iload_n F dX0_markCores_23 rfl rfl ?_
      refine g_lload_n F dX0_markCores_24 rfl rfl ?_
      refine c_VI F [.int (nI i), .ref (a 4)] (wr := []) (cX_weightWithin hf hi hr) cwX0_X0_weightWithin ⟨by decide, by decide, rfl, rfl⟩ rfl rfl rfl rfl (Nat.le_of_ble_eq_true rfl) ⟨by decide, by decide⟩ dX0_markCores_25 (fun r u hu => ?_)
      obtain ⟨rfl, rfl⟩ := hu
      show GG (EE l D t) X 0 0 28 [(0, .ref (a 0)), (1, .long (lN r0)), (3, .int (nI i))] [.int (nI (ww w (gp wy x y i) r0)), .int (nI i), .ref (a 4)] (WX a t w x y wy re de (fill co (isC w x y wy de r0) i) (fill cr (fun _ => none) i) cc sr so cf ck ng nw cs (fill se (fun _ => false) i))
      refine g_aload_n F dX0_markCores_28 rfl rfl ?_
      refine gX_get_demandNow F dX0_markCores_29 ?_
      refine g_icmp_lt_n F 39 dX0_markCores_32 (by decide) (by have := sum1_le (wwf_le (g := gp wy x y i) (r := r0) hf.1); unfold ww; omega) (by have := hf.2.2.2.2.2; omega) (fun h2 => ?_) (fun h2 => ?_)
      · refine g_iconst F (b2 false) dX0_markCores_39 (by decide) ?_
        refine gX_st_core F hi dX0_markCores_40 ?_
        refine g_aload_n F dX0_markCores_41 rfl rfl ?_
        refine gX_get_crowdOf F dX0_markCores_42 ?_
        refine g_iload_n F dX0_markCores_45 rfl rfl ?_
        refine g_iconst F (oI none) dX0_markCores_46 (by decide) ?_
        refine gX_st_crowdOf F hi dX0_markCores_47 ?_
        refine g_aload_n F dX0_markCores_48 rfl rfl ?_
        refine gX_get_settled F dX0_markCores_49 ?_
        refine g_iload_n F dX0_markCores_52 rfl rfl ?_
        refine g_iconst F (b2 false) dX0_markCores_53 (by decide) ?_
        refine gX_st_settled F hi dX0_markCores_54 ?_
        refine g_iinc (lv2 := [(0, .ref (a 0)), (1, .long (lN r0)), (3, .int (nI (i + 1)))]) F (nI (i + 1)) dX0_markCores_55 rfl (nI_add i 1) (by decide) rfl ?_
        refine g_goto F 2 dX0_markCores_58 (by decide) ?_
        rw [fill_up (f := co) (g := (isC w x y wy de r0)) (v := false) (by unfold isC; simp; omega), fill_up (f := cr) (g := fun _ => none) (v := none) rfl, fill_up (f := se) (g := fun _ => false) (v := false) rfl] at ih
        exact ih
      · refine g_iconst F (b2 true) dX0_markCores_35 (by decide) ?_
        refine g_goto F 40 dX0_markCores_36 (by decide) ?_
        refine gX_st_core F hi dX0_markCores_40 ?_
        refine g_aload_n F dX0_markCores_41 rfl rfl ?_
        refine gX_get_crowdOf F dX0_markCores_42 ?_
        refine g_iload_n F dX0_markCores_45 rfl rfl ?_
        refine g_iconst F (oI none) dX0_markCores_46 (by decide) ?_
        refine gX_st_crowdOf F hi dX0_markCores_47 ?_
        refine g_aload_n F dX0_markCores_48 rfl rfl ?_
        refine gX_get_settled F dX0_markCores_49 ?_
        refine g_iload_n F dX0_markCores_52 rfl rfl ?_
        refine g_iconst F (b2 false) dX0_markCores_53 (by decide) ?_
        refine gX_st_settled F hi dX0_markCores_54 ?_
        refine g_iinc (lv2 := [(0, .ref (a 0)), (1, .long (lN r0)), (3, .int (nI (i + 1)))]) F (nI (i + 1)) dX0_markCores_55 rfl (nI_add i 1) (by decide) rfl ?_
        refine g_goto F 2 dX0_markCores_58 (by decide) ?_
        rw [fill_up (f := co) (g := (isC w x y wy de r0)) (v := true) (by unfold isC; simp; omega), fill_up (f := cr) (g := fun _ => none) (v := none) rfl, fill_up (f := se) (g := fun _ => false) (v := false) rfl] at ih
        exact ih
set_option maxHeartbeats 4000000 in
set_option maxRecDepth 100000 in
/-- leastUnsettledCore -/
theorem cX_leastUnsettledCore {l : Launch} {D : va_G} {t : Ty3} {a : Nat → Nat} {w : Nat → Nat} {x : Nat → Int32} {y : Nat → Int32} {wy : Nat} {re : Nat} {de : Nat} {co : Nat → Bool} {cr : Nat → Option Nat} {cc : Nat} {sr : Nat} {so : Bool} {cf : Nat → Option Nat} {ck : Bool} {ng : Nat → Nat} {nw : Nat → Nat} {cs : Nat → Nat} {se : Nat → Bool} (hcr : bdC cr) (hcc : cc < 120) : CtI (EE l D t) yX0_leastUnsettledCore tsX0_leastUnsettledCore (RM 0 0) [.ref (a 0)] (WX a t w x y wy re de co cr cc sr so cf ck ng nw cs se) 0 0 (fun r u => u = WX a t w x y wy re de co cr cc sr so cf ck ng nw cs se ∧ r = oI (fst1 (selU cr se cc))) := by
  refine CtI.of (by decide +kernel) rfl (Nat.le_of_ble_eq_true rfl) (fun X F E => ?_)
  show GG (EE l D t) X 0 0 0 [(0, .ref (a 0))] [] (WX a t w x y wy re de co cr cc sr so cf ck ng nw cs se)
  refine g_iconst F (nI 0) dX0_leastUnsettledCore_0 (by decide) ?_
  refine g_istore_n (lv2 := [(0, .ref (a 0)), (1, .int (nI 0))]) F dX0_leastUnsettledCore_1 rfl (by decide) rfl ?_
  refine up_loopI (I := fun i => ∀ j, j < i → selU cr se cc j = false) (P := fun i => GG (EE l D t) X 0 0 2 [(0, .ref (a 0)), (1, .int (nI i))] [] (WX a t w x y wy re de co cr cc sr so cf ck ng nw cs se)) 120 (fun j hj => absurd hj (by omega)) (fun hI => ?_) (fun i hi hI ih => ?_)
  · show GG (EE l D t) X 0 0 2 [(0, .ref (a 0)), (1, .int (nI 120))] [] (WX a t w x y wy re de co cr cc sr so cf ck ng nw cs se)
    refine g_iload_n F dX0_leastUnsettledCore_2 rfl rfl ?_
    refine g_bipush F (nI 120) dX0_leastUnsettledCore_3 (by decide) ?_
    refine g_icmp_ge_t F 38 dX0_leastUnsettledCore_5 (by decide) (nI_le (Nat.le_refl 120) (by decide)) ?_
    refine g_iconst F (oI none) dX0_leastUnsettledCore_38 (by decide) ?_
    exact E _ _ _ _ dX0_leastUnsettledCore_39 ⟨rfl, by rw [fst1_eq, firstN_none hI]⟩
  · show GG (EE l D t) X 0 0 2 [(0, .ref (a 0)), (1, .int (nI i))] [] (WX a t w x y wy re de co cr cc sr so cf ck ng nw cs se)
    refine g_iload_n F dX0_leastUnsettledCore_2 rfl rfl ?_
    refine g_bipush F (nI 120) dX0_leastUnsettledCore_3 (by decide) ?_
    refine g_icmp_ge_f F 38 dX0_leastUnsettledCore_5 (by decide) (nI_ge hi (by decide)) ?_
    refine g_aload_n F dX0_leastUnsettledCore_8 rfl rfl ?_
    refine gX_get_crowdOf F dX0_leastUnsettledCore_9 ?_
    refine g_iload_n F dX0_leastUnsettledCore_12 rfl rfl ?_
    refine gX_ld_crowdOf F hi dX0_leastUnsettledCore_13 ?_
    refine g_aload_n F dX0_leastUnsettledCore_14 rfl rfl ?_
    refine gX_get_crowdCount F dX0_leastUnsettledCore_15 ?_
    refine g_icmp_ne_on F 32 dX0_leastUnsettledCore_18 (by decide) (bd31 hcr i) (by omega) (fun h => ?_) (fun h => ?_)
    · refine g_iinc (lv2 := [(0, .ref (a 0)), (1, .int (nI (i + 1)))]) F (nI (i + 1)) dX0_leastUnsettledCore_32 rfl (nI_add i 1) (by decide) rfl ?_
      refine g_goto F 2 dX0_leastUnsettledCore_35 (by decide) ?_
      exact ih (lt_s hI (by simp [selU, h]))
    · refine g_aload_n F dX0_leastUnsettledCore_21 rfl rfl ?_
      refine gX_get_settled F dX0_leastUnsettledCore_22 ?_
      refine g_iload_n F dX0_leastUnsettledCore_25 rfl rfl ?_
      refine gX_ld_settled F hi dX0_leastUnsettledCore_26 ?_
      refine g_if_ne_b F 32 dX0_leastUnsettledCore_27 (by decide)  (fun h2 => ?_) (fun h2 => ?_)
      · refine g_iinc (lv2 := [(0, .ref (a 0)), (1, .int (nI (i + 1)))]) F (nI (i + 1)) dX0_leastUnsettledCore_32 rfl (nI_add i 1) (by decide) rfl ?_
        refine g_goto F 2 dX0_leastUnsettledCore_35 (by decide) ?_
        exact ih (lt_s hI (by simp [selU, h2]))
      · refine g_iload_n F dX0_leastUnsettledCore_30 rfl rfl ?_
        exact E _ _ _ _ dX0_leastUnsettledCore_31 ⟨rfl, by rw [fst1_eq, firstN_some (i := i) (by simp [selU, h, h2]) hI hi]; rfl⟩
set_option maxHeartbeats 4000000 in
set_option maxRecDepth 100000 in
/-- gatherCoresNear -/
theorem cX_gatherCoresNear {l : Launch} {D : va_G} {t : Ty3} {a : Nat → Nat} {w : Nat → Nat} {x : Nat → Int32} {y : Nat → Int32} {wy : Nat} {re : Nat} {de : Nat} {co : Nat → Bool} {cr : Nat → Option Nat} {cc : Nat} {sr : Nat} {so : Bool} {cf : Nat → Option Nat} {ck : Bool} {ng : Nat → Nat} {nw : Nat → Nat} {cs : Nat → Nat} {se : Nat → Bool} (hf : WFp w x y wy re de) (hcr : bdC cr) {p r0 : Nat} (hp : p < 120) (hr : r0 < 2 ^ 63) : CtV (EE l D t) yX0_gatherCoresNear tsX0_gatherCoresNear (RM 3 72) [.ref (a 0), .int (nI p), .long (lN r0)] (WX a t w x y wy re de co cr cc sr so cf ck ng nw cs se) 0 0 (fun u => u = WX a t w x y wy re de co (fill cr (nearC co cr cc (gp wy x y p) r0) 120) cc sr so cf ck ng nw cs se) := by
  refine CtV.of (by decide +kernel) rfl (Nat.le_of_ble_eq_true rfl) (fun X F E => ?_)
  show GG (EE l D t) X 0 0 0 [(0, .ref (a 0)), (1, .int (nI p)), (2, .long (lN r0))] [] (WX a t w x y wy re de co cr cc sr so cf ck ng nw cs se)
  refine g_iconst F (nI 0) dX0_gatherCoresNear_0 (by decide) ?_
  refine g_istore (lv2 := [(0, .ref (a 0)), (1, .int (nI p)), (2, .long (lN r0)), (4, .int (nI 0))]) F dX0_gatherCoresNear_1 (by decide) rfl ?_
  have e0 : WX a t w x y wy re de co (fill cr (nearC co cr cc (gp wy x y p) r0) 0) cc sr so cf ck ng nw cs se = WX a t w x y wy re de co cr cc sr so cf ck ng nw cs se := by rw [fill_0]
  rw [← e0]
  refine up_loop (P := fun i => GG (EE l D t) X 0 0 3 [(0, .ref (a 0)), (1, .int (nI p)), (2, .long (lN r0)), (4, .int (nI i))] [] (WX a t w x y wy re de co (fill cr (nearC co cr cc (gp wy x y p) r0) i) cc sr so cf ck ng nw cs se)) 120 ?_ (fun i hi ih => ?_)
  · show GG (EE l D t) X 0 0 3 [(0, .ref (a 0)), (1, .int (nI p)), (2, .long (lN r0)), (4, .int (nI 120))] [] (WX a t w x y wy re de co (fill cr (nearC co cr cc (gp wy x y p) r0) 120) cc sr so cf ck ng nw cs se)
    refine g_iload F dX0_gatherCoresNear_3 rfl ?_
    refine g_bipush F (nI 120) dX0_gatherCoresNear_5 (by decide) ?_
    refine g_icmp_ge_t F 60 dX0_gatherCoresNear_7 (by decide) (nI_le (Nat.le_refl 120) (by decide)) ?_
    exact E _ _ _ dX0_gatherCoresNear_60 rfl
  · show GG (EE l D t) X 0 0 3 [(0, .ref (a 0)), (1, .int (nI p)), (2, .long (lN r0)), (4, .int (nI i))] [] (WX a t w x y wy re de co (fill cr (nearC co cr cc (gp wy x y p) r0) i) cc sr so cf ck ng nw cs se)
    refine g_iload F dX0_gatherCoresNear_3 rfl ?_
    refine g_bipush F (nI 120) dX0_gatherCoresNear_5 (by decide) ?_
    refine g_icmp_ge_f F 60 dX0_gatherCoresNear_7 (by decide) (nI_ge hi (by decide)) ?_
    refine g_aload_n F dX0_gatherCoresNear_10 rfl rfl ?_
    refine gX_get_core F dX0_gatherCoresNear_11 ?_
    refine g_iload F dX0_gatherCoresNear_14 rfl ?_
    refine gX_ld_core F hi dX0_gatherCoresNear_16 ?_
    refine g_if_eq_b F 54 dX0_gatherCoresNear_17 (by decide)  (fun h => ?_) (fun h => ?_)
    · refine g_iinc (lv2 := [(0, .ref (a 0)), (1, .int (nI p)), (2, .long (lN r0)), (4, .int (nI (i + 1)))]) F (nI (i + 1)) dX0_gatherCoresNear_54 rfl (nI_add i 1) (by decide) rfl ?_
      refine g_goto F 3 dX0_gatherCoresNear_57 (by decide) ?_
      rw [fill_same (f := cr) (g := (nearC co cr cc (gp wy x y p) r0)) (by unfold nearC; rw [if_neg (by simp [h])])] at ih
      exact ih
    · refine g_aload_n F dX0_gatherCoresNear_20 rfl rfl ?_
      refine gX_get_crowdOf F dX0_gatherCoresNear_21 ?_
      refine g_iload F dX0_gatherCoresNear_24 rfl ?_
      refine gX_ld_crowdOf F hi dX0_gatherCoresNear_26 ?_
      refine g_iconst F (oI none) dX0_gatherCoresNear_27 (by decide) ?_
      refine g_icmp_ne_o F 54 dX0_gatherCoresNear_28 (by decide) (by rw [fill_at]; exact bd31 hcr i) (fun h2 => ?_) (fun h2 => ?_)
      · rw [fill_at] at h2
        refine g_iinc (lv2 := [(0, .ref (a 0)), (1, .int (nI p)), (2, .long (lN r0)), (4, .int (nI (i + 1)))]) F (nI (i + 1)) dX0_gatherCoresNear_54 rfl (nI_add i 1) (by decide) rfl ?_
        refine g_goto F 3 dX0_gatherCoresNear_57 (by decide) ?_
        rw [fill_same (f := cr) (g := (nearC co cr cc (gp wy x y p) r0)) (by unfold nearC; rw [if_neg (by simp [h2])])] at ih
        exact ih
      · rw [fill_at] at h2
        refine g_aload_n F dX0_gatherCoresNear_31 rfl rfl ?_
        refine g_iload_n F dX0_gatherCoresNear_32 rfl rfl ?_
        refine g_iload F dX0_gatherCoresNear_33 rfl ?_
        refine c_VL F [] (wr := []) (cX_gapBetween hf.2.2.2.1 hp hi) cwX0_X0_gapBetween ⟨by decide, by decide, rfl, rfl⟩ rfl rfl rfl rfl (Nat.le_of_ble_eq_true rfl) ⟨by decide, by decide⟩ dX0_gatherCoresNear_35 (fun r u hu => ?_)
        obtain ⟨rfl, rfl⟩ := hu
        show GG (EE l D t) X 0 0 38 [(0, .ref (a 0)), (1, .int (nI p)), (2, .long (lN r0)), (4, .int (nI i))] [.long (lN (gp wy x y p i))] (WX a t w x y wy re de co (fill cr (nearC co cr cc (gp wy x y p) r0) i) cc sr so cf ck ng nw cs se)
        refine g_lload_n F dX0_gatherCoresNear_38 rfl rfl ?_
        refine g_lc_gt_n F 54 dX0_gatherCoresNear_39 dX0_gatherCoresNear_40 (by decide) (Nat.lt_of_lt_of_le (gp_lt hf p i) (by decide)) hr (fun h3 => ?_) (fun h3 => ?_)
        · refine g_iinc (lv2 := [(0, .ref (a 0)), (1, .int (nI p)), (2, .long (lN r0)), (4, .int (nI (i + 1)))]) F (nI (i + 1)) dX0_gatherCoresNear_54 rfl (nI_add i 1) (by decide) rfl ?_
          refine g_goto F 3 dX0_gatherCoresNear_57 (by decide) ?_
          rw [fill_same (f := cr) (g := (nearC co cr cc (gp wy x y p) r0)) (by unfold nearC; rw [if_neg (by omega)])] at ih
          exact ih
        · refine g_aload_n F dX0_gatherCoresNear_43 rfl rfl ?_
          refine gX_get_crowdOf F dX0_gatherCoresNear_44 ?_
          refine g_iload F dX0_gatherCoresNear_47 rfl ?_
          refine g_aload_n F dX0_gatherCoresNear_49 rfl rfl ?_
          refine gX_get_crowdCount F dX0_gatherCoresNear_50 ?_
          refine gX_st_crowdOf (e := (some cc)) F hi dX0_gatherCoresNear_53 ?_
          refine g_iinc (lv2 := [(0, .ref (a 0)), (1, .int (nI p)), (2, .long (lN r0)), (4, .int (nI (i + 1)))]) F (nI (i + 1)) dX0_gatherCoresNear_54 rfl (nI_add i 1) (by decide) rfl ?_
          refine g_goto F 3 dX0_gatherCoresNear_57 (by decide) ?_
          rw [fill_up (f := cr) (g := (nearC co cr cc (gp wy x y p) r0)) (v := some cc) (by unfold nearC; rw [if_pos ⟨h, h2, h3⟩])] at ih
          exact ih

set_option maxHeartbeats 4000000 in
set_option maxRecDepth 100000 in
/-- gatherFrom -/
theorem cX_gatherFrom {l : Launch} {D : va_G} {t : Ty3} {a : Nat → Nat} {w : Nat → Nat} {x : Nat → Int32} {y : Nat → Int32} {wy : Nat} {re : Nat} {de : Nat} {co : Nat → Bool} {cr : Nat → Option Nat} {cc : Nat} {sr : Nat} {so : Bool} {cf : Nat → Option Nat} {ck : Bool} {ng : Nat → Nat} {nw : Nat → Nat} {cs : Nat → Nat} {se : Nat → Bool} (hf : WFp w x y wy re de) (hcr : bdC cr) (hcc : cc < 120) {p r0 : Nat} (hp : p < 120) (hr : r0 < 2 ^ 63) : CtV (EE l D t) yX0_gatherFrom tsX0_gatherFrom (RM 4 96) [.ref (a 0), .int (nI p), .long (lN r0)] (WX a t w x y wy re de co cr cc sr so cf ck ng nw cs se) 0 0 (fun u => u = WX a t w x y wy re de co ((gF1 co cc (gp wy x y) r0 (up cr p (some cc)) se).1) cc sr so cf ck ng nw cs ((gF1 co cc (gp wy x y) r0 (up cr p (some cc)) se).2)) := by
  refine CtV.of (by decide +kernel) rfl (Nat.le_of_ble_eq_true rfl) (fun X F E => ?_)
  show GG (EE l D t) X 0 0 0 [(0, .ref (a 0)), (1, .int (nI p)), (2, .long (lN r0))] [] (WX a t w x y wy re de co cr cc sr so cf ck ng nw cs se)
  refine g_aload_n F dX0_gatherFrom_0 rfl rfl ?_
  refine gX_get_crowdOf F dX0_gatherFrom_1 ?_
  refine g_iload_n F dX0_gatherFrom_4 rfl rfl ?_
  refine g_aload_n F dX0_gatherFrom_5 rfl rfl ?_
  refine gX_get_crowdCount F dX0_gatherFrom_6 ?_
  refine gX_st_crowdOf (e := (some cc)) F hp dX0_gatherFrom_9 ?_
  refine g_iconst F (nI 0) dX0_gatherFrom_10 (by decide) ?_
  refine g_istore (lv2 := [(0, .ref (a 0)), (1, .int (nI p)), (2, .long (lN r0)), (4, .int (nI 0))]) F dX0_gatherFrom_11 (by decide) rfl ?_
  have key : ∀ (m i : Nat) (c1 : Nat → Option Nat) (s1 : Nat → Bool), i + m = 120 → bdC c1 → (∀ u, u = WX a t w x y wy re de co ((gF co cc (gp wy x y) r0 m c1 s1).1) cc sr so cf ck ng nw cs ((gF co cc (gp wy x y) r0 m c1 s1).2) → u = WX a t w x y wy re de co ((gF1 co cc (gp wy x y) r0 (up cr p (some cc)) se).1) cc sr so cf ck ng nw cs ((gF1 co cc (gp wy x y) r0 (up cr p (some cc)) se).2)) → GG (EE l D t) X 0 0 13 [(0, .ref (a 0)), (1, .int (nI p)), (2, .long (lN r0)), (4, .int (nI i))] [] (WX a t w x y wy re de co c1 cc sr so cf ck ng nw cs s1) := by
    intro m
    induction m with
    | zero =>
      intro i c1 s1 him hcr hfin
      have hi : i = 120 := by omega
      subst hi
      refine g_iload F dX0_gatherFrom_13 rfl ?_
      refine g_bipush F (nI 120) dX0_gatherFrom_15 (by decide) ?_
      refine g_icmp_ge_t F 54 dX0_gatherFrom_17 (by decide) (nI_le (Nat.le_refl 120) (by decide)) ?_
      exact E _ _ _ dX0_gatherFrom_54 (hfin _ rfl)
    | succ m ih =>
      intro i c1 s1 him hcr hfin
      have hi : i < 120 := by omega
      refine g_iload F dX0_gatherFrom_13 rfl ?_
      refine g_bipush F (nI 120) dX0_gatherFrom_15 (by decide) ?_
      refine g_icmp_ge_f F 54 dX0_gatherFrom_17 (by decide) (nI_ge hi (by decide)) ?_
      refine g_aload_n F dX0_gatherFrom_20 rfl rfl ?_
      refine c_VI F [] (wr := []) (cX_leastUnsettledCore hcr hcc) cwX0_X0_leastUnsettledCore ⟨by decide, by decide, rfl, rfl⟩ rfl rfl rfl rfl (Nat.le_of_ble_eq_true rfl) ⟨by decide, by decide⟩ dX0_gatherFrom_21 (fun r u hu => ?_)
      obtain ⟨rfl, rfl⟩ := hu
      show GG (EE l D t) X 0 0 24 [(0, .ref (a 0)), (1, .int (nI p)), (2, .long (lN r0)), (4, .int (nI i))] [.int (oI (fst1 (selU c1 s1 cc)))] (WX a t w x y wy re de co c1 cc sr so cf ck ng nw cs s1)
      cases hq : fst1 (selU c1 s1 cc) with
      | none =>
        refine g_istore (lv2 := [(0, .ref (a 0)), (1, .int (nI p)), (2, .long (lN r0)), (4, .int (nI i)), (5, .int (oI none))]) F dX0_gatherFrom_24 (by decide) rfl ?_
        refine g_iload F dX0_gatherFrom_26 rfl ?_
        refine g_iconst F (oI none) dX0_gatherFrom_28 (by decide) ?_
        refine g_icmp_ne_o F 33 dX0_gatherFrom_29 (by decide) (fun k hk => by cases hk) (fun h => absurd rfl h) (fun h => ?_)
        exact E _ _ _ dX0_gatherFrom_32 (hfin _ (by unfold gF; rw [hq]))
      | some q =>
        obtain ⟨hq1, hq2, hq3⟩ := firstN_spec (by rw [← fst1_eq]; exact hq)
        refine g_istore (lv2 := [(0, .ref (a 0)), (1, .int (nI p)), (2, .long (lN r0)), (4, .int (nI i)), (5, .int (oI (some q)))]) F dX0_gatherFrom_24 (by decide) rfl ?_
        refine g_iload F dX0_gatherFrom_26 rfl ?_
        refine g_iconst F (oI none) dX0_gatherFrom_28 (by decide) ?_
        refine g_icmp_ne_o F 33 dX0_gatherFrom_29 (by decide) (fun k hk => by cases hk; omega) (fun h => ?_) (fun h => absurd h (by simp))
        show GG (EE l D t) X 0 0 33 [(0, .ref (a 0)), (1, .int (nI p)), (2, .long (lN r0)), (4, .int (nI i)), (5, .int (nI q))] [] (WX a t w x y wy re de co c1 cc sr so cf ck ng nw cs s1)
        refine g_aload_n F dX0_gatherFrom_33 rfl rfl ?_
        refine gX_get_settled F dX0_gatherFrom_34 ?_
        refine g_iload F dX0_gatherFrom_37 rfl ?_
        refine g_iconst F (b2 true) dX0_gatherFrom_39 (by decide) ?_
        refine gX_st_settled F hq1 dX0_gatherFrom_40 ?_
        refine g_aload_n F dX0_gatherFrom_41 rfl rfl ?_
        refine g_iload F dX0_gatherFrom_42 rfl ?_
        refine g_lload_n F dX0_gatherFrom_44 rfl rfl ?_
        refine c_VV F [] (wr := []) (cX_gatherCoresNear hf hcr hq1 hr) cwX0_X0_gatherCoresNear ⟨by decide, by decide, rfl, rfl⟩ rfl rfl rfl rfl (Nat.le_of_ble_eq_true rfl) ⟨by decide, by decide⟩ dX0_gatherFrom_45 (fun u hu => ?_)
        obtain rfl := hu
        show GG (EE l D t) X 0 0 48 [(0, .ref (a 0)), (1, .int (nI p)), (2, .long (lN r0)), (4, .int (nI i)), (5, .int (nI q))] [] (WX a t w x y wy re de co (fill c1 (nearC co c1 cc (gp wy x y q) r0) 120) cc sr so cf ck ng nw cs (up s1 q true))
        refine g_iinc (lv2 := [(0, .ref (a 0)), (1, .int (nI p)), (2, .long (lN r0)), (4, .int (nI (i + 1))), (5, .int (nI q))]) F (nI (i + 1)) dX0_gatherFrom_48 rfl (nI_add i 1) (by decide) rfl ?_
        refine g_goto F 13 dX0_gatherFrom_51 (by decide) ?_
        refine g_lv [0, 1, 2, 3] rfl ?_
        refine ih (i + 1) _ _ (by omega) (bdC_near hcr hcc) (fun u hu => hfin u ?_)
        rw [hu]
        conv => rhs; unfold gF
        rw [hq]
  exact key 120 0 _ _ rfl (bdC_up hcr hcc) (fun u hu => by rw [gF1_eq]; exact hu)
set_option maxHeartbeats 4000000 in
set_option maxRecDepth 100000 in
/-- gatherCrowds -/
theorem cX_gatherCrowds {l : Launch} {D : va_G} {t : Ty3} {a : Nat → Nat} {w : Nat → Nat} {x : Nat → Int32} {y : Nat → Int32} {wy : Nat} {re : Nat} {de : Nat} {co : Nat → Bool} {cr : Nat → Option Nat} {cc : Nat} {sr : Nat} {so : Bool} {cf : Nat → Option Nat} {ck : Bool} {ng : Nat → Nat} {nw : Nat → Nat} {cs : Nat → Nat} {se : Nat → Bool} (hf : WFp w x y wy re de) (hcr : bdC cr) {r0 : Nat} (hr : r0 < 2 ^ 63) : CtV (EE l D t) yX0_gatherCrowds tsX0_gatherCrowds (RM 5 121) [.ref (a 0), .long (lN r0)] (WX a t w x y wy re de co cr cc sr so cf ck ng nw cs se) 0 0 (fun u => u = WX a t w x y wy re de co ((gS1 co (gp wy x y) r0 cr se).1) ((gS1 co (gp wy x y) r0 cr se).2.2) sr so cf ck ng nw cs ((gS1 co (gp wy x y) r0 cr se).2.1)) := by
  refine CtV.of (by decide +kernel) rfl (Nat.le_of_ble_eq_true rfl) (fun X F E => ?_)
  show GG (EE l D t) X 0 0 0 [(0, .ref (a 0)), (1, .long (lN r0))] [] (WX a t w x y wy re de co cr cc sr so cf ck ng nw cs se)
  refine g_aload_n F dX0_gatherCrowds_0 rfl rfl ?_
  refine g_iconst F (nI 0) dX0_gatherCrowds_1 (by decide) ?_
  refine gX_put_crowdCount F dX0_gatherCrowds_2 ?_
  refine g_iconst F (nI 0) dX0_gatherCrowds_5 (by decide) ?_
  refine g_istore_n (lv2 := [(0, .ref (a 0)), (1, .long (lN r0)), (3, .int (nI 0))]) F dX0_gatherCrowds_6 rfl (by decide) rfl ?_
  refine up_loop (P := fun i => GG (EE l D t) X 0 0 7 [(0, .ref (a 0)), (1, .long (lN r0)), (3, .int (nI i))] [] (WX a t w x y wy re de co ((gS co (gp wy x y) r0 cr se i).1) ((gS co (gp wy x y) r0 cr se i).2.2) sr so cf ck ng nw cs ((gS co (gp wy x y) r0 cr se i).2.1))) 120 ?_ (fun i hi ih => ?_)
  · show GG (EE l D t) X 0 0 7 [(0, .ref (a 0)), (1, .long (lN r0)), (3, .int (nI 120))] [] (WX a t w x y wy re de co ((gS co (gp wy x y) r0 cr se 120).1) ((gS co (gp wy x y) r0 cr se 120).2.2) sr so cf ck ng nw cs ((gS co (gp wy x y) r0 cr se 120).2.1))
    refine g_iload_n F dX0_gatherCrowds_7 rfl rfl ?_
    refine g_bipush F (nI 120) dX0_gatherCrowds_8 (by decide) ?_
    refine g_icmp_ge_t F 54 dX0_gatherCrowds_10 (by decide) (nI_le (Nat.le_refl 120) (by decide)) ?_
    exact E _ _ _ dX0_gatherCrowds_54 (by rw [gS1_eq])
  · show GG (EE l D t) X 0 0 7 [(0, .ref (a 0)), (1, .long (lN r0)), (3, .int (nI i))] [] (WX a t w x y wy re de co ((gS co (gp wy x y) r0 cr se i).1) ((gS co (gp wy x y) r0 cr se i).2.2) sr so cf ck ng nw cs ((gS co (gp wy x y) r0 cr se i).2.1))
    refine g_iload_n F dX0_gatherCrowds_7 rfl rfl ?_
    refine g_bipush F (nI 120) dX0_gatherCrowds_8 (by decide) ?_
    refine g_icmp_ge_f F 54 dX0_gatherCrowds_10 (by decide) (nI_ge hi (by decide)) ?_
    obtain ⟨hb1, hb2⟩ := gS_bd (co := co) (g := gp wy x y) (r := r0) (se := se) hcr i (by omega)
    refine g_aload_n F dX0_gatherCrowds_13 rfl rfl ?_
    refine gX_get_core F dX0_gatherCrowds_14 ?_
    refine g_iload_n F dX0_gatherCrowds_17 rfl rfl ?_
    refine gX_ld_core F hi dX0_gatherCrowds_18 ?_
    refine g_if_eq_b F 48 dX0_gatherCrowds_19 (by decide)  (fun h => ?_) (fun h => ?_)
    · refine g_iinc (lv2 := [(0, .ref (a 0)), (1, .long (lN r0)), (3, .int (nI (i + 1)))]) F (nI (i + 1)) dX0_gatherCrowds_48 rfl (nI_add i 1) (by decide) rfl ?_
      refine g_goto F 7 dX0_gatherCrowds_51 (by decide) ?_
      rw [gS_n (by simp [h])] at ih
      exact ih
    · refine g_aload_n F dX0_gatherCrowds_22 rfl rfl ?_
      refine gX_get_crowdOf F dX0_gatherCrowds_23 ?_
      refine g_iload_n F dX0_gatherCrowds_26 rfl rfl ?_
      refine gX_ld_crowdOf F hi dX0_gatherCrowds_27 ?_
      refine g_iconst F (oI none) dX0_gatherCrowds_28 (by decide) ?_
      refine g_icmp_ne_o F 48 dX0_gatherCrowds_29 (by decide) (bd31 hb1 i) (fun h2 => ?_) (fun h2 => ?_)
      · refine g_iinc (lv2 := [(0, .ref (a 0)), (1, .long (lN r0)), (3, .int (nI (i + 1)))]) F (nI (i + 1)) dX0_gatherCrowds_48 rfl (nI_add i 1) (by decide) rfl ?_
        refine g_goto F 7 dX0_gatherCrowds_51 (by decide) ?_
        rw [gS_n (fun z => h2 z.2)] at ih
        exact ih
      · refine g_aload_n F dX0_gatherCrowds_32 rfl rfl ?_
        refine g_iload_n F dX0_gatherCrowds_33 rfl rfl ?_
        refine g_lload_n F dX0_gatherCrowds_34 rfl rfl ?_
        refine c_VV F [] (wr := []) (cX_gatherFrom hf hb1 (by omega) hi hr) cwX0_X0_gatherFrom ⟨by decide, by decide, rfl, rfl⟩ rfl rfl rfl rfl (Nat.le_of_ble_eq_true rfl) ⟨by decide, by decide⟩ dX0_gatherCrowds_35 (fun u hu => ?_)
        obtain rfl := hu
        show GG (EE l D t) X 0 0 38 [(0, .ref (a 0)), (1, .long (lN r0)), (3, .int (nI i))] [] (WX a t w x y wy re de co ((gF1 co (gS co (gp wy x y) r0 cr se i).2.2 (gp wy x y) r0 (up (gS co (gp wy x y) r0 cr se i).1 i (some (gS co (gp wy x y) r0 cr se i).2.2)) (gS co (gp wy x y) r0 cr se i).2.1).1) ((gS co (gp wy x y) r0 cr se i).2.2) sr so cf ck ng nw cs ((gF1 co (gS co (gp wy x y) r0 cr se i).2.2 (gp wy x y) r0 (up (gS co (gp wy x y) r0 cr se i).1 i (some (gS co (gp wy x y) r0 cr se i).2.2)) (gS co (gp wy x y) r0 cr se i).2.1).2))
        refine g_aload_n F dX0_gatherCrowds_38 rfl rfl ?_
        refine g_dup F dX0_gatherCrowds_39 rfl ?_
        refine gX_get_crowdCount F dX0_gatherCrowds_40 ?_
        refine g_iconst F (nI 1) dX0_gatherCrowds_43 (by decide) ?_
        refine g_iadd_n F dX0_gatherCrowds_44 ?_
        refine gX_put_crowdCount F dX0_gatherCrowds_45 ?_
        refine g_iinc (lv2 := [(0, .ref (a 0)), (1, .long (lN r0)), (3, .int (nI (i + 1)))]) F (nI (i + 1)) dX0_gatherCrowds_48 rfl (nI_add i 1) (by decide) rfl ?_
        refine g_goto F 7 dX0_gatherCrowds_51 (by decide) ?_
        rw [gS_y h h2] at ih
        exact ih
set_option maxHeartbeats 4000000 in
set_option maxRecDepth 100000 in
/-- leastCrowdAt -/
theorem cX_leastCrowdAt {l : Launch} {D : va_G} {t : Ty3} {a : Nat → Nat} {w : Nat → Nat} {x : Nat → Int32} {y : Nat → Int32} {wy : Nat} {re : Nat} {de : Nat} {co : Nat → Bool} {cr : Nat → Option Nat} {cc : Nat} {sr : Nat} {so : Bool} {cf : Nat → Option Nat} {ck : Bool} {ng : Nat → Nat} {nw : Nat → Nat} {cs : Nat → Nat} {se : Nat → Bool} (hf : WFp w x y wy re de) (hcr : ∀ q, q < 120 → co q = true → ∃ k, cr q = some k ∧ k < 120) {p1 p2 : Int32} (hp1 : inR p1) (hp2 : inR p2) {r0 : Nat} (hr : r0 < 2 ^ 63) : CtI (EE l D t) yX0_leastCrowdAt tsX0_leastCrowdAt (RM 2 50) [.ref (a 0), .int p1, .int p2, .long (lN r0)] (WX a t w x y wy re de co cr cc sr so cf ck ng nw cs se) 0 0 (fun r u => u = WX a t w x y wy re de co cr cc sr so cf ck ng nw cs se ∧ r = oI (lcs1 co cr (fun q => gapN wy (x q) (y q) p1 p2) r0)) := by
  refine CtI.of (by decide +kernel) rfl (Nat.le_of_ble_eq_true rfl) (fun X F E => ?_)
  show GG (EE l D t) X 0 0 0 [(0, .ref (a 0)), (1, .int p1), (2, .int p2), (3, .long (lN r0))] [] (WX a t w x y wy re de co cr cc sr so cf ck ng nw cs se)
  refine g_iconst F (oI none) dX0_leastCrowdAt_0 (by decide) ?_
  refine g_istore (lv2 := [(0, .ref (a 0)), (1, .int p1), (2, .int p2), (3, .long (lN r0)), (5, .int (oI none))]) F dX0_leastCrowdAt_1 (by decide) rfl ?_
  refine g_iconst F (nI 0) dX0_leastCrowdAt_3 (by decide) ?_
  refine g_istore (lv2 := [(0, .ref (a 0)), (1, .int p1), (2, .int p2), (3, .long (lN r0)), (5, .int (oI none)), (6, .int (nI 0))]) F dX0_leastCrowdAt_4 (by decide) rfl ?_
  refine up_loop (P := fun i => GG (EE l D t) X 0 0 6 [(0, .ref (a 0)), (1, .int p1), (2, .int p2), (3, .long (lN r0)), (5, .int (oI (lcs co cr (fun q => gapN wy (x q) (y q) p1 p2) r0 i))), (6, .int (nI i))] [] (WX a t w x y wy re de co cr cc sr so cf ck ng nw cs se)) 120 ?_ (fun i hi ih => ?_)
  · show GG (EE l D t) X 0 0 6 [(0, .ref (a 0)), (1, .int p1), (2, .int p2), (3, .long (lN r0)), (5, .int (oI (lcs co cr (fun q => gapN wy (x q) (y q) p1 p2) r0 120))), (6, .int (nI 120))] [] (WX a t w x y wy re de co cr cc sr so cf ck ng nw cs se)
    refine g_iload F dX0_leastCrowdAt_6 rfl ?_
    refine g_bipush F (nI 120) dX0_leastCrowdAt_8 (by decide) ?_
    refine g_icmp_ge_t F 69 dX0_leastCrowdAt_10 (by decide) (nI_le (Nat.le_refl 120) (by decide)) ?_
    refine g_iload F dX0_leastCrowdAt_69 rfl ?_
    exact E _ _ _ _ dX0_leastCrowdAt_71 ⟨rfl, by rw [lcs1_eq]⟩
  · show GG (EE l D t) X 0 0 6 [(0, .ref (a 0)), (1, .int p1), (2, .int p2), (3, .long (lN r0)), (5, .int (oI (lcs co cr (fun q => gapN wy (x q) (y q) p1 p2) r0 i))), (6, .int (nI i))] [] (WX a t w x y wy re de co cr cc sr so cf ck ng nw cs se)
    refine g_iload F dX0_leastCrowdAt_6 rfl ?_
    refine g_bipush F (nI 120) dX0_leastCrowdAt_8 (by decide) ?_
    refine g_icmp_ge_f F 69 dX0_leastCrowdAt_10 (by decide) (nI_ge hi (by decide)) ?_
    refine g_aload_n F dX0_leastCrowdAt_13 rfl rfl ?_
    refine gX_get_core F dX0_leastCrowdAt_14 ?_
    refine g_iload F dX0_leastCrowdAt_17 rfl ?_
    refine gX_ld_core F hi dX0_leastCrowdAt_19 ?_
    refine g_if_eq_b F 63 dX0_leastCrowdAt_20 (by decide)  (fun h => ?_) (fun h => ?_)
    · refine g_iinc (lv2 := [(0, .ref (a 0)), (1, .int p1), (2, .int p2), (3, .long (lN r0)), (5, .int (oI (lcs co cr (fun q => gapN wy (x q) (y q) p1 p2) r0 i))), (6, .int (nI (i + 1)))]) F (nI (i + 1)) dX0_leastCrowdAt_63 rfl (nI_add i 1) (by decide) rfl ?_
      refine g_goto F 6 dX0_leastCrowdAt_66 (by decide) ?_
      rw [lcs_keep (co := co) (cr := cr) (g := (fun q => gapN wy (x q) (y q) p1 p2)) (r := r0) (n := i) (fun z => absurd z (by simp [h]))] at ih
      exact ih
    · obtain ⟨k, hk, hk2⟩ := hcr i hi h
      have hl := lcs_lt (g := (fun q => gapN wy (x q) (y q) p1 p2)) (r := r0) hcr i (by omega)
      refine g_iload F dX0_leastCrowdAt_23 rfl ?_
      refine g_iconst F (oI none) dX0_leastCrowdAt_25 (by decide) ?_
      refine g_icmp_eq_o F 41 dX0_leastCrowdAt_26 (by decide) (fun z hz => by have := hl z hz; omega) (fun h2 => ?_) (fun h2 => ?_)
      · refine g_aload_n F dX0_leastCrowdAt_41 rfl rfl ?_
        refine g_iload F dX0_leastCrowdAt_42 rfl ?_
        refine g_iload_n F dX0_leastCrowdAt_44 rfl rfl ?_
        refine g_iload_n F dX0_leastCrowdAt_45 rfl rfl ?_
        refine c_VL F [] (wr := []) (cX_gapTo hf.2.2.2.1 hi p1 p2) cwX0_X0_gapTo ⟨by decide, by decide, rfl, rfl⟩ rfl rfl rfl rfl (Nat.le_of_ble_eq_true rfl) ⟨by decide, by decide⟩ dX0_leastCrowdAt_46 (fun r u hu => ?_)
        obtain ⟨rfl, rfl⟩ := hu
        show GG (EE l D t) X 0 0 49 [(0, .ref (a 0)), (1, .int p1), (2, .int p2), (3, .long (lN r0)), (5, .int (oI (lcs co cr (fun q => gapN wy (x q) (y q) p1 p2) r0 i))), (6, .int (nI i))] [.long (lN (gapN wy (x i) (y i) p1 p2))] (WX a t w x y wy re de co cr cc sr so cf ck ng nw cs se)
        refine g_lload_n F dX0_leastCrowdAt_49 rfl rfl ?_
        refine g_lc_gt_n F 63 dX0_leastCrowdAt_50 dX0_leastCrowdAt_51 (by decide) (Nat.lt_of_lt_of_le (gapN_lt wy (hf.2.1 i) (hf.2.2.1 i) hp1 hp2) (by decide)) hr (fun h4 => ?_) (fun h4 => ?_)
        · refine g_iinc (lv2 := [(0, .ref (a 0)), (1, .int p1), (2, .int p2), (3, .long (lN r0)), (5, .int (oI (lcs co cr (fun q => gapN wy (x q) (y q) p1 p2) r0 i))), (6, .int (nI (i + 1)))]) F (nI (i + 1)) dX0_leastCrowdAt_63 rfl (nI_add i 1) (by decide) rfl ?_
          refine g_goto F 6 dX0_leastCrowdAt_66 (by decide) ?_
          rw [lcs_keep (co := co) (cr := cr) (g := (fun q => gapN wy (x q) (y q) p1 p2)) (r := r0) (n := i) (fun _ z => absurd z (by show ¬ gapN wy (x i) (y i) p1 p2 ≤ r0; omega))] at ih
          exact ih
        · refine g_aload_n F dX0_leastCrowdAt_54 rfl rfl ?_
          refine gX_get_crowdOf F dX0_leastCrowdAt_55 ?_
          refine g_iload F dX0_leastCrowdAt_58 rfl ?_
          refine gX_ld_crowdOf F hi dX0_leastCrowdAt_60 ?_
          refine g_istore (lv2 := [(0, .ref (a 0)), (1, .int p1), (2, .int p2), (3, .long (lN r0)), (5, .int (oI (cr i))), (6, .int (nI i))]) F dX0_leastCrowdAt_61 (by decide) rfl ?_
          refine g_iinc (lv2 := [(0, .ref (a 0)), (1, .int p1), (2, .int p2), (3, .long (lN r0)), (5, .int (oI (cr i))), (6, .int (nI (i + 1)))]) F (nI (i + 1)) dX0_leastCrowdAt_63 rfl (nI_add i 1) (by decide) rfl ?_
          refine g_goto F 6 dX0_leastCrowdAt_66 (by decide) ?_
          rw [lcs_new (co := co) (cr := cr) (g := (fun q => gapN wy (x q) (y q) p1 p2)) (r := r0) (n := i) h h4, h2, show minO none (cr i) = cr i from rfl] at ih
          exact ih
      · obtain ⟨b0, hb0⟩ := Option.ne_none_iff_exists'.mp h2
        have hb1 := hl b0 hb0
        refine g_aload_n F dX0_leastCrowdAt_29 rfl rfl ?_
        refine gX_get_crowdOf F dX0_leastCrowdAt_30 ?_
        refine g_iload F dX0_leastCrowdAt_33 rfl ?_
        refine gX_ld_crowdOf F hi dX0_leastCrowdAt_35 ?_
        refine g_iload F dX0_leastCrowdAt_36 rfl ?_
        refine g_eq (lv' := [(0, .ref (a 0)), (1, .int p1), (2, .int p2), (3, .long (lN r0)), (5, .int (oI (lcs co cr (fun q => gapN wy (x q) (y q) p1 p2) r0 i))), (6, .int (nI i))]) (st' := [.int (nI b0), .int (nI k)]) ?_ rfl rfl (by rw [hk, hb0]; rfl) rfl
        refine g_icmp_ge_n F 63 dX0_leastCrowdAt_38 (by decide) (by omega) (by omega) (fun h3 => ?_) (fun h3 => ?_)
        · refine g_iinc (lv2 := [(0, .ref (a 0)), (1, .int p1), (2, .int p2), (3, .long (lN r0)), (5, .int (oI (lcs co cr (fun q => gapN wy (x q) (y q) p1 p2) r0 i))), (6, .int (nI (i + 1)))]) F (nI (i + 1)) dX0_leastCrowdAt_63 rfl (nI_add i 1) (by decide) rfl ?_
          refine g_goto F 6 dX0_leastCrowdAt_66 (by decide) ?_
          rw [lcs_keep (co := co) (cr := cr) (g := (fun q => gapN wy (x q) (y q) p1 p2)) (r := r0) (n := i) (fun _ _ => by rw [hb0, hk]; exact congrArg some (Nat.min_eq_left h3))] at ih
          exact ih
        · refine g_aload_n F dX0_leastCrowdAt_41 rfl rfl ?_
          refine g_iload F dX0_leastCrowdAt_42 rfl ?_
          refine g_iload_n F dX0_leastCrowdAt_44 rfl rfl ?_
          refine g_iload_n F dX0_leastCrowdAt_45 rfl rfl ?_
          refine c_VL F [] (wr := []) (cX_gapTo hf.2.2.2.1 hi p1 p2) cwX0_X0_gapTo ⟨by decide, by decide, rfl, rfl⟩ rfl rfl rfl rfl (Nat.le_of_ble_eq_true rfl) ⟨by decide, by decide⟩ dX0_leastCrowdAt_46 (fun r u hu => ?_)
          obtain ⟨rfl, rfl⟩ := hu
          show GG (EE l D t) X 0 0 49 [(0, .ref (a 0)), (1, .int p1), (2, .int p2), (3, .long (lN r0)), (5, .int (oI (lcs co cr (fun q => gapN wy (x q) (y q) p1 p2) r0 i))), (6, .int (nI i))] [.long (lN (gapN wy (x i) (y i) p1 p2))] (WX a t w x y wy re de co cr cc sr so cf ck ng nw cs se)
          refine g_lload_n F dX0_leastCrowdAt_49 rfl rfl ?_
          refine g_lc_gt_n F 63 dX0_leastCrowdAt_50 dX0_leastCrowdAt_51 (by decide) (Nat.lt_of_lt_of_le (gapN_lt wy (hf.2.1 i) (hf.2.2.1 i) hp1 hp2) (by decide)) hr (fun h4 => ?_) (fun h4 => ?_)
          · refine g_iinc (lv2 := [(0, .ref (a 0)), (1, .int p1), (2, .int p2), (3, .long (lN r0)), (5, .int (oI (lcs co cr (fun q => gapN wy (x q) (y q) p1 p2) r0 i))), (6, .int (nI (i + 1)))]) F (nI (i + 1)) dX0_leastCrowdAt_63 rfl (nI_add i 1) (by decide) rfl ?_
            refine g_goto F 6 dX0_leastCrowdAt_66 (by decide) ?_
            rw [lcs_keep (co := co) (cr := cr) (g := (fun q => gapN wy (x q) (y q) p1 p2)) (r := r0) (n := i) (fun _ z => absurd z (by show ¬ gapN wy (x i) (y i) p1 p2 ≤ r0; omega))] at ih
            exact ih
          · refine g_aload_n F dX0_leastCrowdAt_54 rfl rfl ?_
            refine gX_get_crowdOf F dX0_leastCrowdAt_55 ?_
            refine g_iload F dX0_leastCrowdAt_58 rfl ?_
            refine gX_ld_crowdOf F hi dX0_leastCrowdAt_60 ?_
            refine g_istore (lv2 := [(0, .ref (a 0)), (1, .int p1), (2, .int p2), (3, .long (lN r0)), (5, .int (oI (cr i))), (6, .int (nI i))]) F dX0_leastCrowdAt_61 (by decide) rfl ?_
            refine g_iinc (lv2 := [(0, .ref (a 0)), (1, .int p1), (2, .int p2), (3, .long (lN r0)), (5, .int (oI (cr i))), (6, .int (nI (i + 1)))]) F (nI (i + 1)) dX0_leastCrowdAt_63 rfl (nI_add i 1) (by decide) rfl ?_
            refine g_goto F 6 dX0_leastCrowdAt_66 (by decide) ?_
            rw [lcs_new (co := co) (cr := cr) (g := (fun q => gapN wy (x q) (y q) p1 p2)) (r := r0) (n := i) h h4, hb0, show minO (some b0) (cr i) = cr i from by rw [hk]; exact congrArg some (Nat.min_eq_right (by omega))] at ih
            exact ih
set_option maxHeartbeats 4000000 in
set_option maxRecDepth 100000 in
/-- joinBorders -/
theorem cX_joinBorders {l : Launch} {D : va_G} {t : Ty3} {a : Nat → Nat} {w : Nat → Nat} {x : Nat → Int32} {y : Nat → Int32} {wy : Nat} {re : Nat} {de : Nat} {co : Nat → Bool} {cr : Nat → Option Nat} {cc : Nat} {sr : Nat} {so : Bool} {cf : Nat → Option Nat} {ck : Bool} {ng : Nat → Nat} {nw : Nat → Nat} {cs : Nat → Nat} {se : Nat → Bool} (hf : WFp w x y wy re de) (hcr : ∀ q, q < 120 → co q = true → ∃ k, cr q = some k ∧ k < 120) {r0 : Nat} (hr : r0 < 2 ^ 63) : CtV (EE l D t) yX0_joinBorders tsX0_joinBorders (RM 3 76) [.ref (a 0), .long (lN r0)] (WX a t w x y wy re de co cr cc sr so cf ck ng nw cs se) 0 0 (fun u => u = WX a t w x y wy re de co (fill cr (jB w co cr (fun p q => gapN wy (x q) (y q) (x p) (y p)) r0) 120) cc sr so cf ck ng nw cs se) := by
  refine CtV.of (by decide +kernel) rfl (Nat.le_of_ble_eq_true rfl) (fun X F E => ?_)
  show GG (EE l D t) X 0 0 0 [(0, .ref (a 0)), (1, .long (lN r0))] [] (WX a t w x y wy re de co cr cc sr so cf ck ng nw cs se)
  refine g_iconst F (nI 0) dX0_joinBorders_0 (by decide) ?_
  refine g_istore_n (lv2 := [(0, .ref (a 0)), (1, .long (lN r0)), (3, .int (nI 0))]) F dX0_joinBorders_1 rfl (by decide) rfl ?_
  have e0 : WX a t w x y wy re de co (fill cr (jB w co cr (fun p q => gapN wy (x q) (y q) (x p) (y p)) r0) 0) cc sr so cf ck ng nw cs se = WX a t w x y wy re de co cr cc sr so cf ck ng nw cs se := by rw [fill_0]
  rw [← e0]
  refine up_loop (P := fun i => GG (EE l D t) X 0 0 2 [(0, .ref (a 0)), (1, .long (lN r0)), (3, .int (nI i))] [] (WX a t w x y wy re de co (fill cr (jB w co cr (fun p q => gapN wy (x q) (y q) (x p) (y p)) r0) i) cc sr so cf ck ng nw cs se)) 120 ?_ (fun i hi ih => ?_)
  · show GG (EE l D t) X 0 0 2 [(0, .ref (a 0)), (1, .long (lN r0)), (3, .int (nI 120))] [] (WX a t w x y wy re de co (fill cr (jB w co cr (fun p q => gapN wy (x q) (y q) (x p) (y p)) r0) 120) cc sr so cf ck ng nw cs se)
    refine g_iload_n F dX0_joinBorders_2 rfl rfl ?_
    refine g_bipush F (nI 120) dX0_joinBorders_3 (by decide) ?_
    refine g_icmp_ge_t F 55 dX0_joinBorders_5 (by decide) (nI_le (Nat.le_refl 120) (by decide)) ?_
    exact E _ _ _ dX0_joinBorders_55 rfl
  · show GG (EE l D t) X 0 0 2 [(0, .ref (a 0)), (1, .long (lN r0)), (3, .int (nI i))] [] (WX a t w x y wy re de co (fill cr (jB w co cr (fun p q => gapN wy (x q) (y q) (x p) (y p)) r0) i) cc sr so cf ck ng nw cs se)
    refine g_iload_n F dX0_joinBorders_2 rfl rfl ?_
    refine g_bipush F (nI 120) dX0_joinBorders_3 (by decide) ?_
    refine g_icmp_ge_f F 55 dX0_joinBorders_5 (by decide) (nI_ge hi (by decide)) ?_
    refine g_aload_n F dX0_joinBorders_8 rfl rfl ?_
    refine gX_get_weights F dX0_joinBorders_9 ?_
    refine g_iload_n F dX0_joinBorders_12 rfl rfl ?_
    refine gX_ld_weights F hi dX0_joinBorders_13 ?_
    refine g_if_le_n F 49 dX0_joinBorders_14 (by decide) (by have := hf.1 i; omega) (fun h => ?_) (fun h => ?_)
    · refine g_iinc (lv2 := [(0, .ref (a 0)), (1, .long (lN r0)), (3, .int (nI (i + 1)))]) F (nI (i + 1)) dX0_joinBorders_49 rfl (nI_add i 1) (by decide) rfl ?_
      refine g_goto F 2 dX0_joinBorders_52 (by decide) ?_
      rw [fill_same (f := cr) (g := (jB w co cr (fun p q => gapN wy (x q) (y q) (x p) (y p)) r0)) (by unfold jB; rw [if_neg (by omega)])] at ih
      exact ih
    · refine g_aload_n F dX0_joinBorders_17 rfl rfl ?_
      refine gX_get_core F dX0_joinBorders_18 ?_
      refine g_iload_n F dX0_joinBorders_21 rfl rfl ?_
      refine gX_ld_core F hi dX0_joinBorders_22 ?_
      refine g_if_ne_b F 49 dX0_joinBorders_23 (by decide)  (fun h2 => ?_) (fun h2 => ?_)
      · refine g_iinc (lv2 := [(0, .ref (a 0)), (1, .long (lN r0)), (3, .int (nI (i + 1)))]) F (nI (i + 1)) dX0_joinBorders_49 rfl (nI_add i 1) (by decide) rfl ?_
        refine g_goto F 2 dX0_joinBorders_52 (by decide) ?_
        rw [fill_same (f := cr) (g := (jB w co cr (fun p q => gapN wy (x q) (y q) (x p) (y p)) r0)) (by unfold jB; rw [if_neg (by simp [h2])])] at ih
        exact ih
      · have hq : ∀ q, q < 120 → co q = true → fill cr (jB w co cr (fun p q => gapN wy (x q) (y q) (x p) (y p)) r0) i q = cr q := fun q _ hq => by unfold fill jB; split <;> simp [hq]
        refine g_aload_n F dX0_joinBorders_26 rfl rfl ?_
        refine gX_get_crowdOf F dX0_joinBorders_27 ?_
        refine g_iload_n F dX0_joinBorders_30 rfl rfl ?_
        refine g_aload_n F dX0_joinBorders_31 rfl rfl ?_
        refine g_aload_n F dX0_joinBorders_32 rfl rfl ?_
        refine gX_get_xs F dX0_joinBorders_33 ?_
        refine g_iload_n F dX0_joinBorders_36 rfl rfl ?_
        refine gX_ld_xs F hi dX0_joinBorders_37 ?_
        refine g_aload_n F dX0_joinBorders_38 rfl rfl ?_
        refine gX_get_ys F dX0_joinBorders_39 ?_
        refine g_iload_n F dX0_joinBorders_42 rfl rfl ?_
        refine gX_ld_ys F hi dX0_joinBorders_43 ?_
        refine g_lload_n F dX0_joinBorders_44 rfl rfl ?_
        refine c_VI F [.int (nI i), .ref (a 5)] (wr := []) (cX_leastCrowdAt hf (fun q h1 h2 => by rw [hq q h1 h2]; exact hcr q h1 h2) (hf.2.1 i) (hf.2.2.1 i) hr) cwX0_X0_leastCrowdAt ⟨by decide, by decide, rfl, rfl⟩ rfl rfl rfl rfl (Nat.le_of_ble_eq_true rfl) ⟨by decide, by decide⟩ dX0_joinBorders_45 (fun r u hu => ?_)
        obtain ⟨rfl, rfl⟩ := hu
        show GG (EE l D t) X 0 0 48 [(0, .ref (a 0)), (1, .long (lN r0)), (3, .int (nI i))] [.int (oI (lcs1 co (fill cr (jB w co cr (fun p q => gapN wy (x q) (y q) (x p) (y p)) r0) i) (fun q => gapN wy (x q) (y q) (x i) (y i)) r0)), .int (nI i), .ref (a 5)] (WX a t w x y wy re de co (fill cr (jB w co cr (fun p q => gapN wy (x q) (y q) (x p) (y p)) r0) i) cc sr so cf ck ng nw cs se)
        refine g_topi (y := oI (lcs1 co cr (fun q => gapN wy (x q) (y q) (x i) (y i)) r0)) (congrArg oI (by rw [lcs1_eq, lcs1_eq]; exact lcs_congr 120 hq)) ?_
        refine gX_st_crowdOf F hi dX0_joinBorders_48 ?_
        refine g_iinc (lv2 := [(0, .ref (a 0)), (1, .long (lN r0)), (3, .int (nI (i + 1)))]) F (nI (i + 1)) dX0_joinBorders_49 rfl (nI_add i 1) (by decide) rfl ?_
        refine g_goto F 2 dX0_joinBorders_52 (by decide) ?_
        rw [fill_up (f := cr) (g := (jB w co cr (fun p q => gapN wy (x q) (y q) (x p) (y p)) r0)) (v := lcs1 co cr (fun q => gapN wy (x q) (y q) (x i) (y i)) r0) (by unfold jB; rw [if_pos ⟨h, h2⟩])] at ih
        exact ih
