set_option maxHeartbeats 4000000 in
set_option maxRecDepth 100000 in
/-- lastGap -/
theorem cX_lastGap {l : Launch} {D : va_G} {t : Ty3} {a : Nat → Nat} {w : Nat → Nat} {x : Nat → Int32} {y : Nat → Int32} {wy : Nat} {re : Nat} {de : Nat} {co : Nat → Bool} {cr : Nat → Option Nat} {cc : Nat} {sr : Nat} {so : Bool} {cf : Nat → Option Nat} {ck : Bool} {ng : Nat → Nat} {nw : Nat → Nat} {cs : Nat → Nat} {se : Nat → Bool} {k : Nat} (hk : 0 < k) (hk2 : k ≤ 120) : CtL (EE l D t) yX0_lastGap tsX0_lastGap (RM 0 0) [.ref (a 0), .int (nI k)] (WX a t w x y wy re de co cr cc sr so cf ck ng nw cs se) 0 0 (fun r u => u = WX a t w x y wy re de co cr cc sr so cf ck ng nw cs se ∧ r = lN (ng (k - 1))) := by
  refine CtL.of (by decide +kernel) rfl (Nat.le_of_ble_eq_true rfl) (fun X F E => ?_)
  show GG (EE l D t) X 0 0 0 [(0, .ref (a 0)), (1, .int (nI k))] [] (WX a t w x y wy re de co cr cc sr so cf ck ng nw cs se)
  refine g_iload_n F dX0_lastGap_0 rfl rfl ?_
  refine g_if_le_f F 15 dX0_lastGap_1 (by decide) (nI_nle (by omega) (by omega)) ?_
  refine g_aload_n F dX0_lastGap_4 rfl rfl ?_
  refine gX_get_nearGap F dX0_lastGap_5 ?_
  refine g_iload_n F dX0_lastGap_8 rfl rfl ?_
  refine g_iconst F (nI 1) dX0_lastGap_9 (by decide) ?_
  refine g_isub_n F dX0_lastGap_10 (show 1 ≤ k from hk) ?_
  refine gX_ld_nearGap F (by omega) dX0_lastGap_11 ?_
  refine g_goto F 18 dX0_lastGap_12 (by decide) ?_
  exact E _ _ _ _ dX0_lastGap_18 ⟨rfl, rfl⟩
set_option maxHeartbeats 4000000 in
set_option maxRecDepth 100000 in
/-- keepNear -/
theorem cX_keepNear {l : Launch} {D : va_G} {t : Ty3} {a : Nat → Nat} {w : Nat → Nat} {x : Nat → Int32} {y : Nat → Int32} {wy : Nat} {re : Nat} {de : Nat} {co : Nat → Bool} {cr : Nat → Option Nat} {cc : Nat} {sr : Nat} {so : Bool} {cf : Nat → Option Nat} {ck : Bool} {ng : Nat → Nat} {nw : Nat → Nat} {cs : Nat → Nat} {se : Nat → Bool} (hb : bdN ng nw) {k gap wt : Nat} (hk : k < 120) (hgap : gap < MX) (hwt : wt ≤ 20) (hs : srtN ng k) : CtI (EE l D t) yX0_keepNear tsX0_keepNear (RM 0 0) [.ref (a 0), .int (nI k), .long (lN gap), .int (nI wt)] (WX a t w x y wy re de co cr cc sr so cf ck ng nw cs se) 0 0 (fun r u => ∃ ng2 nw2, u = WX a t w x y wy re de co cr cc sr so cf ck ng2 nw2 cs se ∧ r = nI (k + 1) ∧ InsR ng nw ng2 nw2 k gap wt ∧ bdN ng2 nw2) := by
  refine CtI.of (by decide +kernel) rfl (Nat.le_of_ble_eq_true rfl) (fun X F E => ?_)
  show GG (EE l D t) X 0 0 0 [(0, .ref (a 0)), (1, .int (nI k)), (2, .long (lN gap)), (4, .int (nI wt))] [] (WX a t w x y wy re de co cr cc sr so cf ck ng nw cs se)
  refine g_iload_n F dX0_keepNear_0 rfl rfl ?_
  refine g_bipush F (nI 120) dX0_keepNear_1 (by decide) ?_
  refine g_icmp_lt_t F 8 dX0_keepNear_3 (by decide) (nI_lt hk (by decide)) ?_
  refine g_iload_n F dX0_keepNear_8 rfl rfl ?_
  refine g_istore (lv2 := [(0, .ref (a 0)), (1, .int (nI k)), (2, .long (lN gap)), (4, .int (nI wt)), (5, .int (nI k))]) F dX0_keepNear_9 (by decide) rfl ?_
  have key : ∀ (z : Nat) (g1 n1 : Nat → Nat), z ≤ k → (∀ i, i < z → g1 i = ng i ∧ n1 i = nw i) → (∀ i, z ≤ i → i < k → (g1 (i + 1) = ng i ∧ n1 (i + 1) = nw i) ∧ gap < ng i) → bdN g1 n1 → GG (EE l D t) X 0 0 11 [(0, .ref (a 0)), (1, .int (nI k)), (2, .long (lN gap)), (4, .int (nI wt)), (5, .int (nI z))] [] (WX a t w x y wy re de co cr cc sr so cf ck g1 n1 cs se) := by
    intro z
    induction z with
    | zero =>
      intro g1 n1 hz h1 h2 hb
      refine g_iload F dX0_keepNear_11 rfl ?_
      refine g_if_le_t F 68 dX0_keepNear_13 (by decide) (by decide) ?_
      refine g_aload_n F dX0_keepNear_68 rfl rfl ?_
      refine gX_get_nearGap F dX0_keepNear_69 ?_
      refine g_iload F dX0_keepNear_72 rfl ?_
      refine g_lload_n F dX0_keepNear_74 rfl rfl ?_
      refine gX_st_nearGap F (by omega) dX0_keepNear_75 ?_
      refine g_aload_n F dX0_keepNear_76 rfl rfl ?_
      refine gX_get_nearWeight F dX0_keepNear_77 ?_
      refine g_iload F dX0_keepNear_80 rfl ?_
      refine g_iload F dX0_keepNear_82 rfl ?_
      refine gX_st_nearWeight F (by omega) dX0_keepNear_84 ?_
      refine g_iload_n F dX0_keepNear_85 rfl rfl ?_
      refine g_iconst F (nI 1) dX0_keepNear_86 (by decide) ?_
      refine g_iadd_n F dX0_keepNear_87 ?_
      exact E _ _ _ _ dX0_keepNear_88 ⟨_, _, rfl, rfl, ⟨0, hz, fun i hi => ⟨by rw [up_n (by omega)]; exact (h1 i hi).1, by rw [up_n (by omega)]; exact (h1 i hi).2⟩, up_s, up_s, fun i hi hi2 => ⟨by rw [up_n (by omega)]; exact (h2 i hi hi2).1.1, by rw [up_n (by omega)]; exact (h2 i hi hi2).1.2⟩, fun i hi => absurd hi (by omega), fun i hi hi2 => (h2 i hi hi2).2⟩, up_bd hb.1 hgap, up_le hb.2 hwt⟩
    | succ z ih =>
      intro g1 n1 hz h1 h2 hb
      refine g_iload F dX0_keepNear_11 rfl ?_
      refine g_if_le_f F 68 dX0_keepNear_13 (by decide) (nI_nle (by omega) (by omega)) ?_
      refine g_aload_n F dX0_keepNear_16 rfl rfl ?_
      refine gX_get_nearGap F dX0_keepNear_17 ?_
      refine g_iload F dX0_keepNear_20 rfl ?_
      refine g_iconst F (nI 1) dX0_keepNear_22 (by decide) ?_
      refine g_isub_n F dX0_keepNear_23 (by omega) ?_
      show GG (EE l D t) X 0 0 24 [(0, .ref (a 0)), (1, .int (nI k)), (2, .long (lN gap)), (4, .int (nI wt)), (5, .int (nI (z + 1)))] [.int (nI z), .ref (a 7)] (WX a t w x y wy re de co cr cc sr so cf ck g1 n1 cs se)
      refine gX_ld_nearGap F (by omega) dX0_keepNear_24 ?_
      refine g_lload_n F dX0_keepNear_25 rfl rfl ?_
      refine g_lc_le_n F 68 dX0_keepNear_26 dX0_keepNear_27 (by decide) (Nat.lt_trans (hb.1 z) (by decide)) (Nat.lt_trans hgap (by decide)) (fun h => ?_) (fun h => ?_)
      · refine g_aload_n F dX0_keepNear_68 rfl rfl ?_
        refine gX_get_nearGap F dX0_keepNear_69 ?_
        refine g_iload F dX0_keepNear_72 rfl ?_
        refine g_lload_n F dX0_keepNear_74 rfl rfl ?_
        refine gX_st_nearGap F (by omega) dX0_keepNear_75 ?_
        refine g_aload_n F dX0_keepNear_76 rfl rfl ?_
        refine gX_get_nearWeight F dX0_keepNear_77 ?_
        refine g_iload F dX0_keepNear_80 rfl ?_
        refine g_iload F dX0_keepNear_82 rfl ?_
        refine gX_st_nearWeight F (by omega) dX0_keepNear_84 ?_
        refine g_iload_n F dX0_keepNear_85 rfl rfl ?_
        refine g_iconst F (nI 1) dX0_keepNear_86 (by decide) ?_
        refine g_iadd_n F dX0_keepNear_87 ?_
        exact E _ _ _ _ dX0_keepNear_88 ⟨_, _, rfl, rfl, ⟨z + 1, hz, fun i hi => ⟨by rw [up_n (by omega)]; exact (h1 i hi).1, by rw [up_n (by omega)]; exact (h1 i hi).2⟩, up_s, up_s, fun i hi hi2 => ⟨by rw [up_n (by omega)]; exact (h2 i hi hi2).1.1, by rw [up_n (by omega)]; exact (h2 i hi hi2).1.2⟩, fun i hi => by have e := (h1 z (by omega)).1; have := hs i z (by omega) (by omega); omega, fun i hi hi2 => (h2 i hi hi2).2⟩, up_bd hb.1 hgap, up_le hb.2 hwt⟩
      · refine g_aload_n F dX0_keepNear_30 rfl rfl ?_
        refine gX_get_nearGap F dX0_keepNear_31 ?_
        refine g_iload F dX0_keepNear_34 rfl ?_
        refine g_aload_n F dX0_keepNear_36 rfl rfl ?_
        refine gX_get_nearGap F dX0_keepNear_37 ?_
        refine g_iload F dX0_keepNear_40 rfl ?_
        refine g_iconst F (nI 1) dX0_keepNear_42 (by decide) ?_
        refine g_isub_n F dX0_keepNear_43 (by omega) ?_
        show GG (EE l D t) X 0 0 44 [(0, .ref (a 0)), (1, .int (nI k)), (2, .long (lN gap)), (4, .int (nI wt)), (5, .int (nI (z + 1)))] [.int (nI z), .ref (a 7), .int (nI (z + 1)), .ref (a 7)] (WX a t w x y wy re de co cr cc sr so cf ck g1 n1 cs se)
        refine gX_ld_nearGap F (by omega) dX0_keepNear_44 ?_
        refine gX_st_nearGap F (by omega) dX0_keepNear_45 ?_
        refine g_aload_n F dX0_keepNear_46 rfl rfl ?_
        refine gX_get_nearWeight F dX0_keepNear_47 ?_
        refine g_iload F dX0_keepNear_50 rfl ?_
        refine g_aload_n F dX0_keepNear_52 rfl rfl ?_
        refine gX_get_nearWeight F dX0_keepNear_53 ?_
        refine g_iload F dX0_keepNear_56 rfl ?_
        refine g_iconst F (nI 1) dX0_keepNear_58 (by decide) ?_
        refine g_isub_n F dX0_keepNear_59 (by omega) ?_
        show GG (EE l D t) X 0 0 60 [(0, .ref (a 0)), (1, .int (nI k)), (2, .long (lN gap)), (4, .int (nI wt)), (5, .int (nI (z + 1)))] [.int (nI z), .ref (a 8), .int (nI (z + 1)), .ref (a 8)] (WX a t w x y wy re de co cr cc sr so cf ck (up g1 (z + 1) (g1 z)) n1 cs se)
        refine gX_ld_nearWeight F (by omega) dX0_keepNear_60 ?_
        refine gX_st_nearWeight F (by omega) dX0_keepNear_61 ?_
        refine g_iinc (lv2 := [(0, .ref (a 0)), (1, .int (nI k)), (2, .long (lN gap)), (4, .int (nI wt)), (5, .int (nI z))]) F (nI z) dX0_keepNear_62 rfl nI_dec (by decide) rfl ?_
        refine g_goto F 11 dX0_keepNear_65 (by decide) ?_
        refine ih _ _ (by omega) (fun i hi => ⟨by rw [up_n (by omega)]; exact (h1 i (by omega)).1, by rw [up_n (by omega)]; exact (h1 i (by omega)).2⟩) (fun i hi hi2 => ?_) ⟨up_bd hb.1 (hb.1 z), up_le hb.2 (hb.2 z)⟩
        by_cases e : i = z
        · subst e
          rw [up_s, up_s, (h1 i (by omega)).1, (h1 i (by omega)).2]
          exact ⟨⟨rfl, rfl⟩, by have := (h1 i (by omega)).1; omega⟩
        · rw [up_n (by omega), up_n (by omega)]
          exact h2 i (by omega) hi2
  exact key k ng nw (Nat.le_refl k) (fun i _ => ⟨rfl, rfl⟩) (fun i a b => absurd b (by omega)) hb
set_option maxHeartbeats 4000000 in
set_option maxRecDepth 100000 in
/-- leastReachAsCore -/
theorem cX_leastReachAsCore {l : Launch} {D : va_G} {t : Ty3} {a : Nat → Nat} {w : Nat → Nat} {x : Nat → Int32} {y : Nat → Int32} {wy : Nat} {re : Nat} {de : Nat} {co : Nat → Bool} {cr : Nat → Option Nat} {cc : Nat} {sr : Nat} {so : Bool} {cf : Nat → Option Nat} {ck : Bool} {ng : Nat → Nat} {nw : Nat → Nat} {cs : Nat → Nat} {se : Nat → Bool} (hf : WFp w x y wy re de) (hb : bdN ng nw) {p : Nat} (hp : p < 120) : CtL (EE l D t) yX0_leastReachAsCore tsX0_leastReachAsCore (RM 3 72) [.ref (a 0), .int (nI p)] (WX a t w x y wy re de co cr cc sr so cf ck ng nw cs se) 0 0 (fun r u => ∃ ng2 nw2 o, u = WX a t w x y wy re de co cr cc sr so cf ck ng2 nw2 cs se ∧ bdN ng2 nw2 ∧ r = oL o ∧ isDn w (gp wy x y p) de o ∧ ∀ d, o = some d → d < MX) := by
  refine CtL.of (by decide +kernel) rfl (Nat.le_of_ble_eq_true rfl) (fun X F E => ?_)
  show GG (EE l D t) X 0 0 0 [(0, .ref (a 0)), (1, .int (nI p))] [] (WX a t w x y wy re de co cr cc sr so cf ck ng nw cs se)
  refine g_iconst F (nI 0) dX0_leastReachAsCore_0 (by decide) ?_
  refine g_istore_n (lv2 := [(0, .ref (a 0)), (1, .int (nI p)), (2, .int (nI 0))]) F dX0_leastReachAsCore_1 rfl (by decide) rfl ?_
  refine g_iconst F (nI 0) dX0_leastReachAsCore_2 (by decide) ?_
  refine g_istore_n (lv2 := [(0, .ref (a 0)), (1, .int (nI p)), (2, .int (nI 0)), (3, .int (nI 0))]) F dX0_leastReachAsCore_3 rfl (by decide) rfl ?_
  refine g_iconst F (nI 0) dX0_leastReachAsCore_4 (by decide) ?_
  refine g_istore (lv2 := [(0, .ref (a 0)), (1, .int (nI p)), (2, .int (nI 0)), (3, .int (nI 0)), (4, .int (nI 0))]) F dX0_leastReachAsCore_5 (by decide) rfl ?_
  have hd : 1 ≤ de := hf.2.2.2.2.2.1
  have hd2 : de ≤ 2400 := hf.2.2.2.2.2.2
  have key : ∀ (m i k b : Nat) (g1 n1 : Nat → Nat), i + m = 120 → dI w (gp wy x y p) de i k b g1 n1 → bdN g1 n1 → GG (EE l D t) X 0 0 7 [(0, .ref (a 0)), (1, .int (nI p)), (2, .int (nI k)), (3, .int (nI b)), (4, .int (nI i))] [] (WX a t w x y wy re de co cr cc sr so cf ck g1 n1 cs se) := by
    intro m
    induction m with
    | zero =>
      intro i k b g1 n1 him hI hb
      have hi : i = 120 := by omega
      subst hi
      have hk : k ≤ 120 := hI.1.1
      have hb20 : b ≤ 2400 := by
        have e := hI.1.2.1
        have e2 := sumN_le hb.2 k
        have e3 : k * 20 ≤ 120 * 20 := Nat.mul_le_mul_right 20 (by omega)
        omega
      refine g_iload F dX0_leastReachAsCore_7 rfl ?_
      refine g_bipush F (nI 120) dX0_leastReachAsCore_9 (by decide) ?_
      refine g_icmp_ge_t F 125 dX0_leastReachAsCore_11 (by decide) (nI_le (Nat.le_refl 120) (by decide)) ?_
      refine g_iload_n F dX0_leastReachAsCore_125 rfl rfl ?_
      refine g_aload_n F dX0_leastReachAsCore_126 rfl rfl ?_
      refine gX_get_demandNow F dX0_leastReachAsCore_127 ?_
      refine g_icmp_lt_n F 141 dX0_leastReachAsCore_130 (by decide) (by omega) (by omega) (fun h => ?_) (fun h => ?_)
      · refine g_ldc2 F (oL none) dX0_leastReachAsCore_141 (List.mem_cons_of_mem _ mw6_19) ?_
        exact E _ _ _ _ dX0_leastReachAsCore_144 ⟨g1, n1, none, rfl, hb, rfl, dI_none hI h, fun d hd => by cases hd⟩
      · have hk1 := d_pos hI.1 hd h
        refine g_aload_n F dX0_leastReachAsCore_133 rfl rfl ?_
        refine g_iload_n F dX0_leastReachAsCore_134 rfl rfl ?_
        refine c_VL F [] (wr := []) (cX_lastGap (by omega) (by omega)) cwX0_X0_lastGap ⟨by decide, by decide, rfl, rfl⟩ rfl rfl rfl rfl (Nat.le_of_ble_eq_true rfl) ⟨by decide, by decide⟩ dX0_leastReachAsCore_135 (fun r u hu => ?_)
        obtain ⟨rfl, rfl⟩ := hu
        show GG (EE l D t) X 0 0 138 [(0, .ref (a 0)), (1, .int (nI p)), (2, .int (nI k)), (3, .int (nI b)), (4, .int (nI 120))] [.long (lN (g1 (k - 1)))] (WX a t w x y wy re de co cr cc sr so cf ck g1 n1 cs se)
        refine g_goto F 144 dX0_leastReachAsCore_138 (by decide) ?_
        exact E _ _ _ _ dX0_leastReachAsCore_144 ⟨g1, n1, some (g1 (k - 1)), rfl, hb, rfl, dI_some hI hd h, fun d hd => by cases hd; exact hb.1 _⟩
    | succ m ih =>
      intro i k b g1 n1 him hI hb
      have hi : i < 120 := by omega
      have hk : k ≤ i := hI.1.1
      have hb20 : b ≤ 2400 := by
        have e := hI.1.2.1
        have e2 := sumN_le hb.2 k
        have e3 : k * 20 ≤ 120 * 20 := Nat.mul_le_mul_right 20 (by omega)
        omega
      refine g_iload F dX0_leastReachAsCore_7 rfl ?_
      refine g_bipush F (nI 120) dX0_leastReachAsCore_9 (by decide) ?_
      refine g_icmp_ge_f F 125 dX0_leastReachAsCore_11 (by decide) (nI_ge hi (by decide)) ?_
      refine g_aload_n F dX0_leastReachAsCore_14 rfl rfl ?_
      refine gX_get_weights F dX0_leastReachAsCore_15 ?_
      refine g_iload F dX0_leastReachAsCore_18 rfl ?_
      refine gX_ld_weights F hi dX0_leastReachAsCore_20 ?_
      refine g_if_ne_n F 27 dX0_leastReachAsCore_21 (by decide) (by have := hf.1 i; omega) (fun h => ?_) (fun h => ?_)
      · have ins : (b < de ∨ gp wy x y p i < g1 (k - 1)) → GG (EE l D t) X 0 0 58 [(0, .ref (a 0)), (1, .int (nI p)), (2, .int (nI k)), (3, .int (nI b)), (4, .int (nI i)), (5, .long (lN (gp wy x y p i)))] [] (WX a t w x y wy re de co cr cc sr so cf ck g1 n1 cs se) := by
          intro hc
          refine g_aload_n F dX0_leastReachAsCore_58 rfl rfl ?_
          refine g_iload_n F dX0_leastReachAsCore_59 rfl rfl ?_
          refine g_lload F dX0_leastReachAsCore_60 rfl ?_
          refine g_aload_n F dX0_leastReachAsCore_62 rfl rfl ?_
          refine gX_get_weights F dX0_leastReachAsCore_63 ?_
          refine g_iload F dX0_leastReachAsCore_66 rfl ?_
          refine gX_ld_weights F hi dX0_leastReachAsCore_68 ?_
          refine c_VI F [] (wr := []) (cX_keepNear hb (by omega) (gp_lt hf p i) (hf.1 i) hI.1.2.2.1) cwX0_X0_keepNear ⟨by decide, by decide, rfl, rfl⟩ rfl rfl rfl rfl (Nat.le_of_ble_eq_true rfl) ⟨by decide, by decide⟩ dX0_leastReachAsCore_69 (fun r u hu => ?_)
          obtain ⟨g2, n2, rfl, rfl, hins, hb2⟩ := hu
          show GG (EE l D t) X 0 0 72 [(0, .ref (a 0)), (1, .int (nI p)), (2, .int (nI k)), (3, .int (nI b)), (4, .int (nI i)), (5, .long (lN (gp wy x y p i)))] [.int (nI (k + 1))] (WX a t w x y wy re de co cr cc sr so cf ck g2 n2 cs se)
          refine g_istore_n (lv2 := [(0, .ref (a 0)), (1, .int (nI p)), (2, .int (nI (k + 1))), (3, .int (nI b)), (4, .int (nI i)), (5, .long (lN (gp wy x y p i)))]) F dX0_leastReachAsCore_72 rfl (by decide) rfl ?_
          refine g_iload_n F dX0_leastReachAsCore_73 rfl rfl ?_
          refine g_aload_n F dX0_leastReachAsCore_74 rfl rfl ?_
          refine gX_get_weights F dX0_leastReachAsCore_75 ?_
          refine g_iload F dX0_leastReachAsCore_78 rfl ?_
          refine gX_ld_weights F hi dX0_leastReachAsCore_80 ?_
          refine g_iadd_n F dX0_leastReachAsCore_81 ?_
          refine g_istore_n (lv2 := [(0, .ref (a 0)), (1, .int (nI p)), (2, .int (nI (k + 1))), (3, .int (nI (b + (w i)))), (4, .int (nI i)), (5, .long (lN (gp wy x y p i)))]) F dX0_leastReachAsCore_82 rfl (by decide) rfl ?_
          have trim : ∀ (k b : Nat), dT w (gp wy x y p) de (i + 1) k b g2 n2 → GG (EE l D t) X 0 0 83 [(0, .ref (a 0)), (1, .int (nI p)), (2, .int (nI k)), (3, .int (nI b)), (4, .int (nI i)), (5, .long (lN (gp wy x y p i)))] [] (WX a t w x y wy re de co cr cc sr so cf ck g2 n2 cs se) := by
            intro k
            induction k with
            | zero =>
              intro b hT
              refine g_iload_n F dX0_leastReachAsCore_83 rfl rfl ?_
              refine g_if_le_t F 119 dX0_leastReachAsCore_84 (by decide) (by decide) ?_
              refine g_iinc (lv2 := [(0, .ref (a 0)), (1, .int (nI p)), (2, .int (nI 0)), (3, .int (nI b)), (4, .int (nI (i + 1))), (5, .long (lN (gp wy x y p i)))]) F (nI (i + 1)) dX0_leastReachAsCore_119 rfl (nI_add i 1) (by decide) rfl ?_
              refine g_goto F 7 dX0_leastReachAsCore_122 (by decide) ?_
              refine g_lv [0, 1, 2, 3, 4] rfl ?_
              exact ih (i + 1) 0 b g2 n2 (by omega) (dI_done hT (Or.inl rfl) hd) hb2
            | succ k iht =>
              intro b hT
              have hk2 : k + 1 ≤ i + 1 := hT.1
              have hle : n2 k ≤ b := by rw [hT.2.1]; exact sumN_ge (Nat.lt_succ_self k)
              have hb21 : b ≤ 2400 := by
                have e := hT.2.1
                have e2 := sumN_le hb2.2 (k + 1)
                have e3 : (k + 1) * 20 ≤ 120 * 20 := Nat.mul_le_mul_right 20 (by omega)
                omega
              refine g_iload_n F dX0_leastReachAsCore_83 rfl rfl ?_
              refine g_if_le_f F 119 dX0_leastReachAsCore_84 (by decide) (nI_nle (by omega) (by omega)) ?_
              refine g_iload_n F dX0_leastReachAsCore_87 rfl rfl ?_
              refine g_aload_n F dX0_leastReachAsCore_88 rfl rfl ?_
              refine gX_get_nearWeight F dX0_leastReachAsCore_89 ?_
              refine g_iload_n F dX0_leastReachAsCore_92 rfl rfl ?_
              refine g_iconst F (nI 1) dX0_leastReachAsCore_93 (by decide) ?_
              refine g_isub_n F dX0_leastReachAsCore_94 (by omega) ?_
              show GG (EE l D t) X 0 0 95 [(0, .ref (a 0)), (1, .int (nI p)), (2, .int (nI (k + 1))), (3, .int (nI b)), (4, .int (nI i)), (5, .long (lN (gp wy x y p i)))] [.int (nI k), .ref (a 8), .int (nI b)] (WX a t w x y wy re de co cr cc sr so cf ck g2 n2 cs se)
              refine gX_ld_nearWeight F (by omega) dX0_leastReachAsCore_95 ?_
              refine g_isub_n F dX0_leastReachAsCore_96 hle ?_
              refine g_aload_n F dX0_leastReachAsCore_97 rfl rfl ?_
              refine gX_get_demandNow F dX0_leastReachAsCore_98 ?_
              refine g_icmp_lt_n F 119 dX0_leastReachAsCore_101 (by decide) (by omega) (by omega) (fun h9 => ?_) (fun h9 => ?_)
              · refine g_iinc (lv2 := [(0, .ref (a 0)), (1, .int (nI p)), (2, .int (nI (k + 1))), (3, .int (nI b)), (4, .int (nI (i + 1))), (5, .long (lN (gp wy x y p i)))]) F (nI (i + 1)) dX0_leastReachAsCore_119 rfl (nI_add i 1) (by decide) rfl ?_
                refine g_goto F 7 dX0_leastReachAsCore_122 (by decide) ?_
                refine g_lv [0, 1, 2, 3, 4] rfl ?_
                exact ih (i + 1) (k + 1) b g2 n2 (by omega) (dI_done hT (Or.inr (by rw [show k + 1 - 1 = k from rfl]; omega)) hd) hb2
              · refine g_iinc (lv2 := [(0, .ref (a 0)), (1, .int (nI p)), (2, .int (nI k)), (3, .int (nI b)), (4, .int (nI i)), (5, .long (lN (gp wy x y p i)))]) F (nI k) dX0_leastReachAsCore_104 rfl nI_dec (by decide) rfl ?_
                refine g_iload_n F dX0_leastReachAsCore_107 rfl rfl ?_
                refine g_aload_n F dX0_leastReachAsCore_108 rfl rfl ?_
                refine gX_get_nearWeight F dX0_leastReachAsCore_109 ?_
                refine g_iload_n F dX0_leastReachAsCore_112 rfl rfl ?_
                refine gX_ld_nearWeight F (by omega) dX0_leastReachAsCore_113 ?_
                refine g_isub_n F dX0_leastReachAsCore_114 hle ?_
                refine g_istore_n (lv2 := [(0, .ref (a 0)), (1, .int (nI p)), (2, .int (nI k)), (3, .int (nI (b - (n2 k)))), (4, .int (nI i)), (5, .long (lN (gp wy x y p i)))]) F dX0_leastReachAsCore_115 rfl (by decide) rfl ?_
                refine g_goto F 83 dX0_leastReachAsCore_116 (by decide) ?_
                exact iht (b - n2 k) (dT_drop hT hd (by omega))
          exact trim (k + 1) (b + w i) (dT_ins hI hd h hins hc)
        refine g_aload_n F dX0_leastReachAsCore_27 rfl rfl ?_
        refine g_iload_n F dX0_leastReachAsCore_28 rfl rfl ?_
        refine g_iload F dX0_leastReachAsCore_29 rfl ?_
        refine c_VL F [] (wr := []) (cX_gapBetween hf.2.2.2.1 hp hi) cwX0_X0_gapBetween ⟨by decide, by decide, rfl, rfl⟩ rfl rfl rfl rfl (Nat.le_of_ble_eq_true rfl) ⟨by decide, by decide⟩ dX0_leastReachAsCore_31 (fun r u hu => ?_)
        obtain ⟨rfl, rfl⟩ := hu
        show GG (EE l D t) X 0 0 34 [(0, .ref (a 0)), (1, .int (nI p)), (2, .int (nI k)), (3, .int (nI b)), (4, .int (nI i))] [.long (lN (gp wy x y p i))] (WX a t w x y wy re de co cr cc sr so cf ck g1 n1 cs se)
        refine g_lstore (lv2 := [(0, .ref (a 0)), (1, .int (nI p)), (2, .int (nI k)), (3, .int (nI b)), (4, .int (nI i)), (5, .long (lN (gp wy x y p i)))]) F dX0_leastReachAsCore_34 (by decide) rfl ?_
        refine g_iload_n F dX0_leastReachAsCore_36 rfl rfl ?_
        refine g_aload_n F dX0_leastReachAsCore_37 rfl rfl ?_
        refine gX_get_demandNow F dX0_leastReachAsCore_38 ?_
        refine g_icmp_lt_n F 58 dX0_leastReachAsCore_41 (by decide) (by omega) (by omega) (fun h2 => ?_) (fun h2 => ?_)
        · exact ins (Or.inl h2)
        · have hk1 := d_pos hI.1 hd h2
          refine g_lload F dX0_leastReachAsCore_44 rfl ?_
          refine g_aload_n F dX0_leastReachAsCore_46 rfl rfl ?_
          refine g_iload_n F dX0_leastReachAsCore_47 rfl rfl ?_
          refine c_VL F [.long (lN (gp wy x y p i))] (wr := []) (cX_lastGap (by omega) (by omega)) cwX0_X0_lastGap ⟨by decide, by decide, rfl, rfl⟩ rfl rfl rfl rfl (Nat.le_of_ble_eq_true rfl) ⟨by decide, by decide⟩ dX0_leastReachAsCore_48 (fun r u hu => ?_)
          obtain ⟨rfl, rfl⟩ := hu
          show GG (EE l D t) X 0 0 51 [(0, .ref (a 0)), (1, .int (nI p)), (2, .int (nI k)), (3, .int (nI b)), (4, .int (nI i)), (5, .long (lN (gp wy x y p i)))] [.long (lN (g1 (k - 1))), .long (lN (gp wy x y p i))] (WX a t w x y wy re de co cr cc sr so cf ck g1 n1 cs se)
          refine g_lc_lt_n F 58 dX0_leastReachAsCore_51 dX0_leastReachAsCore_52 (by decide) (Nat.lt_trans (gp_lt hf p i) (by decide)) (Nat.lt_trans (hb.1 _) (by decide)) (fun h3 => ?_) (fun h3 => ?_)
          · exact ins (Or.inr h3)
          · refine g_goto F 119 dX0_leastReachAsCore_55 (by decide) ?_
            refine g_iinc (lv2 := [(0, .ref (a 0)), (1, .int (nI p)), (2, .int (nI k)), (3, .int (nI b)), (4, .int (nI (i + 1))), (5, .long (lN (gp wy x y p i)))]) F (nI (i + 1)) dX0_leastReachAsCore_119 rfl (nI_add i 1) (by decide) rfl ?_
            refine g_goto F 7 dX0_leastReachAsCore_122 (by decide) ?_
            refine g_lv [0, 1, 2, 3, 4] rfl ?_
            exact ih (i + 1) k b g1 n1 (by omega) (dI_far hI hd h2 h3) hb
      · refine g_goto F 119 dX0_leastReachAsCore_24 (by decide) ?_
        refine g_iinc (lv2 := [(0, .ref (a 0)), (1, .int (nI p)), (2, .int (nI k)), (3, .int (nI b)), (4, .int (nI (i + 1)))]) F (nI (i + 1)) dX0_leastReachAsCore_119 rfl (nI_add i 1) (by decide) rfl ?_
        refine g_goto F 7 dX0_leastReachAsCore_122 (by decide) ?_
        exact ih (i + 1) k b g1 n1 (by omega) (dI_free hI h) hb
  exact key 120 0 0 0 ng nw rfl (dI_0 hd ng nw) hb
set_option maxHeartbeats 4000000 in
set_option maxRecDepth 100000 in
/-- findCoreFrom -/
theorem cX_findCoreFrom {l : Launch} {D : va_G} {t : Ty3} {a : Nat → Nat} {w : Nat → Nat} {x : Nat → Int32} {y : Nat → Int32} {wy : Nat} {re : Nat} {de : Nat} {co : Nat → Bool} {cr : Nat → Option Nat} {cc : Nat} {sr : Nat} {so : Bool} {cf : Nat → Option Nat} {ck : Bool} {ng : Nat → Nat} {nw : Nat → Nat} {cs : Nat → Nat} {se : Nat → Bool} (hf : WFp w x y wy re de) (hb : bdN ng nw) (hck : ck = true → CfOk w x y wy de cf 120) : CtV (EE l D t) yX0_findCoreFrom tsX0_findCoreFrom (RM 4 98) [.ref (a 0)] (WX a t w x y wy re de co cr cc sr so cf ck ng nw cs se) 0 0 (fun u => ∃ cf2 ng2 nw2, u = WX a t w x y wy re de co cr cc sr so cf2 true ng2 nw2 cs se ∧ CfOk w x y wy de cf2 120 ∧ bdN ng2 nw2) := by
  refine CtV.of (by decide +kernel) rfl (Nat.le_of_ble_eq_true rfl) (fun X F E => ?_)
  show GG (EE l D t) X 0 0 0 [(0, .ref (a 0))] [] (WX a t w x y wy re de co cr cc sr so cf ck ng nw cs se)
  refine g_aload_n F dX0_findCoreFrom_0 rfl rfl ?_
  refine gX_get_coreFromKnown F dX0_findCoreFrom_1 ?_
  refine g_if_eq_b F 8 dX0_findCoreFrom_4 (by decide)  (fun h => ?_) (fun h => ?_)
  · refine g_iconst F (nI 0) dX0_findCoreFrom_8 (by decide) ?_
    refine g_istore_n (lv2 := [(0, .ref (a 0)), (1, .int (nI 0))]) F dX0_findCoreFrom_9 rfl (by decide) rfl ?_
    have key : ∀ (m i : Nat) (c1 : Nat → Option Nat) (g1 n1 : Nat → Nat), i + m = 120 → CfOk w x y wy de c1 i → bdN g1 n1 → GG (EE l D t) X 0 0 10 [(0, .ref (a 0)), (1, .int (nI i))] [] (WX a t w x y wy re de co cr cc sr so c1 ck g1 n1 cs se) := by
      intro m
      induction m with
      | zero =>
        intro i c1 g1 n1 him hC hb
        have hi : i = 120 := by omega
        subst hi
        refine g_iload_n F dX0_findCoreFrom_10 rfl rfl ?_
        refine g_bipush F (nI 120) dX0_findCoreFrom_11 (by decide) ?_
        refine g_icmp_ge_t F 48 dX0_findCoreFrom_13 (by decide) (nI_le (Nat.le_refl 120) (by decide)) ?_
        refine g_aload_n F dX0_findCoreFrom_48 rfl rfl ?_
        refine g_iconst F (b2 true) dX0_findCoreFrom_49 (by decide) ?_
        refine gX_put_coreFromKnown F dX0_findCoreFrom_50 ?_
        exact E _ _ _ dX0_findCoreFrom_53 ⟨c1, g1, n1, rfl, hC, hb⟩
      | succ m ih =>
        intro i c1 g1 n1 him hC hb
        have hi : i < 120 := by omega
        refine g_iload_n F dX0_findCoreFrom_10 rfl rfl ?_
        refine g_bipush F (nI 120) dX0_findCoreFrom_11 (by decide) ?_
        refine g_icmp_ge_f F 48 dX0_findCoreFrom_13 (by decide) (nI_ge hi (by decide)) ?_
        refine g_aload_n F dX0_findCoreFrom_16 rfl rfl ?_
        refine gX_get_coreFrom F dX0_findCoreFrom_17 ?_
        refine g_iload_n F dX0_findCoreFrom_20 rfl rfl ?_
        refine g_aload_n F dX0_findCoreFrom_21 rfl rfl ?_
        refine gX_get_weights F dX0_findCoreFrom_22 ?_
        refine g_iload_n F dX0_findCoreFrom_25 rfl rfl ?_
        refine gX_ld_weights F hi dX0_findCoreFrom_26 ?_
        refine g_if_le_n F 38 dX0_findCoreFrom_27 (by decide) (by have := hf.1 i; omega) (fun h => ?_) (fun h => ?_)
        · refine g_ldc2 F (oL none) dX0_findCoreFrom_38 (List.mem_cons_of_mem _ mw6_19) ?_
          refine gX_st_coreFrom F hi dX0_findCoreFrom_41 ?_
          refine g_iinc (lv2 := [(0, .ref (a 0)), (1, .int (nI (i + 1)))]) F (nI (i + 1)) dX0_findCoreFrom_42 rfl (nI_add i 1) (by decide) rfl ?_
          refine g_goto F 10 dX0_findCoreFrom_45 (by decide) ?_
          refine ih (i + 1) _ g1 n1 (by omega) (fun p hp hw => ?_) hb
          by_cases e : p = i
          · subst e
            rw [up_s]
            omega
          · rw [up_n e]
            exact hC p (by omega) hw
        · refine g_aload_n F dX0_findCoreFrom_30 rfl rfl ?_
          refine g_iload_n F dX0_findCoreFrom_31 rfl rfl ?_
          refine c_VL F [.int (nI i), .ref (a 6)] (wr := []) (cX_leastReachAsCore hf hb hi) cwX0_X0_leastReachAsCore ⟨by decide, by decide, rfl, rfl⟩ rfl rfl rfl rfl (Nat.le_of_ble_eq_true rfl) ⟨by decide, by decide⟩ dX0_findCoreFrom_32 (fun r u hu => ?_)
          obtain ⟨g2, n2, o, rfl, hb2, rfl, ho1, ho2⟩ := hu
          show GG (EE l D t) X 0 0 35 [(0, .ref (a 0)), (1, .int (nI i))] [.long (oL o), .int (nI i), .ref (a 6)] (WX a t w x y wy re de co cr cc sr so c1 ck g2 n2 cs se)
          refine g_goto F 41 dX0_findCoreFrom_35 (by decide) ?_
          refine gX_st_coreFrom F hi dX0_findCoreFrom_41 ?_
          refine g_iinc (lv2 := [(0, .ref (a 0)), (1, .int (nI (i + 1)))]) F (nI (i + 1)) dX0_findCoreFrom_42 rfl (nI_add i 1) (by decide) rfl ?_
          refine g_goto F 10 dX0_findCoreFrom_45 (by decide) ?_
          refine ih (i + 1) _ g2 n2 (by omega) (fun p hp hw => ?_) hb2
          by_cases e : p = i
          · subst e
            rw [up_s]
            exact ⟨ho1, ho2⟩
          · rw [up_n e]
            exact hC p (by omega) hw
    exact key 120 0 cf ng nw rfl (fun p hp => absurd hp (by omega)) hb
  · exact E _ _ _ dX0_findCoreFrom_7 ⟨cf, ng, nw, by rw [h], hck h, hb⟩
set_option maxHeartbeats 4000000 in
set_option maxRecDepth 100000 in
/-- cheapestUnsettled -/
theorem cX_cheapestUnsettled {l : Launch} {D : va_G} {t : Ty3} {a : Nat → Nat} {w : Nat → Nat} {x : Nat → Int32} {y : Nat → Int32} {wy : Nat} {re : Nat} {de : Nat} {co : Nat → Bool} {cr : Nat → Option Nat} {cc : Nat} {sr : Nat} {so : Bool} {cf : Nat → Option Nat} {ck : Bool} {ng : Nat → Nat} {nw : Nat → Nat} {cs : Nat → Nat} {se : Nat → Bool} (hf : WFp w x y wy re de) (hcs : ∀ j, cs j < 2 ^ 63) : CtI (EE l D t) yX0_cheapestUnsettled tsX0_cheapestUnsettled (RM 0 0) [.ref (a 0)] (WX a t w x y wy re de co cr cc sr so cf ck ng nw cs se) 0 0 (fun r u => u = WX a t w x y wy re de co cr cc sr so cf ck ng nw cs se ∧ r = oI (chp1 w se cs)) := by
  refine CtI.of (by decide +kernel) rfl (Nat.le_of_ble_eq_true rfl) (fun X F E => ?_)
  show GG (EE l D t) X 0 0 0 [(0, .ref (a 0))] [] (WX a t w x y wy re de co cr cc sr so cf ck ng nw cs se)
  refine g_iconst F (oI none) dX0_cheapestUnsettled_0 (by decide) ?_
  refine g_istore_n (lv2 := [(0, .ref (a 0)), (1, .int (oI none))]) F dX0_cheapestUnsettled_1 rfl (by decide) rfl ?_
  refine g_iconst F (nI 0) dX0_cheapestUnsettled_2 (by decide) ?_
  refine g_istore_n (lv2 := [(0, .ref (a 0)), (1, .int (oI none)), (2, .int (nI 0))]) F dX0_cheapestUnsettled_3 rfl (by decide) rfl ?_
  refine up_loop (P := fun i => GG (EE l D t) X 0 0 4 [(0, .ref (a 0)), (1, .int (oI (chp w se cs i))), (2, .int (nI i))] [] (WX a t w x y wy re de co cr cc sr so cf ck ng nw cs se)) 120 ?_ (fun i hi ih => ?_)
  · show GG (EE l D t) X 0 0 4 [(0, .ref (a 0)), (1, .int (oI (chp w se cs 120))), (2, .int (nI 120))] [] (WX a t w x y wy re de co cr cc sr so cf ck ng nw cs se)
    refine g_iload_n F dX0_cheapestUnsettled_4 rfl rfl ?_
    refine g_bipush F (nI 120) dX0_cheapestUnsettled_5 (by decide) ?_
    refine g_icmp_ge_t F 57 dX0_cheapestUnsettled_7 (by decide) (nI_le (Nat.le_refl 120) (by decide)) ?_
    refine g_iload_n F dX0_cheapestUnsettled_57 rfl rfl ?_
    exact E _ _ _ _ dX0_cheapestUnsettled_58 ⟨rfl, by rw [chp1_eq]⟩
  · show GG (EE l D t) X 0 0 4 [(0, .ref (a 0)), (1, .int (oI (chp w se cs i))), (2, .int (nI i))] [] (WX a t w x y wy re de co cr cc sr so cf ck ng nw cs se)
    refine g_iload_n F dX0_cheapestUnsettled_4 rfl rfl ?_
    refine g_bipush F (nI 120) dX0_cheapestUnsettled_5 (by decide) ?_
    refine g_icmp_ge_f F 57 dX0_cheapestUnsettled_7 (by decide) (nI_ge hi (by decide)) ?_
    cases hq : chp w se cs i with
    | none =>
      refine g_aload_n F dX0_cheapestUnsettled_10 rfl rfl ?_
      refine gX_get_weights F dX0_cheapestUnsettled_11 ?_
      refine g_iload_n F dX0_cheapestUnsettled_14 rfl rfl ?_
      refine gX_ld_weights F hi dX0_cheapestUnsettled_15 ?_
      refine g_if_le_n F 51 dX0_cheapestUnsettled_16 (by decide) (by have := hf.1 i; omega) (fun h => ?_) (fun h => ?_)
      · refine g_iinc (lv2 := [(0, .ref (a 0)), (1, .int (oI none)), (2, .int (nI (i + 1)))]) F (nI (i + 1)) dX0_cheapestUnsettled_51 rfl (nI_add i 1) (by decide) rfl ?_
        refine g_goto F 4 dX0_cheapestUnsettled_54 (by decide) ?_
        rw [chp_n (by omega), hq] at ih
        exact ih
      · refine g_aload_n F dX0_cheapestUnsettled_19 rfl rfl ?_
        refine gX_get_settled F dX0_cheapestUnsettled_20 ?_
        refine g_iload_n F dX0_cheapestUnsettled_23 rfl rfl ?_
        refine gX_ld_settled F hi dX0_cheapestUnsettled_24 ?_
        refine g_if_ne_b F 51 dX0_cheapestUnsettled_25 (by decide)  (fun h2 => ?_) (fun h2 => ?_)
        · refine g_iinc (lv2 := [(0, .ref (a 0)), (1, .int (oI none)), (2, .int (nI (i + 1)))]) F (nI (i + 1)) dX0_cheapestUnsettled_51 rfl (nI_add i 1) (by decide) rfl ?_
          refine g_goto F 4 dX0_cheapestUnsettled_54 (by decide) ?_
          rw [chp_n (by simp [h2]), hq] at ih
          exact ih
        · refine g_iload_n F dX0_cheapestUnsettled_28 rfl rfl ?_
          refine g_iconst F (oI none) dX0_cheapestUnsettled_29 (by decide) ?_
          refine g_icmp_eq_o F 49 dX0_cheapestUnsettled_30 (by decide) (fun k hk => by cases hk) (fun h3 => ?_) (fun h3 => absurd rfl h3)
          refine g_iload_n F dX0_cheapestUnsettled_49 rfl rfl ?_
          refine g_istore_n (lv2 := [(0, .ref (a 0)), (1, .int (nI i)), (2, .int (nI i))]) F dX0_cheapestUnsettled_50 rfl (by decide) rfl ?_
          refine g_iinc (lv2 := [(0, .ref (a 0)), (1, .int (nI i)), (2, .int (nI (i + 1)))]) F (nI (i + 1)) dX0_cheapestUnsettled_51 rfl (nI_add i 1) (by decide) rfl ?_
          refine g_goto F 4 dX0_cheapestUnsettled_54 (by decide) ?_
          rw [chp_y h h2 (by rw [hq]; rfl)] at ih
          exact ih
    | some b =>
      have hb := chp_lt hq
      show GG (EE l D t) X 0 0 10 [(0, .ref (a 0)), (1, .int (nI b)), (2, .int (nI i))] [] (WX a t w x y wy re de co cr cc sr so cf ck ng nw cs se)
      refine g_aload_n F dX0_cheapestUnsettled_10 rfl rfl ?_
      refine gX_get_weights F dX0_cheapestUnsettled_11 ?_
      refine g_iload_n F dX0_cheapestUnsettled_14 rfl rfl ?_
      refine gX_ld_weights F hi dX0_cheapestUnsettled_15 ?_
      refine g_if_le_n F 51 dX0_cheapestUnsettled_16 (by decide) (by have := hf.1 i; omega) (fun h => ?_) (fun h => ?_)
      · refine g_iinc (lv2 := [(0, .ref (a 0)), (1, .int (nI b)), (2, .int (nI (i + 1)))]) F (nI (i + 1)) dX0_cheapestUnsettled_51 rfl (nI_add i 1) (by decide) rfl ?_
        refine g_goto F 4 dX0_cheapestUnsettled_54 (by decide) ?_
        rw [chp_n (by omega), hq] at ih
        exact ih
      · refine g_aload_n F dX0_cheapestUnsettled_19 rfl rfl ?_
        refine gX_get_settled F dX0_cheapestUnsettled_20 ?_
        refine g_iload_n F dX0_cheapestUnsettled_23 rfl rfl ?_
        refine gX_ld_settled F hi dX0_cheapestUnsettled_24 ?_
        refine g_if_ne_b F 51 dX0_cheapestUnsettled_25 (by decide)  (fun h2 => ?_) (fun h2 => ?_)
        · refine g_iinc (lv2 := [(0, .ref (a 0)), (1, .int (nI b)), (2, .int (nI (i + 1)))]) F (nI (i + 1)) dX0_cheapestUnsettled_51 rfl (nI_add i 1) (by decide) rfl ?_
          refine g_goto F 4 dX0_cheapestUnsettled_54 (by decide) ?_
          rw [chp_n (by simp [h2]), hq] at ih
          exact ih
        · refine g_iload_n F dX0_cheapestUnsettled_28 rfl rfl ?_
          refine g_iconst F (oI none) dX0_cheapestUnsettled_29 (by decide) ?_
          refine g_icmp_eq_o (q := some b) F 49 dX0_cheapestUnsettled_30 (by decide) (fun k hk => by cases hk; omega) (fun h3 => absurd h3 (by simp)) (fun h3 => ?_)
          refine g_aload_n F dX0_cheapestUnsettled_33 rfl rfl ?_
          refine gX_get_cost F dX0_cheapestUnsettled_34 ?_
          refine g_iload_n F dX0_cheapestUnsettled_37 rfl rfl ?_
          refine gX_ld_cost F hi dX0_cheapestUnsettled_38 ?_
          refine g_aload_n F dX0_cheapestUnsettled_39 rfl rfl ?_
          refine gX_get_cost F dX0_cheapestUnsettled_40 ?_
          refine g_iload_n F dX0_cheapestUnsettled_43 rfl rfl ?_
          refine gX_ld_cost F (by omega) dX0_cheapestUnsettled_44 ?_
          refine g_lc_ge_n F 51 dX0_cheapestUnsettled_45 dX0_cheapestUnsettled_46 (by decide) (hcs i) (hcs b) (fun h4 => ?_) (fun h4 => ?_)
          · refine g_iinc (lv2 := [(0, .ref (a 0)), (1, .int (nI b)), (2, .int (nI (i + 1)))]) F (nI (i + 1)) dX0_cheapestUnsettled_51 rfl (nI_add i 1) (by decide) rfl ?_
            refine g_goto F 4 dX0_cheapestUnsettled_54 (by decide) ?_
            rw [chp_n (by rw [hq]; simp [chps]; omega), hq] at ih
            exact ih
          · refine g_iload_n F dX0_cheapestUnsettled_49 rfl rfl ?_
            refine g_istore_n (lv2 := [(0, .ref (a 0)), (1, .int (nI i)), (2, .int (nI i))]) F dX0_cheapestUnsettled_50 rfl (by decide) rfl ?_
            refine g_iinc (lv2 := [(0, .ref (a 0)), (1, .int (nI i)), (2, .int (nI (i + 1)))]) F (nI (i + 1)) dX0_cheapestUnsettled_51 rfl (nI_add i 1) (by decide) rfl ?_
            refine g_goto F 4 dX0_cheapestUnsettled_54 (by decide) ?_
            rw [chp_y h h2 (by rw [hq]; simp [chps, h4])] at ih
            exact ih
set_option maxHeartbeats 4000000 in
set_option maxRecDepth 100000 in
/-- reachOnFrom -/
theorem cX_reachOnFrom {l : Launch} {D : va_G} {t : Ty3} {a : Nat → Nat} {w : Nat → Nat} {x : Nat → Int32} {y : Nat → Int32} {wy : Nat} {re : Nat} {de : Nat} {co : Nat → Bool} {cr : Nat → Option Nat} {cc : Nat} {sr : Nat} {so : Bool} {cf : Nat → Option Nat} {ck : Bool} {ng : Nat → Nat} {nw : Nat → Nat} {cs : Nat → Nat} {se : Nat → Bool} (hf : WFp w x y wy re de) (hcs : ∀ j, cs j < 2 ^ 63) {d : Nat → Nat} (hcf : ∀ j, j < 120 → 0 < w j → cf j = some (d j) ∧ d j < MX) {p : Nat} (hp : p < 120) (hse : se p = true) : CtV (EE l D t) yX0_reachOnFrom tsX0_reachOnFrom (RM 3 72) [.ref (a 0), .int (nI p)] (WX a t w x y wy re de co cr cc sr so cf ck ng nw cs se) 0 0 (fun u => u = WX a t w x y wy re de co cr cc sr so cf ck ng nw (fill cs (rlx w d (gp wy x y p) (cs p) cs se) 120) se) := by
  refine CtV.of (by decide +kernel) rfl (Nat.le_of_ble_eq_true rfl) (fun X F E => ?_)
  show GG (EE l D t) X 0 0 0 [(0, .ref (a 0)), (1, .int (nI p))] [] (WX a t w x y wy re de co cr cc sr so cf ck ng nw cs se)
  have hR : ∀ i, fill cs (rlx w d (gp wy x y p) (cs p) cs se) i p = cs p := fun i => by
    unfold fill rlx
    split
    · rw [if_neg (by rw [hse]; simp)]
    · rfl
  refine g_iconst F (nI 0) dX0_reachOnFrom_0 (by decide) ?_
  refine g_istore_n (lv2 := [(0, .ref (a 0)), (1, .int (nI p)), (2, .int (nI 0))]) F dX0_reachOnFrom_1 rfl (by decide) rfl ?_
  have e0 : WX a t w x y wy re de co cr cc sr so cf ck ng nw (fill cs (rlx w d (gp wy x y p) (cs p) cs se) 0) se = WX a t w x y wy re de co cr cc sr so cf ck ng nw cs se := by rw [fill_0]
  rw [← e0]
  refine up_loop (P := fun i => GG (EE l D t) X 0 0 2 [(0, .ref (a 0)), (1, .int (nI p)), (2, .int (nI i))] [] (WX a t w x y wy re de co cr cc sr so cf ck ng nw (fill cs (rlx w d (gp wy x y p) (cs p) cs se) i) se)) 120 ?_ (fun i hi ih => ?_)
  · show GG (EE l D t) X 0 0 2 [(0, .ref (a 0)), (1, .int (nI p)), (2, .int (nI 120))] [] (WX a t w x y wy re de co cr cc sr so cf ck ng nw (fill cs (rlx w d (gp wy x y p) (cs p) cs se) 120) se)
    refine g_iload_n F dX0_reachOnFrom_2 rfl rfl ?_
    refine g_bipush F (nI 120) dX0_reachOnFrom_3 (by decide) ?_
    refine g_icmp_ge_t F 73 dX0_reachOnFrom_5 (by decide) (nI_le (Nat.le_refl 120) (by decide)) ?_
    exact E _ _ _ dX0_reachOnFrom_73 rfl
  · show GG (EE l D t) X 0 0 2 [(0, .ref (a 0)), (1, .int (nI p)), (2, .int (nI i))] [] (WX a t w x y wy re de co cr cc sr so cf ck ng nw (fill cs (rlx w d (gp wy x y p) (cs p) cs se) i) se)
    refine g_iload_n F dX0_reachOnFrom_2 rfl rfl ?_
    refine g_bipush F (nI 120) dX0_reachOnFrom_3 (by decide) ?_
    refine g_icmp_ge_f F 73 dX0_reachOnFrom_5 (by decide) (nI_ge hi (by decide)) ?_
    refine g_aload_n F dX0_reachOnFrom_8 rfl rfl ?_
    refine gX_get_weights F dX0_reachOnFrom_9 ?_
    refine g_iload_n F dX0_reachOnFrom_12 rfl rfl ?_
    refine gX_ld_weights F hi dX0_reachOnFrom_13 ?_
    refine g_if_le_n F 67 dX0_reachOnFrom_14 (by decide) (by have := hf.1 i; omega) (fun h => ?_) (fun h => ?_)
    · refine g_iinc (lv2 := [(0, .ref (a 0)), (1, .int (nI p)), (2, .int (nI (i + 1)))]) F (nI (i + 1)) dX0_reachOnFrom_67 rfl (nI_add i 1) (by decide) rfl ?_
      refine g_goto F 2 dX0_reachOnFrom_70 (by decide) ?_
      rw [fill_same (f := cs) (g := (rlx w d (gp wy x y p) (cs p) cs se)) (by unfold rlx; rw [if_neg (by omega)])] at ih
      exact ih
    · refine g_aload_n F dX0_reachOnFrom_17 rfl rfl ?_
      refine gX_get_settled F dX0_reachOnFrom_18 ?_
      refine g_iload_n F dX0_reachOnFrom_21 rfl rfl ?_
      refine gX_ld_settled F hi dX0_reachOnFrom_22 ?_
      refine g_if_ne_b F 67 dX0_reachOnFrom_23 (by decide)  (fun h2 => ?_) (fun h2 => ?_)
      · refine g_iinc (lv2 := [(0, .ref (a 0)), (1, .int (nI p)), (2, .int (nI (i + 1)))]) F (nI (i + 1)) dX0_reachOnFrom_67 rfl (nI_add i 1) (by decide) rfl ?_
        refine g_goto F 2 dX0_reachOnFrom_70 (by decide) ?_
        rw [fill_same (f := cs) (g := (rlx w d (gp wy x y p) (cs p) cs se)) (by unfold rlx; rw [if_neg (by simp [h2])])] at ih
        exact ih
      · obtain ⟨hd1, hd2⟩ := hcf i hi h
        refine g_aload_n F dX0_reachOnFrom_26 rfl rfl ?_
        refine gX_get_cost F dX0_reachOnFrom_27 ?_
        refine g_iload_n F dX0_reachOnFrom_30 rfl rfl ?_
        refine gX_ld_cost F hp dX0_reachOnFrom_31 ?_
        refine g_topl (y := lN (cs p)) (congrArg lN (hR i)) ?_
        refine g_aload_n F dX0_reachOnFrom_32 rfl rfl ?_
        refine gX_get_coreFrom F dX0_reachOnFrom_33 ?_
        refine g_iload_n F dX0_reachOnFrom_36 rfl rfl ?_
        refine gX_ld_coreFrom F hi dX0_reachOnFrom_37 ?_
        refine g_topl (y := lN (d i)) (by rw [hd1]; rfl) ?_
        refine g_maxl F dX0_reachOnFrom_38 mM_maxl ⟨by decide, Nat.le_of_ble_eq_true rfl, by decide, by decide⟩ ?_
        refine g_topl (max_lN (hcs p) (Nat.lt_trans hd2 (by decide))) ?_
        refine g_lstore_n (lv2 := [(0, .ref (a 0)), (1, .int (nI p)), (2, .int (nI i)), (3, .long (lN (max (cs p) (d i))))]) F dX0_reachOnFrom_41 rfl (by decide) rfl ?_
        refine g_aload_n F dX0_reachOnFrom_42 rfl rfl ?_
        refine gX_get_cost F dX0_reachOnFrom_43 ?_
        refine g_iload_n F dX0_reachOnFrom_46 rfl rfl ?_
        refine g_aload_n F dX0_reachOnFrom_47 rfl rfl ?_
        refine gX_get_cost F dX0_reachOnFrom_48 ?_
        refine g_iload_n F dX0_reachOnFrom_51 rfl rfl ?_
        refine gX_ld_cost F hi dX0_reachOnFrom_52 ?_
        refine g_topl (y := lN (cs i)) (congrArg lN (fill_at cs _ i)) ?_
        refine g_lload_n F dX0_reachOnFrom_53 rfl rfl ?_
        refine g_aload_n F dX0_reachOnFrom_54 rfl rfl ?_
        refine g_iload_n F dX0_reachOnFrom_55 rfl rfl ?_
        refine g_iload_n F dX0_reachOnFrom_56 rfl rfl ?_
        refine c_VL F [.long (lN (max (cs p) (d i))), .long (lN (cs i)), .int (nI i), .ref (a 9)] (wr := []) (cX_gapBetween hf.2.2.2.1 hp hi) cwX0_X0_gapBetween ⟨by decide, by decide, rfl, rfl⟩ rfl rfl rfl rfl (Nat.le_of_ble_eq_true rfl) ⟨by decide, by decide⟩ dX0_reachOnFrom_57 (fun r u hu => ?_)
        obtain ⟨rfl, rfl⟩ := hu
        show GG (EE l D t) X 0 0 60 [(0, .ref (a 0)), (1, .int (nI p)), (2, .int (nI i)), (3, .long (lN (max (cs p) (d i))))] [.long (lN (gp wy x y p i)), .long (lN (max (cs p) (d i))), .long (lN (cs i)), .int (nI i), .ref (a 9)] (WX a t w x y wy re de co cr cc sr so cf ck ng nw (fill cs (rlx w d (gp wy x y p) (cs p) cs se) i) se)
        refine g_maxl F dX0_reachOnFrom_60 mM_maxl ⟨by decide, Nat.le_of_ble_eq_true rfl, by decide, by decide⟩ ?_
        refine g_topl (max_lN (Nat.max_lt.mpr ⟨hcs p, Nat.lt_trans hd2 (by decide)⟩) (Nat.lt_trans (gp_lt hf p i) (by decide))) ?_
        refine g_minl F dX0_reachOnFrom_63 mM_minl ⟨by decide, Nat.le_of_ble_eq_true rfl, by decide, by decide⟩ ?_
        refine g_topl (min_lN (hcs i) (Nat.max_lt.mpr ⟨Nat.max_lt.mpr ⟨hcs p, Nat.lt_trans hd2 (by decide)⟩, Nat.lt_trans (gp_lt hf p i) (by decide)⟩)) ?_
        refine gX_st_cost F hi dX0_reachOnFrom_66 ?_
        refine g_iinc (lv2 := [(0, .ref (a 0)), (1, .int (nI p)), (2, .int (nI (i + 1))), (3, .long (lN (max (cs p) (d i))))]) F (nI (i + 1)) dX0_reachOnFrom_67 rfl (nI_add i 1) (by decide) rfl ?_
        refine g_goto F 2 dX0_reachOnFrom_70 (by decide) ?_
        refine g_lv [0, 1, 2] rfl ?_
        rw [fill_up (f := cs) (g := (rlx w d (gp wy x y p) (cs p) cs se)) (v := min (cs i) (max (max (cs p) (d i)) (gp wy x y p i))) (by unfold rlx; rw [if_pos ⟨h, h2⟩])] at ih
        exact ih
set_option maxHeartbeats 4000000 in
set_option maxRecDepth 100000 in
/-- leastReachFrom -/
theorem cX_leastReachFrom {l : Launch} {D : va_G} {t : Ty3} {a : Nat → Nat} {w : Nat → Nat} {x : Nat → Int32} {y : Nat → Int32} {wy : Nat} {re : Nat} {de : Nat} {co : Nat → Bool} {cr : Nat → Option Nat} {cc : Nat} {sr : Nat} {so : Bool} {cf : Nat → Option Nat} {ck : Bool} {ng : Nat → Nat} {nw : Nat → Nat} {cs : Nat → Nat} {se : Nat → Bool} (hf : WFp w x y wy re de) (hcs : ∀ j, cs j < 2 ^ 63) {d : Nat → Nat} (hcf : ∀ j, j < 120 → 0 < w j → cf j = some (d j) ∧ d j < MX) {p q : Nat} (hp : p < 120) (hq : q < 120) (hwp : 0 < w p) (hwq : 0 < w q) : CtL (EE l D t) yX0_leastReachFrom tsX0_leastReachFrom (RM 4 96) [.ref (a 0), .int (nI p), .int (nI q)] (WX a t w x y wy re de co cr cc sr so cf ck ng nw cs se) 0 0 (fun r u => ∃ cs2 se2 m, u = WX a t w x y wy re de co cr cc sr so cf ck ng nw cs2 se2 ∧ (∀ j, cs2 j < 2 ^ 63) ∧ r = lN m ∧ isMt w d (gp wy x y) p q m ∧ m < 2 ^ 63) := by
  refine CtL.of (by decide +kernel) rfl (Nat.le_of_ble_eq_true rfl) (fun X F E => ?_)
  show GG (EE l D t) X 0 0 0 [(0, .ref (a 0)), (1, .int (nI p)), (2, .int (nI q))] [] (WX a t w x y wy re de co cr cc sr so cf ck ng nw cs se)
  refine g_iconst F (nI 0) dX0_leastReachFrom_0 (by decide) ?_
  refine g_istore_n (lv2 := [(0, .ref (a 0)), (1, .int (nI p)), (2, .int (nI q)), (3, .int (nI 0))]) F dX0_leastReachFrom_1 rfl (by decide) rfl ?_
  have e0 : WX a t w x y wy re de co cr cc sr so cf ck ng nw (fill cs (fun _ => MX) 0) (fill se (fun _ => false) 0) = WX a t w x y wy re de co cr cc sr so cf ck ng nw cs se := by rw [fill_0, fill_0]
  rw [← e0]
  refine up_loop (P := fun i => GG (EE l D t) X 0 0 2 [(0, .ref (a 0)), (1, .int (nI p)), (2, .int (nI q)), (3, .int (nI i))] [] (WX a t w x y wy re de co cr cc sr so cf ck ng nw (fill cs (fun _ => MX) i) (fill se (fun _ => false) i))) 120 ?_ (fun i hi ih => ?_)
  · show GG (EE l D t) X 0 0 2 [(0, .ref (a 0)), (1, .int (nI p)), (2, .int (nI q)), (3, .int (nI 120))] [] (WX a t w x y wy re de co cr cc sr so cf ck ng nw (fill cs (fun _ => MX) 120) (fill se (fun _ => false) 120))
    refine g_iload_n F dX0_leastReachFrom_2 rfl rfl ?_
    refine g_bipush F (nI 120) dX0_leastReachFrom_3 (by decide) ?_
    refine g_icmp_ge_t F 30 dX0_leastReachFrom_5 (by decide) (nI_le (Nat.le_refl 120) (by decide)) ?_
    refine g_aload_n F dX0_leastReachFrom_30 rfl rfl ?_
    refine gX_get_cost F dX0_leastReachFrom_31 ?_
    refine g_iload_n F dX0_leastReachFrom_34 rfl rfl ?_
    refine g_aload_n F dX0_leastReachFrom_35 rfl rfl ?_
    refine gX_get_coreFrom F dX0_leastReachFrom_36 ?_
    refine g_iload_n F dX0_leastReachFrom_39 rfl rfl ?_
    refine gX_ld_coreFrom F hp dX0_leastReachFrom_40 ?_
    refine g_topl (y := lN (d p)) (by rw [(hcf p hp hwp).1]; rfl) ?_
    refine gX_st_cost F hp dX0_leastReachFrom_41 ?_
    refine g_iconst F (nI 0) dX0_leastReachFrom_42 (by decide) ?_
    refine g_istore_n (lv2 := [(0, .ref (a 0)), (1, .int (nI p)), (2, .int (nI q)), (3, .int (nI 0))]) F dX0_leastReachFrom_43 rfl (by decide) rfl ?_
    have key : ∀ (m i : Nat) (c1 : Nat → Nat) (s1 : Nat → Bool), i + m = 120 → unS s1 120 ≤ m → s1 q = false → DJ w d (gp wy x y) p c1 s1 → (∀ j, c1 j < 2 ^ 63) → GG (EE l D t) X 0 0 44 [(0, .ref (a 0)), (1, .int (nI p)), (2, .int (nI q)), (3, .int (nI i))] [] (WX a t w x y wy re de co cr cc sr so cf ck ng nw c1 s1) := by
      intro m
      induction m with
      | zero =>
        intro i c1 s1 him hu hsq
        rw [unS_0 (se := s1) 120 (by omega) q hq] at hsq
        cases hsq
      | succ m ih =>
        intro i c1 s1 him hu hsq hJ hc1
        have hi : i < 120 := by omega
        refine g_iload_n F dX0_leastReachFrom_44 rfl rfl ?_
        refine g_bipush F (nI 120) dX0_leastReachFrom_45 (by decide) ?_
        refine g_icmp_ge_f F 99 dX0_leastReachFrom_47 (by decide) (nI_ge hi (by decide)) ?_
        refine g_aload_n F dX0_leastReachFrom_50 rfl rfl ?_
        refine c_VI F [] (wr := []) (cX_cheapestUnsettled hf hc1) cwX0_X0_cheapestUnsettled ⟨by decide, by decide, rfl, rfl⟩ rfl rfl rfl rfl (Nat.le_of_ble_eq_true rfl) ⟨by decide, by decide⟩ dX0_leastReachFrom_51 (fun r u hu => ?_)
        obtain ⟨rfl, rfl⟩ := hu
        show GG (EE l D t) X 0 0 54 [(0, .ref (a 0)), (1, .int (nI p)), (2, .int (nI q)), (3, .int (nI i))] [.int (oI (chp1 w s1 c1))] (WX a t w x y wy re de co cr cc sr so cf ck ng nw c1 s1)
        cases hz : chp1 w s1 c1 with
        | none =>
          exact absurd ⟨hwq, hsq⟩ ((chp_ok 120).2 (by rw [← chp1_eq]; exact hz) q hq)
        | some b =>
          obtain ⟨hb1, hb2, hb3, hb4⟩ := (chp_ok 120).1 b (by rw [← chp1_eq]; exact hz)
          refine g_istore (lv2 := [(0, .ref (a 0)), (1, .int (nI p)), (2, .int (nI q)), (3, .int (nI i)), (4, .int (oI (some b)))]) F dX0_leastReachFrom_54 (by decide) rfl ?_
          refine g_iload F dX0_leastReachFrom_56 rfl ?_
          refine g_iconst F (oI none) dX0_leastReachFrom_58 (by decide) ?_
          refine g_icmp_ne_o F 66 dX0_leastReachFrom_59 (by decide) (fun k hk => by cases hk; omega) (fun h => ?_) (fun h => absurd h (by simp))
          show GG (EE l D t) X 0 0 66 [(0, .ref (a 0)), (1, .int (nI p)), (2, .int (nI q)), (3, .int (nI i)), (4, .int (nI b))] [] (WX a t w x y wy re de co cr cc sr so cf ck ng nw c1 s1)
          refine g_iload F dX0_leastReachFrom_66 rfl ?_
          refine g_iload_n F dX0_leastReachFrom_68 rfl rfl ?_
          refine g_icmp_ne_n F 79 dX0_leastReachFrom_69 (by decide) (by omega) (by omega) (fun h2 => ?_) (fun h2 => ?_)
          · refine g_aload_n F dX0_leastReachFrom_79 rfl rfl ?_
            refine gX_get_settled F dX0_leastReachFrom_80 ?_
            refine g_iload F dX0_leastReachFrom_83 rfl ?_
            refine g_iconst F (b2 true) dX0_leastReachFrom_85 (by decide) ?_
            refine gX_st_settled F hb1 dX0_leastReachFrom_86 ?_
            refine g_aload_n F dX0_leastReachFrom_87 rfl rfl ?_
            refine g_iload F dX0_leastReachFrom_88 rfl ?_
            refine c_VV F [] (wr := []) (cX_reachOnFrom hf hc1 hcf hb1 up_s) cwX0_X0_reachOnFrom ⟨by decide, by decide, rfl, rfl⟩ rfl rfl rfl rfl (Nat.le_of_ble_eq_true rfl) ⟨by decide, by decide⟩ dX0_leastReachFrom_90 (fun u hu => ?_)
            obtain rfl := hu
            show GG (EE l D t) X 0 0 93 [(0, .ref (a 0)), (1, .int (nI p)), (2, .int (nI q)), (3, .int (nI i)), (4, .int (nI b))] [] (WX a t w x y wy re de co cr cc sr so cf ck ng nw (fill c1 (rlx w d (gp wy x y b) (c1 b) c1 (up s1 b true)) 120) (up s1 b true))
            refine g_iinc (lv2 := [(0, .ref (a 0)), (1, .int (nI p)), (2, .int (nI q)), (3, .int (nI (i + 1))), (4, .int (nI b))]) F (nI (i + 1)) dX0_leastReachFrom_93 rfl (nI_add i 1) (by decide) rfl ?_
            refine g_goto F 44 dX0_leastReachFrom_96 (by decide) ?_
            refine g_lv [0, 1, 2, 3] rfl ?_
            refine ih (i + 1) _ _ (by omega) (by have := unS_up hb3 120 hb1; omega) (by rw [up_n (fun z => h2 z.symm)]; exact hsq) (DJ_step hJ hb1 hb2 hb3 hb4 (fun j hj => fill_in hj)) (fun j => ?_)
            unfold fill rlx
            split
            · split
              · exact Nat.lt_of_le_of_lt (Nat.min_le_left _ _) (hc1 j)
              · exact hc1 j
            · exact hc1 j
          · subst h2
            refine g_aload_n F dX0_leastReachFrom_72 rfl rfl ?_
            refine gX_get_cost F dX0_leastReachFrom_73 ?_
            refine g_iload_n F dX0_leastReachFrom_76 rfl rfl ?_
            refine gX_ld_cost F hb1 dX0_leastReachFrom_77 ?_
            exact E _ _ _ _ dX0_leastReachFrom_78 ⟨c1, s1, c1 b, rfl, hc1, rfl, ⟨hJ.1 b hb1 hb2 (DJ_min hJ hb1 hb2 hb3 hb4).1, (DJ_min hJ hb1 hb2 hb3 hb4).2⟩, hc1 b⟩
    refine key 120 0 _ _ rfl (unS_le _ 120) (fill_in hq) (DJ_0 hp hwp (fun j hj hw => (hcf j hj hw).2) (fun a b => gp_lt hf a b) up_s (fun j hj hn => by rw [up_n hn, fill_in hj]) (fun j hj => fill_in hj)) (up_bd (fun j => ?_) (Nat.lt_trans (hcf p hp hwp).2 (by decide)))
    unfold fill
    split
    · show MX < 2 ^ 63
      decide
    · exact hcs j
  · show GG (EE l D t) X 0 0 2 [(0, .ref (a 0)), (1, .int (nI p)), (2, .int (nI q)), (3, .int (nI i))] [] (WX a t w x y wy re de co cr cc sr so cf ck ng nw (fill cs (fun _ => MX) i) (fill se (fun _ => false) i))
    refine g_iload_n F dX0_leastReachFrom_2 rfl rfl ?_
    refine g_bipush F (nI 120) dX0_leastReachFrom_3 (by decide) ?_
    refine g_icmp_ge_f F 30 dX0_leastReachFrom_5 (by decide) (nI_ge hi (by decide)) ?_
    refine g_aload_n F dX0_leastReachFrom_8 rfl rfl ?_
    refine gX_get_cost F dX0_leastReachFrom_9 ?_
    refine g_iload_n F dX0_leastReachFrom_12 rfl rfl ?_
    refine g_ldc2 F (lN 9223372036854775807) dX0_leastReachFrom_13 (List.mem_cons_of_mem _ mw15_7) ?_
    refine gX_st_cost F hi dX0_leastReachFrom_16 ?_
    refine g_aload_n F dX0_leastReachFrom_17 rfl rfl ?_
    refine gX_get_settled F dX0_leastReachFrom_18 ?_
    refine g_iload_n F dX0_leastReachFrom_21 rfl rfl ?_
    refine g_iconst F (b2 false) dX0_leastReachFrom_22 (by decide) ?_
    refine gX_st_settled F hi dX0_leastReachFrom_23 ?_
    refine g_iinc (lv2 := [(0, .ref (a 0)), (1, .int (nI p)), (2, .int (nI q)), (3, .int (nI (i + 1)))]) F (nI (i + 1)) dX0_leastReachFrom_24 rfl (nI_add i 1) (by decide) rfl ?_
    refine g_goto F 2 dX0_leastReachFrom_27 (by decide) ?_
    rw [fill_up (f := cs) (g := fun _ => MX) (v := MX) rfl, fill_up (f := se) (g := fun _ => false) (v := false) rfl] at ih
    exact ih
