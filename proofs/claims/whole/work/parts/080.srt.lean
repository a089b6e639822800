/-! What the class makes is as the document says; and there is one such. -/
theorem rt_congr {C C' : Nat → Bool} {A : Nat → Nat → Prop} (h : ∀ p, p < 120 → C p = C' p) {p : Nat} (hp : p < 120) : rt C A p ↔ rt C' A p := by
  unfold rt
  rw [h p hp]
  constructor
  · rintro ⟨h1, h2⟩
    exact ⟨h1, fun q hq hc => h2 q hq (by rw [h q (by omega)]; exact hc)⟩
  · rintro ⟨h1, h2⟩
    exact ⟨h1, fun q hq hc => h2 q hq (by rw [← h q (by omega)]; exact hc)⟩
theorem cR_congr {C C' : Nat → Bool} {A : Nat → Nat → Prop} (h : ∀ p, p < 120 → C p = C' p) {n : Nat} (hn : n ≤ 120) : cR C A n = cR C' A n := by
  unfold cR
  refine sumN_congr n (fun j hj => ?_)
  unfold cRf
  have e : rtB C A j = rtB C' A j := by
    cases e1 : rtB C A j with
    | true => exact (rtB_t.mpr ((rt_congr h (by omega)).mp (rtB_t.mp e1))).symm
    | false =>
      cases e2 : rtB C' A j with
      | false => rfl
      | true =>
        rw [rtB_t.mpr ((rt_congr h (by omega)).mpr (rtB_t.mp e2))] at e1
        cases e1
  rw [e]
section SRT
variable {w : Nat → Nat} {x y : Nat → Int32} {wy re de r : Nat} {co co2 : Nat → Bool} {cr cr2 : Nat → Option Nat} {cc cc2 : Nat}
theorem Srt.core (h : Srt w x y wy de r co cr cc) {p : Nat} (hp : p < 120) (hc : co p = true) : ∃ k, cr p = some k ∧ k < cc ∧ k < 120 := by
  obtain ⟨q, h1, h2, h3, h4⟩ := h.2.1 p hp hc
  have h5 := cR_lt h2 h1
  have h6 := cR_le (C := co) (A := adj co (gp wy x y) r) 120
  have h7 := h.2.2.2
  exact ⟨_, h4, by omega, by omega⟩
theorem Srt.cc120 (h : Srt w x y wy de r co cr cc) : cc ≤ 120 := by
  rw [h.2.2.2]
  exact cR_le 120
theorem Srt.bd (h : Srt w x y wy de r co cr cc) {p : Nat} (hp : p < 120) : ∀ k, cr p = some k → k < 120 := by
  intro k hk
  cases hc : co p with
  | true =>
    obtain ⟨k2, e, -, h3⟩ := h.core hp hc
    rw [e] at hk
    cases hk
    exact h3
  | false =>
    rw [h.2.2.1 p hp hc] at hk
    by_cases e : 0 < w p
    · rw [if_pos e, lcs1_eq] at hk
      exact lcs_lt (fun q hq hq2 => by obtain ⟨k2, e2, -, h3⟩ := h.core hq hq2; exact ⟨k2, e2, h3⟩) 120 (Nat.le_refl 120) k hk
    · rw [if_neg e] at hk
      cases hk
theorem Srt.bd31 (h : Srt w x y wy de r co cr cc) {p : Nat} (hp : p < 120) : ∀ k, cr p = some k → k < 2 ^ 31 := fun k hk => by
  have := h.bd hp k hk
  omega
/-- a point that is not there is in no crowd -/
theorem Srt.free (h : Srt w x y wy de r co cr cc) {p : Nat} (hp : p < 120) (hw : w p = 0) : co p = false ∧ cr p = none := by
  have h1 : co p = false := by
    rw [h.1 p hp]
    unfold isC
    simp [hw]
  refine ⟨h1, ?_⟩
  rw [h.2.2.1 p hp h1, if_neg (by omega)]
theorem Srt.uniq (h : Srt w x y wy de r co cr cc) (h2 : Srt w x y wy de r co2 cr2 cc2) : (∀ p, p < 120 → co p = co2 p) ∧ (∀ p, p < 120 → cr p = cr2 p) ∧ cc = cc2 := by
  have e1 : ∀ p, p < 120 → co p = co2 p := fun p hp => by rw [h.1 p hp, h2.1 p hp]
  have eA := adj_congr (g := gp wy x y) (r := r) e1
  have ecore : ∀ p, p < 120 → co p = true → cr p = cr2 p := fun p hp hc => by
    obtain ⟨q, a1, a2, a3, a4⟩ := h.2.1 p hp hc
    obtain ⟨q2, b1, b2, b3, b4⟩ := h2.2.1 p hp (by rw [← e1 p hp]; exact hc)
    rw [← eA] at b2 b3 b4
    have b2' := (rt_congr e1 b1).mpr b2
    have := rt_un (adj_sy (gp_comm wy x y)) a2 b2' a3 b3
    subst this
    rw [a4, b4, cR_congr e1 (by omega)]
  refine ⟨e1, fun p hp => ?_, by rw [h.2.2.2, h2.2.2.2, ← eA, cR_congr e1 (Nat.le_refl 120)]⟩
  cases hc : co p with
  | true => exact ecore p hp hc
  | false =>
    rw [h.2.2.1 p hp hc, h2.2.2.1 p hp (by rw [← e1 p hp]; exact hc)]
    by_cases e : 0 < w p
    · rw [if_pos e, if_pos e, lcs1_eq, lcs1_eq]
      have a1 : ∀ n, n ≤ 120 → lcs co cr (gp wy x y p) r n = lcs co2 cr2 (gp wy x y p) r n := by
        intro n
        induction n with
        | zero => intro _; rfl
        | succ n ih =>
          intro hn
          show (if co n = true ∧ gp wy x y p n ≤ r then _ else _) = (if co2 n = true ∧ gp wy x y p n ≤ r then _ else _)
          rw [ih (by omega), ← e1 n (by omega)]
          by_cases c : co n = true ∧ gp wy x y p n ≤ r
          · rw [if_pos c, if_pos c, ecore n (by omega) c.1]
          · rw [if_neg c, if_neg c]
      exact a1 120 (Nat.le_refl 120)
    · rw [if_neg e, if_neg e]
theorem lcs_congr2 {g : Nat → Nat} {n : Nat} (hn : n ≤ 120) (h1 : ∀ p, p < 120 → co p = co2 p) (h2 : ∀ p, p < 120 → cr p = cr2 p) : lcs co cr g r n = lcs co2 cr2 g r n := by
  induction n with
  | zero => rfl
  | succ n ih =>
    show (if co n = true ∧ g n ≤ r then _ else _) = (if co2 n = true ∧ g n ≤ r then _ else _)
    rw [ih (by omega), ← h1 n (by omega), ← h2 n (by omega)]
/-- labels as they must be on the cores, borders by the least: sorted -/
theorem Srt.mk {z : Nat → Option Nat} (h1 : ∀ p, p < 120 → co p = isC w x y wy de r p) (h2 : ∀ p, p < 120 → co p = true → ∃ q, q < 120 ∧ rt co (adj co (gp wy x y) r) q ∧ cnn (adj co (gp wy x y) r) q p ∧ z p = some (cR co (adj co (gp wy x y) r) q)) (h3 : ∀ p, p < 120 → co p = false → z p = none) (hcc : cc = cR co (adj co (gp wy x y) r) 120)
    (hcr : ∀ p, p < 120 → cr p = if 0 < w p ∧ co p = false then lcs1 co z (gp wy x y p) r else z p) : Srt w x y wy de r co cr cc := by
  have hk : ∀ p, p < 120 → co p = true → cr p = z p := fun p hp hc => by rw [hcr p hp, if_neg (by simp [hc])]
  refine ⟨h1, fun p hp hc => ?_, fun p hp hc => ?_, hcc⟩
  · obtain ⟨q, a1, a2, a3, a4⟩ := h2 p hp hc
    exact ⟨q, a1, a2, a3, by rw [hk p hp hc]; exact a4⟩
  · rw [hcr p hp]
    by_cases e : 0 < w p
    · rw [if_pos ⟨e, hc⟩, if_pos e, lcs1_eq, lcs1_eq]
      exact lcs_congr 120 (fun q hq hq2 => (hk q hq hq2).symm)
    · rw [if_neg (fun q => e q.1), if_neg e, h3 p hp hc]
theorem srt_X (se : Nat → Bool) : Srt w x y wy de r (fill co (isC w x y wy de r) 120)
    (fill (gS1 (fill co (isC w x y wy de r) 120) (gp wy x y) r (fill cr (fun _ => none) 120) (fill se (fun _ => false) 120)).1 (jB w (fill co (isC w x y wy de r) 120) (gS1 (fill co (isC w x y wy de r) 120) (gp wy x y) r (fill cr (fun _ => none) 120) (fill se (fun _ => false) 120)).1 (gp wy x y) r) 120)
    (gS1 (fill co (isC w x y wy de r) 120) (gp wy x y) r (fill cr (fun _ => none) 120) (fill se (fun _ => false) 120)).2.2 := by
  have e1 : ∀ p, p < 120 → fill co (isC w x y wy de r) 120 p = isC w x y wy de r p := fun p hp => fill_in hp
  generalize fill co (isC w x y wy de r) 120 = C at e1 ⊢
  rw [gS1_eq]
  obtain ⟨i1, i2, i3, i4⟩ := gS_ok (C := C) (g := gp wy x y) (r := r) (gp_comm wy x y) (cr0 := fill cr (fun _ => none) 120) (se0 := fill se (fun _ => false) 120) (fun p hp => fill_in hp) (fun p hp => fill_in hp) 120 (Nat.le_refl 120)
  generalize gS C (gp wy x y) r (fill cr (fun _ => none) 120) (fill se (fun _ => false) 120) 120 = z at i1 i2 i3 i4 ⊢
  refine Srt.mk (z := z.1) e1 (fun p hp hc => ?_) (fun p hp hc => ?_) i1 (fun p hp => ?_)
  · obtain ⟨q, a1, a2, a3⟩ := rt_ex (A := adj C (gp wy x y) r) hc
    exact ⟨q, by omega, a2, a3, i2 p hp q (by omega) a2 a3⟩
  · cases e : z.1 p with
    | none => rfl
    | some k =>
      obtain ⟨q, a1, a2, a3, a4⟩ := i3 p k hp e
      rw [cnn_core a3 a2.1] at hc
      cases hc
  · rw [fill_in hp]
    rfl
theorem bdC_X (se : Nat → Bool) (hb : bdC cr) : bdC (fill (gS1 (fill co (isC w x y wy de r) 120) (gp wy x y) r (fill cr (fun _ => none) 120) (fill se (fun _ => false) 120)).1 (jB w (fill co (isC w x y wy de r) 120) (gS1 (fill co (isC w x y wy de r) 120) (gp wy x y) r (fill cr (fun _ => none) 120) (fill se (fun _ => false) 120)).1 (gp wy x y) r) 120) := by
  intro j k hk
  by_cases hj : j < 120
  · exact (srt_X (w := w) (x := x) (y := y) (wy := wy) (de := de) (r := r) (co := co) (cr := cr) se).bd hj k hk
  · rw [fill_out (by omega), gS1_eq] at hk
    exact (gS_bd (fun i z hz => by
      by_cases hi : i < 120
      · rw [fill_in hi] at hz
        cases hz
      · rw [fill_out (by omega)] at hz
        exact hb i z hz) 120 (Nat.le_refl 120)).1 j k hk
theorem core_X (se : Nat → Bool) : ∀ q, q < 120 → fill co (isC w x y wy de r) 120 q = true → ∃ k, (gS1 (fill co (isC w x y wy de r) 120) (gp wy x y) r (fill cr (fun _ => none) 120) (fill se (fun _ => false) 120)).1 q = some k ∧ k < 120 := by
  intro q hq hc
  obtain ⟨k, h1, h2, h3⟩ := (srt_X (w := w) (x := x) (y := y) (wy := wy) (de := de) (r := r) (co := co) (cr := cr) se).core hq hc
  rw [fill_in hq] at h1
  unfold jB at h1
  rw [if_neg (by rw [hc]; simp)] at h1
  exact ⟨k, h1, h3⟩
end SRT
