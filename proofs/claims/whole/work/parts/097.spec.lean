/-! What a call answers, and what it does. -/
abbrev VT : Type := (Nat → Nat) × (Nat → Int32) × (Nat → Int32) × Nat × Nat × Nat
def pt (w : Nat → Nat) (p : Int32) : Option Nat := match idx p with
  | some j => if 0 < w j then some j else none
  | none => none
theorem isPt_t {s : Nat → Bool} {p : Int32} (h : isPt s p = true) : ∃ j, j < 120 ∧ p = nI j ∧ s j = true := by
  rcases pk_ix p (n := 120) (by decide) with hp | hp | ⟨j, hj, rfl⟩
  · unfold isPt at h
    rw [idx_neg hp] at h
    cases h
  · unfold isPt at h
    rw [idx_big hp] at h
    cases h
  · unfold isPt at h
    rw [idx_nI hj] at h
    exact ⟨j, hj, rfl, h⟩
theorem pt_nI {w : Nat → Nat} {j : Nat} (hj : j < 120) (h : 0 < w j) : pt w (nI j) = some j := by
  unfold pt
  rw [idx_nI hj]
  exact if_pos h
theorem pt_f {w : Nat → Nat} {p : Int32} (h : isPt (fun j => decide (0 < w j)) p = false) : pt w p = none := by
  unfold isPt at h
  unfold pt
  cases e : idx p with
  | none => rfl
  | some j =>
    rw [e] at h
    exact if_neg (of_decide_eq_false h)
theorem pt_s {w : Nat → Nat} {p : Int32} {j : Nat} (h : pt w p = some j) : j < 120 ∧ p = nI j ∧ 0 < w j := by
  unfold pt at h
  rcases pk_ix p (n := 120) (by decide) with hp | hp | ⟨i, hi, rfl⟩
  · rw [idx_neg hp] at h
    cases h
  · rw [idx_big hp] at h
    cases h
  · rw [idx_nI hi] at h
    by_cases c : 0 < w i
    · have h : (if 0 < w i then some i else none) = some j := h
      rw [if_pos c] at h
      cases h
      exact ⟨hi, rfl, c⟩
    · have h : (if 0 < w i then some i else none) = some j := h
      rw [if_neg c] at h
      cases h
section SP
variable (w : Nat → Nat) (x y : Nat → Int32) (wy re de : Nat)
noncomputable def pointF (px py wt : Int32) : Int32 × VT := if isPl px py = true ∧ ¬ wt < 1 ∧ wt ≤ 20 then match fst1 (fun j => decide (w j = 0)) with
    | none => (oI none, (w, x, y, wy, re, de))
    | some j => (nI j, (up w j wt.toNatClampNeg, up x j px, up y j py, wy, re, de))
  else (oI none, (w, x, y, wy, re, de))
noncomputable def removeF (p : Int32) : Int32 × VT := match pt w p with
  | none => (oI none, (w, x, y, wy, re, de))
  | some j => (nI (sum1 (fun i => if 0 < up w j 0 i then 1 else 0)), (up w j 0, x, y, wy, re, de))
def moveF (p px py : Int32) : Int32 × VT := match pt w p with
  | none => (nI 0, (w, x, y, wy, re, de))
  | some j => if isPl px py = true then (nI 1, (w, up x j px, up y j py, wy, re, de)) else (nI 0, (w, x, y, wy, re, de))
def wayF (z : Int32) : Int32 × VT := if ¬ z < 0 ∧ z ≤ 2 then (nI 1, (w, x, y, z.toNatClampNeg, re, de)) else (nI 0, (w, x, y, wy, re, de))
def reachF (z : Int64) : Int32 × VT := if z < 0 then (nI 0, (w, x, y, wy, re, de)) else (nI 1, (w, x, y, wy, z.toInt.toNat, de))
def demandF (z : Int32) : Int32 × VT := if ¬ z < 1 ∧ z ≤ 2400 then (nI 1, (w, x, y, wy, re, z.toNatClampNeg)) else (nI 0, (w, x, y, wy, re, de))
def distF (p q : Int32) : Int64 := match pt w p, pt w q with
  | some i, some j => lN (gp wy x y i j)
  | _, _ => oL none
noncomputable def aroundF (p : Int32) : Int32 := match pt w p with
  | none => oI none
  | some j => nI (ww w (gp wy x y j) re)
def kindR (p r : Int32) : Prop := match pt w p with
  | none => r = oI none
  | some j => ∃ co cr cc, Srt w x y wy de re co cr cc ∧ r = nI (knd co cr j)
def crowdR (p r : Int32) : Prop := match pt w p with
  | none => r = oI none
  | some j => ∃ co cr cc, Srt w x y wy de re co cr cc ∧ r = oI (cr j)
noncomputable def cntK (co : Nat → Bool) (cr : Nat → Option Nat) (kd : Nat) : Nat := sum1 (fun p => if 0 < w p ∧ knd co cr p = kd then 1 else 0)
noncomputable def countF (co : Nat → Bool) (cr : Nat → Option Nat) (cc : Nat) (z : Int32) : Int32 := if z = nI 0 then nI cc else if z = nI 1 then nI (cntK w co cr 2) else if z = nI 2 then nI (cntK w co cr 1) else if z = nI 3 then nI (cntK w co cr 0) else if z = nI 4 then nI (sum1 (fun j => if 0 < w j then 1 else 0)) else if z = nI 5 then nI (sum1 w) else oI none
def countR (z r : Int32) : Prop := ∃ co cr cc, Srt w x y wy de re co cr cc ∧ r = countF w co cr cc z
noncomputable def aboutF (co : Nat → Bool) (cr : Nat → Option Nat) (cc : Nat) (c z : Int32) : Int32 := if ¬ c < 0 ∧ c < nI cc then (if z = nI 0 then nI (sum1 (fun p => if cr p = some c.toNatClampNeg then 1 else 0)) else if z = nI 1 then nI (sum1 (fun p => if co p = true ∧ cr p = some c.toNatClampNeg then 1 else 0)) else if z = nI 2 then nI (sum1 (fun p => if cr p = some c.toNatClampNeg then w p else 0)) else if z = nI 3 then oI (fst1 (fun p => co p && decide (cr p = some c.toNatClampNeg))) else if z = nI 4 then mn1 x (fun p => decide (cr p = some c.toNatClampNeg)) 1073741823 else if z = nI 5 then mn1 y (fun p => decide (cr p = some c.toNatClampNeg)) 1073741823 else if z = nI 6 then mx1 x (fun p => decide (cr p = some c.toNatClampNeg)) (-1073741823) else if z = nI 7 then mx1 y (fun p => decide (cr p = some c.toNatClampNeg)) (-1073741823) else oI none) else oI none
def aboutR (c z r : Int32) : Prop := ∃ co cr cc, Srt w x y wy de re co cr cc ∧ r = aboutF w x y co cr cc c z
def belongsR (px py r : Int32) : Prop := if isPl px py = true then ∃ co cr cc, Srt w x y wy de re co cr cc ∧ r = oI (lcs1 co cr (fun q => gapN wy (x q) (y q) px py) re) else r = oI none
def crowdsR (z : Int64) (r : Int32) : Prop := if z < 0 then r = oI none else ∃ co cr cc, Srt w x y wy de z.toInt.toNat co cr cc ∧ r = nI cc
def denseR (p : Int32) (r : Int64) : Prop := match pt w p with
  | none => r = oL none
  | some j => ∃ o, isDn w (gp wy x y j) de o ∧ r = oL o
def meetR (p q : Int32) (r : Int64) : Prop := match pt w p, pt w q with
  | some i, some j => if sum1 w < de then r = oL none else ∃ (d : Nat → Nat) (m : Nat), (∀ k, k < 120 → 0 < w k → isDn w (gp wy x y k) de (some (d k))) ∧ isMt w d (gp wy x y) i j m ∧ r = lN m
  | _, _ => r = oL none
end SP
/-- the numbers of the class's object -/
def XI (w : Nat → Nat) (x y : Nat → Int32) (wy re de : Nat) (co : Nat → Bool) (cr : Nat → Option Nat) (cc sr : Nat) (so : Bool) (cf : Nat → Option Nat) (ck : Bool) (ng nw cs : Nat → Nat) : Prop :=
  WFp w x y wy re de ∧ bdC cr ∧ sr < 2 ^ 63 ∧ (so = true → Srt w x y wy de sr co cr cc) ∧ (ck = true → CfOk w x y wy de cf 120) ∧ bdN ng nw ∧ (∀ j, cs j < 2 ^ 63) ∧ cc ≤ 120
def XW (a : Nat → Nat) (t : Ty3) (V : VT) (u : va_W) : Prop := ∃ co cr cc sr so cf ck ng nw cs se, u = WX a t V.1 V.2.1 V.2.2.1 V.2.2.2.1 V.2.2.2.2.1 V.2.2.2.2.2 co cr cc sr so cf ck ng nw cs se ∧ XI V.1 V.2.1 V.2.2.1 V.2.2.2.1 V.2.2.2.2.1 V.2.2.2.2.2 co cr cc sr so cf ck ng nw cs
theorem isDn_none {w g : Nat → Nat} {de : Nat} (hg : ∃ B, ∀ j, g j ≤ B) (h : isDn w g de none) : sum1 w < de := by
  obtain ⟨B, hB⟩ := hg
  have h1 := h B
  unfold ww at h1
  rw [sum1_eq, sumN_congr (g := w) 120 (fun j _ => by
    unfold wwf
    by_cases e : 0 < w j
    · rw [if_pos ⟨e, hB j⟩]
    · rw [if_neg (fun z => e z.1)]
      omega), ← sum1_eq] at h1
  exact h1
theorem isDn_some {w g : Nat → Nat} {de d : Nat} (h : isDn w g de (some d)) : de ≤ sum1 w := by
  have h1 := h.1
  unfold ww at h1
  rw [sum1_eq] at h1 ⊢
  exact Nat.le_trans h1 (sumN_mono 120 (fun j _ => by
    unfold wwf
    split <;> omega))
theorem isMt_congr {w d d2 : Nat → Nat} {g : Nat → Nat → Nat} {p q m : Nat} (hd : ∀ k, k < 120 → 0 < w k → d k = d2 k) (hp : p < 120) (hw : 0 < w p) (h : isMt w d g p q m) : isMt w d2 g p q m := by
  have e : ∀ r a, RR w d g p r a ↔ RR w d2 g p r a := by
    have key : ∀ (d d2 : Nat → Nat), (∀ k, k < 120 → 0 < w k → d k = d2 k) → ∀ r a, RR w d g p r a → RR w d2 g p r a := fun d d2 hd r a h =>
      ⟨by rw [← hd p hp hw]; exact h.1, cnn_ind (S := fun z => cnn (eD w d2 g r) p z) h.2 (cnn_rf p) (fun m q h1 h2 => cnn_st h1 ⟨h2.1, h2.2.1, h2.2.2.1, h2.2.2.2.1, by rw [← hd m h2.1 h2.2.2.1]; exact h2.2.2.2.2.1, by rw [← hd q h2.2.1 h2.2.2.2.1]; exact h2.2.2.2.2.2.1, h2.2.2.2.2.2.2⟩)⟩
    exact fun r a => ⟨key d d2 hd r a, key d2 d (fun k a b => (hd k a b).symm) r a⟩
  exact ⟨(e m q).mp h.1, fun r hr => h.2 r ((e r q).mpr hr)⟩
section UN
variable {w : Nat → Nat} {x y : Nat → Int32} {wy re de : Nat}
theorem Srt_ex (w : Nat → Nat) (x y : Nat → Int32) (wy re de : Nat) : ∃ co cr cc, Srt w x y wy de re co cr cc := ⟨_, _, _, srt_X (co := fun _ => false) (cr := fun _ => none) (fun _ => false)⟩
theorem knd_congr {co co2 : Nat → Bool} {cr cr2 : Nat → Option Nat} {p : Nat} (h1 : co p = co2 p) (h2 : cr p = cr2 p) : knd co cr p = knd co2 cr2 p := by
  unfold knd
  rw [h1, h2]
theorem kindR_un {p r r2 : Int32} (h : kindR w x y wy re de p r) (h2 : kindR w x y wy re de p r2) : r = r2 := by
  unfold kindR at h h2
  cases e : pt w p with
  | none =>
    rw [e] at h h2
    exact h.trans h2.symm
  | some j =>
    rw [e] at h h2
    obtain ⟨co, cr, cc, s1, rfl⟩ := h
    obtain ⟨co2, cr2, cc2, s2, rfl⟩ := h2
    obtain ⟨u1, u2, -⟩ := s1.uniq s2
    rw [knd_congr (u1 j (pt_s e).1) (u2 j (pt_s e).1)]
theorem crowdR_un {p r r2 : Int32} (h : crowdR w x y wy re de p r) (h2 : crowdR w x y wy re de p r2) : r = r2 := by
  unfold crowdR at h h2
  cases e : pt w p with
  | none =>
    rw [e] at h h2
    exact h.trans h2.symm
  | some j =>
    rw [e] at h h2
    obtain ⟨co, cr, cc, s1, rfl⟩ := h
    obtain ⟨co2, cr2, cc2, s2, rfl⟩ := h2
    obtain ⟨u1, u2, -⟩ := s1.uniq s2
    rw [u2 j (pt_s e).1]
theorem sum1_congr {f g : Nat → Nat} (h : ∀ j, j < 120 → f j = g j) : sum1 f = sum1 g := by
  rw [sum1_eq, sum1_eq]
  exact sumN_congr 120 h
theorem firstN_congr {s s2 : Nat → Bool} : ∀ n, (∀ j, j < n → s j = s2 j) → firstN s n = firstN s2 n
  | 0, _ => rfl
  | n + 1, h => by
    unfold firstN
    rw [firstN_congr n (fun j hj => h j (by omega)), h n (by omega)]
theorem fst1_congr {s s2 : Nat → Bool} (h : ∀ j, j < 120 → s j = s2 j) : fst1 s = fst1 s2 := by
  rw [fst1_eq, fst1_eq]
  exact firstN_congr 120 h
theorem mnf_congr {z : Int32} {s s2 : Nat → Bool} : ∀ n, (∀ j, j < n → s j = s2 j) → mnf x s z n = mnf x s2 z n
  | 0, _ => rfl
  | n + 1, h => by
    unfold mnf
    rw [mnf_congr n (fun j hj => h j (by omega)), h n (by omega)]
theorem mxf_congr {z : Int32} {s s2 : Nat → Bool} : ∀ n, (∀ j, j < n → s j = s2 j) → mxf x s z n = mxf x s2 z n
  | 0, _ => rfl
  | n + 1, h => by
    unfold mxf
    rw [mxf_congr n (fun j hj => h j (by omega)), h n (by omega)]
theorem mn1_congr {z : Int32} {s s2 : Nat → Bool} (h : ∀ j, j < 120 → s j = s2 j) : mn1 x s z = mn1 x s2 z := by
  rw [mn1_eq, mn1_eq]
  exact mnf_congr 120 h
theorem mx1_congr {z : Int32} {s s2 : Nat → Bool} (h : ∀ j, j < 120 → s j = s2 j) : mx1 x s z = mx1 x s2 z := by
  rw [mx1_eq, mx1_eq]
  exact mxf_congr 120 h
theorem countR_un {z r r2 : Int32} (h : countR w x y wy re de z r) (h2 : countR w x y wy re de z r2) : r = r2 := by
  obtain ⟨co, cr, cc, s1, rfl⟩ := h
  obtain ⟨co2, cr2, cc2, s2, rfl⟩ := h2
  obtain ⟨u1, u2, u3⟩ := s1.uniq s2
  have e : ∀ kd, cntK w co cr kd = cntK w co2 cr2 kd := fun kd => sum1_congr (fun j hj => by rw [knd_congr (u1 j hj) (u2 j hj)])
  unfold countF
  rw [u3, e, e, e]
theorem aboutR_un {c z r r2 : Int32} (h : aboutR w x y wy re de c z r) (h2 : aboutR w x y wy re de c z r2) : r = r2 := by
  obtain ⟨co, cr, cc, s1, rfl⟩ := h
  obtain ⟨co2, cr2, cc2, s2, rfl⟩ := h2
  obtain ⟨u1, u2, u3⟩ := s1.uniq s2
  have e1 : sum1 (fun p => if cr p = some c.toNatClampNeg then 1 else 0) = sum1 (fun p => if cr2 p = some c.toNatClampNeg then 1 else 0) := sum1_congr (fun j hj => by rw [u2 j hj])
  have e2 : sum1 (fun p => if co p = true ∧ cr p = some c.toNatClampNeg then 1 else 0) = sum1 (fun p => if co2 p = true ∧ cr2 p = some c.toNatClampNeg then 1 else 0) := sum1_congr (fun j hj => by rw [u1 j hj, u2 j hj])
  have e3 : sum1 (fun p => if cr p = some c.toNatClampNeg then w p else 0) = sum1 (fun p => if cr2 p = some c.toNatClampNeg then w p else 0) := sum1_congr (fun j hj => by rw [u2 j hj])
  have e4 : fst1 (fun p => co p && decide (cr p = some c.toNatClampNeg)) = fst1 (fun p => co2 p && decide (cr2 p = some c.toNatClampNeg)) := fst1_congr (fun j hj => by rw [u1 j hj, u2 j hj])
  have e5 : ∀ j, j < 120 → decide (cr j = some c.toNatClampNeg) = decide (cr2 j = some c.toNatClampNeg) := fun j hj => by rw [u2 j hj]
  unfold aboutF
  rw [u3, e1, e2, e3, e4, mn1_congr (x := x) e5, mn1_congr (x := y) e5, mx1_congr (x := x) e5, mx1_congr (x := y) e5]
theorem belongsR_un {p q r r2 : Int32} (h : belongsR w x y wy re de p q r) (h2 : belongsR w x y wy re de p q r2) : r = r2 := by
  unfold belongsR at h h2
  by_cases c : isPl p q = true
  · rw [if_pos c] at h h2
    obtain ⟨co, cr, cc, s1, rfl⟩ := h
    obtain ⟨co2, cr2, cc2, s2, rfl⟩ := h2
    obtain ⟨u1, u2, -⟩ := s1.uniq s2
    rw [lcs1_eq, lcs1_eq, lcs_congr2 (Nat.le_refl 120) u1 u2]
  · rw [if_neg c] at h h2
    exact h.trans h2.symm
theorem crowdsR_un {z : Int64} {r r2 : Int32} (h : crowdsR w x y wy de z r) (h2 : crowdsR w x y wy de z r2) : r = r2 := by
  unfold crowdsR at h h2
  by_cases c : z < 0
  · rw [if_pos c] at h h2
    exact h.trans h2.symm
  · rw [if_neg c] at h h2
    obtain ⟨co, cr, cc, s1, rfl⟩ := h
    obtain ⟨co2, cr2, cc2, s2, rfl⟩ := h2
    rw [(s1.uniq s2).2.2]
theorem denseR_un {p : Int32} {r r2 : Int64} (h : denseR w x y wy de p r) (h2 : denseR w x y wy de p r2) : r = r2 := by
  unfold denseR at h h2
  cases e : pt w p with
  | none =>
    rw [e] at h h2
    exact h.trans h2.symm
  | some j =>
    rw [e] at h h2
    obtain ⟨o, h1, rfl⟩ := h
    obtain ⟨o2, h3, rfl⟩ := h2
    rw [isDn_un h1 h3]
theorem meetR_un {p q : Int32} {r r2 : Int64} (h : meetR w x y wy de p q r) (h2 : meetR w x y wy de p q r2) : r = r2 := by
  unfold meetR at h h2
  cases e : pt w p with
  | none =>
    rw [e] at h h2
    exact h.trans h2.symm
  | some i =>
    cases e2 : pt w q with
    | none =>
      rw [e, e2] at h h2
      exact h.trans h2.symm
    | some j =>
      rw [e, e2] at h h2
      dsimp only at h h2
      by_cases c : sum1 w < de
      · rw [if_pos c] at h h2
        exact h.trans h2.symm
      · rw [if_neg c] at h h2
        obtain ⟨d, m, h1, h3, rfl⟩ := h
        obtain ⟨d2, m2, h4, h5, rfl⟩ := h2
        have := isMt_congr (d := d2) (d2 := d) (fun k hk hw => Option.some.inj (isDn_un (h4 k hk hw) (h1 k hk hw))) (pt_s e).1 (pt_s e).2.2 h5
        rw [isMt_un h3 this]
end UN
