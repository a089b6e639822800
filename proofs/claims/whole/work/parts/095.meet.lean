/-! From which reach on two points hang together. -/
def eD (w d : Nat → Nat) (g : Nat → Nat → Nat) (r a b : Nat) : Prop := a < 120 ∧ b < 120 ∧ 0 < w a ∧ 0 < w b ∧ d a ≤ r ∧ d b ≤ r ∧ g a b ≤ r
def RR (w d : Nat → Nat) (g : Nat → Nat → Nat) (p r a : Nat) : Prop := d p ≤ r ∧ cnn (eD w d g r) p a
/-- the least reach with which two hang together -/
def isMt (w d : Nat → Nat) (g : Nat → Nat → Nat) (p q m : Nat) : Prop := RR w d g p m q ∧ ∀ r, RR w d g p r q → m ≤ r
theorem isMt_un {w d : Nat → Nat} {g : Nat → Nat → Nat} {p q m m2 : Nat} (h1 : isMt w d g p q m) (h2 : isMt w d g p q m2) : m = m2 := Nat.le_antisymm (h1.2 _ h2.1) (h2.2 _ h1.1)
theorem RR_mono {w d : Nat → Nat} {g : Nat → Nat → Nat} {p r r2 a : Nat} (h : RR w d g p r a) (hr : r ≤ r2) : RR w d g p r2 a :=
  ⟨Nat.le_trans h.1 hr, cnn_ind (S := fun z => cnn (eD w d g r2) p z) h.2 (cnn_rf p) (fun m q h1 h2 => cnn_st h1 ⟨h2.1, h2.2.1, h2.2.2.1, h2.2.2.2.1, Nat.le_trans h2.2.2.2.2.1 hr, Nat.le_trans h2.2.2.2.2.2.1 hr, Nat.le_trans h2.2.2.2.2.2.2 hr⟩)⟩
theorem RR_d {w d : Nat → Nat} {g : Nat → Nat → Nat} {p r a : Nat} (h : RR w d g p r a) : d a ≤ r := cnn_ind (S := fun z => d z ≤ r) h.2 h.1 (fun _ _ _ h2 => h2.2.2.2.2.2.1)
abbrev MX : Nat := 9223372036854775807
/-- what holds of costs and settled points -/
def DJ (w d : Nat → Nat) (g : Nat → Nat → Nat) (p : Nat) (cs : Nat → Nat) (se : Nat → Bool) : Prop :=
  (∀ j, j < 120 → 0 < w j → cs j < MX → RR w d g p (cs j) j) ∧
  (∀ a, a < 120 → 0 < w a → se a = true → cs a < MX ∧ ∀ r, RR w d g p r a → cs a ≤ r) ∧
  (∀ a b, a < 120 → b < 120 → 0 < w a → 0 < w b → se a = true → se b = false → cs b ≤ max (max (cs a) (d b)) (g a b)) ∧
  cs p ≤ d p ∧ (p < 120 ∧ 0 < w p) ∧ (∀ j, j < 120 → 0 < w j → d j < MX) ∧ (∀ a b, g a b < MX)
theorem DJ_min {w d : Nat → Nat} {g : Nat → Nat → Nat} {p : Nat} {cs : Nat → Nat} {se : Nat → Bool} (h : DJ w d g p cs se) {b : Nat} (hb : b < 120) (hw : 0 < w b) (hs : se b = false) (hm : ∀ j, j < 120 → 0 < w j → se j = false → cs b ≤ cs j) : cs b < MX ∧ ∀ r, RR w d g p r b → cs b ≤ r := by
  obtain ⟨h1, h2, h3, h4, h5, h6, h7⟩ := h
  constructor
  · cases hp : se p with
    | false =>
      have := hm p h5.1 h5.2 hp
      have := h6 p h5.1 h5.2
      omega
    | true =>
      have a1 := h3 p b h5.1 hb h5.2 hw hp hs
      have a2 := (h2 p h5.1 h5.2 hp).1
      have a3 := h6 b hb hw
      have a4 := h7 p b
      have : max (max (cs p) (d b)) (g p b) < MX := Nat.max_lt.mpr ⟨Nat.max_lt.mpr ⟨a2, a3⟩, a4⟩
      omega
  · intro r hr
    have key : ∀ z, cnn (eD w d g r) p z → (z < 120 ∧ 0 < w z) ∧ (cs b ≤ r ∨ se z = true) := fun z hz => by
      obtain ⟨k, hz⟩ := hz
      induction k generalizing z with
      | zero =>
        have e : p = z := hz
        subst e
        refine ⟨h5, ?_⟩
        cases hp : se p with
        | true => exact Or.inr rfl
        | false =>
          have := hm p h5.1 h5.2 hp
          have := hr.1
          exact Or.inl (by omega)
      | succ k ih =>
        obtain ⟨m, m1, m2⟩ := hz
        obtain ⟨i1, i2⟩ := ih m m1
        refine ⟨⟨m2.2.1, m2.2.2.2.1⟩, ?_⟩
        rcases i2 with i2 | i2
        · exact Or.inl i2
        · cases hz2 : se z with
          | true => exact Or.inr rfl
          | false =>
            have a1 := h3 m z i1.1 m2.2.1 i1.2 m2.2.2.2.1 i2 hz2
            have a2 := (h2 m i1.1 i1.2 i2).2 r ⟨hr.1, k, m1⟩
            have a3 : max (max (cs m) (d z)) (g m z) ≤ r := Nat.max_le.mpr ⟨Nat.max_le.mpr ⟨a2, m2.2.2.2.2.2.1⟩, m2.2.2.2.2.2.2⟩
            have a4 := hm z m2.2.1 m2.2.2.2.1 hz2
            exact Or.inl (by omega)
    rcases (key b hr.2).2 with h | h
    · exact h
    · rw [hs] at h
      cases h
/-- the costs when one more is settled -/
def rlx (w d : Nat → Nat) (g : Nat → Nat) (cb : Nat) (cs : Nat → Nat) (se : Nat → Bool) : Nat → Nat := fun j => if 0 < w j ∧ se j = false then min (cs j) (max (max cb (d j)) (g j)) else cs j
theorem DJ_step {w d : Nat → Nat} {g : Nat → Nat → Nat} {p : Nat} {cs cs2 : Nat → Nat} {se : Nat → Bool} (h : DJ w d g p cs se) {b : Nat} (hb : b < 120) (hw : 0 < w b) (hs : se b = false) (hm : ∀ j, j < 120 → 0 < w j → se j = false → cs b ≤ cs j) (h2 : ∀ j, j < 120 → cs2 j = rlx w d (g b) (cs b) cs (up se b true) j) : DJ w d g p cs2 (up se b true) := by
  obtain ⟨m1, m2⟩ := DJ_min h hb hw hs hm
  obtain ⟨h1, hB, h3, h4, h5, h6, h7⟩ := h
  have keep : ∀ j, j < 120 → up se b true j = true → cs2 j = cs j := fun j hj hse => by
    rw [h2 j hj]
    unfold rlx
    rw [if_neg (by rw [hse]; simp)]
  have le : ∀ j, j < 120 → cs2 j ≤ cs j := fun j hj => by
    rw [h2 j hj]
    unfold rlx
    split
    · exact Nat.min_le_left _ _
    · exact Nat.le_refl _
  have bs : cs2 b = cs b := keep b hb up_s
  refine ⟨fun j hj hwj hlt => ?_, fun a ha hwa hse => ?_, fun a c ha hc hwa hwc hsa hsc => ?_, Nat.le_trans (le p h5.1) h4, h5, h6, h7⟩
  · rw [h2 j hj] at hlt ⊢
    unfold rlx at hlt ⊢
    by_cases c : 0 < w j ∧ up se b true j = false
    · rw [if_pos c] at hlt ⊢
      rcases Nat.le_total (cs j) (max (max (cs b) (d j)) (g b j)) with z | z
      · rw [Nat.min_eq_left z] at hlt ⊢
        exact h1 j hj hwj hlt
      · rw [Nat.min_eq_right z] at hlt ⊢
        have hb1 := h1 b hb hw m1
        have hbd := RR_d hb1
        have e1 : cs b ≤ max (max (cs b) (d j)) (g b j) := Nat.le_trans (Nat.le_max_left _ _) (Nat.le_max_left _ _)
        have hb2 := RR_mono hb1 e1
        exact ⟨hb2.1, cnn_st hb2.2 ⟨hb, hj, hw, hwj, Nat.le_trans hbd e1, Nat.le_trans (Nat.le_max_right _ _) (Nat.le_max_left _ _), Nat.le_max_right _ _⟩⟩
    · rw [if_neg c] at hlt ⊢
      exact h1 j hj hwj hlt
  · rw [keep a ha hse]
    by_cases e : a = b
    · subst e
      exact ⟨m1, m2⟩
    · rw [up_n e] at hse
      exact hB a ha hwa hse
  · rw [keep a ha hsa]
    have hcb : c ≠ b := fun e => by
      rw [e, up_s] at hsc
      cases hsc
    by_cases e : a = b
    · subst e
      rw [h2 c hc]
      unfold rlx
      rw [if_pos ⟨hwc, hsc⟩]
      exact Nat.min_le_right _ _
    · rw [up_n e] at hsa
      have := h3 a c ha hc hwa hwc hsa (by rw [up_n hcb] at hsc; exact hsc)
      exact Nat.le_trans (le c hc) this
theorem DJ_0 {w d : Nat → Nat} {g : Nat → Nat → Nat} {p : Nat} {cs : Nat → Nat} {se : Nat → Bool} (hp : p < 120) (hw : 0 < w p) (hd : ∀ j, j < 120 → 0 < w j → d j < MX) (hg : ∀ a b, g a b < MX) (hc : cs p = d p) (hn : ∀ j, j < 120 → j ≠ p → cs j = MX) (hs : ∀ j, j < 120 → se j = false) : DJ w d g p cs se := by
  refine ⟨fun j hj hwj hlt => ?_, fun a ha _ hse => ?_, fun a b ha _ _ _ hse => ?_, by rw [hc]; exact Nat.le_refl _, ⟨hp, hw⟩, hd, hg⟩
  · by_cases e : j = p
    · subst e
      rw [hc]
      exact ⟨Nat.le_refl _, cnn_rf j⟩
    · rw [hn j hj e] at hlt
      omega
  · rw [hs a ha] at hse
    cases hse
  · rw [hs a ha] at hse
    cases hse
/-- the cheapest that isn't settled -/
def chps (cs : Nat → Nat) (n : Nat) : Option Nat → Bool
  | none => true
  | some b => decide (cs n < cs b)
def chp (w : Nat → Nat) (se : Nat → Bool) (cs : Nat → Nat) : Nat → Option Nat
  | 0 => none
  | n + 1 => if 0 < w n ∧ se n = false ∧ chps cs n (chp w se cs n) = true then some n else chp w se cs n
noncomputable def chp1 (w : Nat → Nat) (se : Nat → Bool) (cs : Nat → Nat) : Option Nat := hide (chp w se cs 120)
theorem chp1_eq (w : Nat → Nat) (se : Nat → Bool) (cs : Nat → Nat) : chp1 w se cs = chp w se cs 120 := hide_eq _
theorem chp_y {w : Nat → Nat} {se : Nat → Bool} {cs : Nat → Nat} {n : Nat} (h1 : 0 < w n) (h2 : se n = false) (h3 : chps cs n (chp w se cs n) = true) : chp w se cs (n + 1) = some n := if_pos ⟨h1, h2, h3⟩
theorem chp_n {w : Nat → Nat} {se : Nat → Bool} {cs : Nat → Nat} {n : Nat} (h : ¬ (0 < w n ∧ se n = false ∧ chps cs n (chp w se cs n) = true)) : chp w se cs (n + 1) = chp w se cs n := if_neg h
theorem chp_ok {w : Nat → Nat} {se : Nat → Bool} {cs : Nat → Nat} : ∀ n, (∀ b, chp w se cs n = some b → b < n ∧ 0 < w b ∧ se b = false ∧ ∀ j, j < n → 0 < w j → se j = false → cs b ≤ cs j) ∧ (chp w se cs n = none → ∀ j, j < n → ¬ (0 < w j ∧ se j = false))
  | 0 => ⟨fun b h => (by cases h), fun _ j hj => absurd hj (by omega)⟩
  | n + 1 => by
    obtain ⟨i1, i2⟩ := chp_ok (w := w) (se := se) (cs := cs) n
    by_cases c : 0 < w n ∧ se n = false ∧ chps cs n (chp w se cs n) = true
    · rw [chp_y c.1 c.2.1 c.2.2]
      refine ⟨fun b hb => ?_, fun h => by cases h⟩
      cases hb
      refine ⟨by omega, c.1, c.2.1, fun j hj hw hs => ?_⟩
      by_cases e : j = n
      · rw [e]; exact Nat.le_refl _
      · cases hq : chp w se cs n with
        | none => exact absurd ⟨hw, hs⟩ (i2 hq j (by omega))
        | some b =>
          have h1 := (i1 b hq).2.2.2 j (by omega) hw hs
          have h2 := c.2.2
          rw [hq] at h2
          have h3 : cs n < cs b := of_decide_eq_true h2
          omega
    · rw [chp_n c]
      refine ⟨fun b hb => ?_, fun h j hj => ?_⟩
      · obtain ⟨a1, a2, a3, a4⟩ := i1 b hb
        refine ⟨by omega, a2, a3, fun j hj hw hs => ?_⟩
        by_cases e : j = n
        · subst e
          have h2 : ¬ chps cs j (chp w se cs j) = true := fun z => c ⟨hw, hs, z⟩
          rw [hb] at h2
          have h3 : ¬ cs j < cs b := fun z => h2 (decide_eq_true z)
          omega
        · exact a4 j (by omega) hw hs
      · by_cases e : j = n
        · subst e
          intro z
          refine c ⟨z.1, z.2, ?_⟩
          rw [h]
          rfl
        · exact i2 h j (by omega)
theorem chp_lt {w : Nat → Nat} {se : Nat → Bool} {cs : Nat → Nat} {n b : Nat} (h : chp w se cs n = some b) : b < n := ((chp_ok n).1 b h).1
def bdN (ng nw : Nat → Nat) : Prop := (∀ i, ng i < MX) ∧ ∀ i, nw i ≤ 20
theorem up_bd {f : Nat → Nat} {B k v : Nat} (h : ∀ i, f i < B) (hv : v < B) : ∀ i, up f k v i < B := fun i => by
  unfold up
  split
  · exact hv
  · exact h i
theorem up_le {f : Nat → Nat} {B k v : Nat} (h : ∀ i, f i ≤ B) (hv : v ≤ B) : ∀ i, up f k v i ≤ B := fun i => by
  unfold up
  split
  · exact hv
  · exact h i
/-- the reaches from which on points are cores are known -/
def CfOk (w : Nat → Nat) (x y : Nat → Int32) (wy de : Nat) (cf : Nat → Option Nat) (n : Nat) : Prop := ∀ p, p < n → 0 < w p → isDn w (gp wy x y p) de (cf p) ∧ ∀ d, cf p = some d → d < MX
