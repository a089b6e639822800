/-! From which reach on a point is a core. -/
def isDn (w g : Nat → Nat) (de : Nat) : Option Nat → Prop
  | some r => de ≤ ww w g r ∧ ∀ r', r' < r → ww w g r' < de
  | none => ∀ r, ww w g r < de
theorem isDn_un {w g : Nat → Nat} {de : Nat} {a b : Option Nat} (h1 : isDn w g de a) (h2 : isDn w g de b) : a = b := by
  cases a with
  | none =>
    cases b with
    | none => rfl
    | some r => exact absurd h2.1 (by have := h1 r; omega)
  | some r =>
    cases b with
    | none => exact absurd h1.1 (by have := h2 r; omega)
    | some r' =>
      rcases Nat.lt_trichotomy r r' with h | h | h
      · exact absurd h1.1 (by have := h2.2 r h; omega)
      · rw [h]
      · exact absurd h2.1 (by have := h1.2 r' h; omega)
theorem sumN_mono {f g : Nat → Nat} : ∀ n, (∀ j, j < n → f j ≤ g j) → sumN f n ≤ sumN g n
  | 0, _ => Nat.le_refl 0
  | n + 1, h => by
    have h1 := sumN_mono n (fun j hj => h j (by omega))
    have h2 := h n (by omega)
    show sumN f n + f n ≤ sumN g n + g n
    omega
/-- one more is put in -/
theorem sumN_ins {f f' : Nat → Nat} {at' : Nat} : ∀ k, at' ≤ k → (∀ i, i < at' → f' i = f i) → (∀ i, at' ≤ i → i < k → f' (i + 1) = f i) → sumN f' (k + 1) = sumN f k + f' at'
  | 0, h, _, _ => by
    have e : at' = 0 := by omega
    subst e
    show 0 + f' 0 = 0 + f' 0
    rfl
  | k + 1, h, h1, h2 => by
    by_cases e : at' = k + 1
    · subst e
      show sumN f' (k + 1) + f' (k + 1) = _
      rw [sumN_congr (k + 1) h1]
    · have ih := sumN_ins k (by omega) h1 (fun i a b => h2 i a (by omega))
      show sumN f' (k + 1) + f' (k + 1) = sumN f k + f k + f' at'
      rw [ih, h2 k (by omega) (by omega)]
      omega
def kSf (ng nw : Nat → Nat) (r : Nat) : Nat → Nat := fun i => if ng i ≤ r then nw i else 0
/-- what is kept within a reach -/
def kS (ng nw : Nat → Nat) (k r : Nat) : Nat := sumN (kSf ng nw r) k
def srtN (ng : Nat → Nat) (k : Nat) : Prop := ∀ i j, i ≤ j → j < k → ng i ≤ ng j
/-- (gap, weight) is put in at its place -/
def InsR (ng nw ng2 nw2 : Nat → Nat) (k gap wt : Nat) : Prop := ∃ at', at' ≤ k ∧ (∀ i, i < at' → ng2 i = ng i ∧ nw2 i = nw i) ∧ ng2 at' = gap ∧ nw2 at' = wt ∧ (∀ i, at' ≤ i → i < k → ng2 (i + 1) = ng i ∧ nw2 (i + 1) = nw i) ∧ (∀ i, i < at' → ng i ≤ gap) ∧ (∀ i, at' ≤ i → i < k → gap < ng i)
theorem InsR.sum {ng nw ng2 nw2 : Nat → Nat} {k gap wt : Nat} (h : InsR ng nw ng2 nw2 k gap wt) : sumN nw2 (k + 1) = sumN nw k + wt := by
  obtain ⟨a, h0, h1, h2, h3, h4, -, -⟩ := h
  rw [sumN_ins (f := nw) k h0 (fun i hi => (h1 i hi).2) (fun i a b => (h4 i a b).2), h3]
theorem InsR.kk {ng nw ng2 nw2 : Nat → Nat} {k gap wt : Nat} (h : InsR ng nw ng2 nw2 k gap wt) (r : Nat) : kS ng2 nw2 (k + 1) r = kS ng nw k r + (if gap ≤ r then wt else 0) := by
  obtain ⟨a, h0, h1, h2, h3, h4, -, -⟩ := h
  unfold kS
  rw [sumN_ins (f := kSf ng nw r) (f' := kSf ng2 nw2 r) k h0 (fun i hi => by unfold kSf; rw [(h1 i hi).1, (h1 i hi).2]) (fun i a b => by unfold kSf; rw [(h4 i a b).1, (h4 i a b).2])]
  unfold kSf
  rw [h2, h3]
theorem InsR.srt {ng nw ng2 nw2 : Nat → Nat} {k gap wt : Nat} (h : InsR ng nw ng2 nw2 k gap wt) (hs : srtN ng k) : srtN ng2 (k + 1) := by
  obtain ⟨a, h0, h1, h2, h3, h4, h5, h6⟩ := h
  have val : ∀ i, i < k + 1 → (i < a ∧ ng2 i = ng i) ∨ (i = a ∧ ng2 i = gap) ∨ (a < i ∧ ng2 i = ng (i - 1)) := fun i hi => by
    rcases Nat.lt_trichotomy i a with z | z | z
    · exact Or.inl ⟨z, (h1 i z).1⟩
    · exact Or.inr (Or.inl ⟨z, by rw [z]; exact h2⟩)
    · refine Or.inr (Or.inr ⟨z, ?_⟩)
      have := (h4 (i - 1) (by omega) (by omega)).1
      rw [show i - 1 + 1 = i by omega] at this
      exact this
  intro i j hij hj
  rcases val i (by omega) with ⟨a1, a2⟩ | ⟨a1, a2⟩ | ⟨a1, a2⟩ <;> rcases val j hj with ⟨b1, b2⟩ | ⟨b1, b2⟩ | ⟨b1, b2⟩ <;> rw [a2, b2]
  · exact hs i j hij (by omega)
  · exact h5 i a1
  · exact hs i (j - 1) (by omega) (by omega)
  · omega
  · exact Nat.le_refl _
  · exact Nat.le_of_lt (h6 (j - 1) (by omega) (by omega))
  · omega
  · omega
  · exact hs (i - 1) (j - 1) (by omega) (by omega)
theorem InsR.last {ng nw ng2 nw2 : Nat → Nat} {k gap wt : Nat} (h : InsR ng nw ng2 nw2 k gap wt) (hk : 1 ≤ k) (hg : gap < ng (k - 1)) : ng2 k = ng (k - 1) := by
  obtain ⟨a, h0, h1, h2, h3, h4, h5, h6⟩ := h
  have : a ≤ k - 1 := by
    rcases Nat.lt_or_ge (k - 1) a with z | z
    · have := h5 (k - 1) z
      omega
    · exact z
  have h8 := (h4 (k - 1) this (by omega)).1
  rw [show k - 1 + 1 = k by omega] at h8
  exact h8
/-- what is known of the kept ones, before those that are not needed have gone -/
def dT (w g : Nat → Nat) (de q k b : Nat) (ng nw : Nat → Nat) : Prop := k ≤ q ∧ b = sumN nw k ∧ srtN ng k ∧ (∀ r, kS ng nw k r ≤ sumN (wwf w g r) q) ∧ (∀ r, (b < de ∨ (1 ≤ k ∧ r < ng (k - 1))) → kS ng nw k r = sumN (wwf w g r) q)
def dI (w g : Nat → Nat) (de q k b : Nat) (ng nw : Nat → Nat) : Prop := dT w g de q k b ng nw ∧ (de ≤ b → b < de + nw (k - 1))
theorem kS_le {ng nw : Nat → Nat} (k r : Nat) : kS ng nw k r ≤ sumN nw k := sumN_mono k (fun j _ => by unfold kSf; split <;> omega)
theorem dI_0 {w g : Nat → Nat} {de : Nat} (h : 1 ≤ de) (ng nw : Nat → Nat) : dI w g de 0 0 0 ng nw := ⟨⟨Nat.le_refl 0, rfl, fun i j _ h => absurd h (by omega), fun r => Nat.le_refl 0, fun r _ => rfl⟩, fun h2 => by omega⟩
theorem wwf_0 {w g : Nat → Nat} {r q : Nat} (h : w q = 0) : wwf w g r q = 0 := by
  unfold wwf
  rw [if_neg (by omega)]
theorem wwf_y {w g : Nat → Nat} {r q : Nat} (h : 0 < w q) : wwf w g r q = if g q ≤ r then w q else 0 := by
  unfold wwf
  by_cases e : g q ≤ r
  · rw [if_pos ⟨h, e⟩, if_pos e]
  · rw [if_neg (fun z => e z.2), if_neg e]
theorem dI_free {w g : Nat → Nat} {de q k b : Nat} {ng nw : Nat → Nat} (h : dI w g de q k b ng nw) (hw : w q = 0) : dI w g de (q + 1) k b ng nw := by
  obtain ⟨⟨h1, h2, h3, h4, h5⟩, h6⟩ := h
  have e : ∀ r, sumN (wwf w g r) (q + 1) = sumN (wwf w g r) q := fun r => by
    show _ + wwf w g r q = _
    rw [wwf_0 hw]
    rfl
  exact ⟨⟨by omega, h2, h3, fun r => by rw [e]; exact h4 r, fun r hr => by rw [e]; exact h5 r hr⟩, h6⟩
theorem d_pos {w g : Nat → Nat} {de q k b : Nat} {ng nw : Nat → Nat} (h : dT w g de q k b ng nw) (hd : 1 ≤ de) (hb : de ≤ b) : 1 ≤ k := by
  obtain ⟨h1, h2, -⟩ := h
  rcases Nat.eq_zero_or_pos k with z | z
  · subst z
    have : b = 0 := h2
    omega
  · exact z
/-- one that is too far is left out -/
theorem dI_far {w g : Nat → Nat} {de q k b : Nat} {ng nw : Nat → Nat} (h : dI w g de q k b ng nw) (hd : 1 ≤ de) (hb : de ≤ b) (hg : ng (k - 1) ≤ g q) : dI w g de (q + 1) k b ng nw := by
  obtain ⟨ht, h6⟩ := h
  have hk := d_pos ht hd hb
  obtain ⟨h1, h2, h3, h4, h5⟩ := ht
  refine ⟨⟨by omega, h2, h3, fun r => ?_, fun r hr => ?_⟩, h6⟩
  · have := h4 r
    show _ ≤ _ + wwf w g r q
    omega
  · rcases hr with hr | hr
    · omega
    · show _ = _ + wwf w g r q
      rw [h5 r (Or.inr hr)]
      unfold wwf
      rw [if_neg (by omega)]
      rfl
/-- one more is kept -/
theorem dT_ins {w g : Nat → Nat} {de q k b : Nat} {ng nw ng2 nw2 : Nat → Nat} (h : dI w g de q k b ng nw) (hd : 1 ≤ de) (hw : 0 < w q) (hi : InsR ng nw ng2 nw2 k (g q) (w q)) (hc : b < de ∨ g q < ng (k - 1)) : dT w g de (q + 1) (k + 1) (b + w q) ng2 nw2 := by
  obtain ⟨ht, -⟩ := h
  have hpos := d_pos ht hd
  obtain ⟨h1, h2, h3, h4, h5⟩ := ht
  refine ⟨by omega, by rw [hi.sum, h2], hi.srt h3, fun r => ?_, fun r hr => ?_⟩
  · rw [hi.kk r]
    have := h4 r
    show _ ≤ _ + wwf w g r q
    rw [wwf_y hw]
    omega
  · rw [hi.kk r]
    show _ = _ + wwf w g r q
    rw [wwf_y hw]
    have key : kS ng nw k r = sumN (wwf w g r) q := by
      by_cases hb : b < de
      · exact h5 r (Or.inl hb)
      · have hk := hpos (by omega)
        rcases hr with hr | hr
        · omega
        · rw [show k + 1 - 1 = k by omega, hi.last hk (by omega)] at hr
          exact h5 r (Or.inr ⟨hk, hr.2⟩)
    rw [key]
/-- the last one isn't needed -/
theorem dT_drop {w g : Nat → Nat} {de q k b : Nat} {ng nw : Nat → Nat} (h : dT w g de q (k + 1) b ng nw) (hd : 1 ≤ de) (hb : de + nw k ≤ b) : dT w g de q k (b - nw k) ng nw := by
  obtain ⟨h1, h2, h3, h4, h5⟩ := h
  have e : sumN nw (k + 1) = sumN nw k + nw k := rfl
  have hb2 : b - nw k = sumN nw k := by omega
  have hk1 : 1 ≤ k := by
    rcases Nat.eq_zero_or_pos k with z | z
    · subst z
      have : sumN nw 0 = 0 := rfl
      omega
    · exact z
  refine ⟨by omega, hb2, fun i j a c => h3 i j a (by omega), fun r => ?_, fun r hr => ?_⟩
  · have := h4 r
    have e2 : kS ng nw (k + 1) r = kS ng nw k r + kSf ng nw r k := rfl
    omega
  · rcases hr with hr | hr
    · omega
    · have hs := h3 (k - 1) k (by omega) (by omega)
      have e2 : kS ng nw (k + 1) r = kS ng nw k r + kSf ng nw r k := rfl
      have e3 : kSf ng nw r k = 0 := by
        unfold kSf
        rw [if_neg (by omega)]
      have := h5 r (Or.inr ⟨by omega, by rw [show k + 1 - 1 = k by omega]; omega⟩)
      omega
theorem dI_done {w g : Nat → Nat} {de q k b : Nat} {ng nw : Nat → Nat} (h : dT w g de q k b ng nw) (hs : k = 0 ∨ b < de + nw (k - 1)) (hd : 1 ≤ de) : dI w g de q k b ng nw := ⟨h, fun hb => by
  rcases hs with hs | hs
  · have := d_pos h hd hb
    omega
  · exact hs⟩
/-- at the end -/
theorem dI_some {w g : Nat → Nat} {de k b : Nat} {ng nw : Nat → Nat} (h : dI w g de 120 k b ng nw) (hd : 1 ≤ de) (hb : de ≤ b) : isDn w g de (some (ng (k - 1))) := by
  obtain ⟨ht, h6⟩ := h
  have hk := d_pos ht hd hb
  obtain ⟨h1, h2, h3, h4, h5⟩ := ht
  have h6 := h6 hb
  constructor
  · have e : kS ng nw k (ng (k - 1)) = sumN nw k := sumN_congr k (fun j hj => by
      unfold kSf
      rw [if_pos (h3 j (k - 1) (by omega) (by omega))])
    have := h4 (ng (k - 1))
    unfold ww
    rw [sum1_eq]
    omega
  · intro r hr
    unfold ww
    rw [sum1_eq, ← h5 r (Or.inr ⟨hk, hr⟩)]
    obtain ⟨k', rfl⟩ : ∃ k', k = k' + 1 := ⟨k - 1, by omega⟩
    have e2 : kS ng nw (k' + 1) r = kS ng nw k' r + kSf ng nw r k' := rfl
    rw [show k' + 1 - 1 = k' by omega] at hr h6
    have e3 : kSf ng nw r k' = 0 := by
      unfold kSf
      rw [if_neg (by omega)]
    have e4 : sumN nw (k' + 1) = sumN nw k' + nw k' := rfl
    have := kS_le (ng := ng) (nw := nw) k' r
    omega
theorem dI_none {w g : Nat → Nat} {de k b : Nat} {ng nw : Nat → Nat} (h : dI w g de 120 k b ng nw) (hb : b < de) : isDn w g de none := by
  obtain ⟨⟨h1, h2, h3, h4, h5⟩, h6⟩ := h
  intro r
  unfold ww
  rw [sum1_eq, ← h5 r (Or.inl hb)]
  have := kS_le (ng := ng) (nw := nw) k r
  omega
theorem sumN_ge {f : Nat → Nat} {j : Nat} : ∀ {n : Nat}, j < n → f j ≤ sumN f n
  | 0, h => absurd h (by omega)
  | n + 1, h => by
    show f j ≤ sumN f n + f n
    by_cases e : j = n
    · rw [e]; omega
    · have := sumN_ge (f := f) (j := j) (n := n) (by omega)
      omega
theorem nI_dec {k : Nat} : nI (k + 1) + Int32.ofInt (-1) = nI k := by
  rw [show Int32.ofInt (-1) = -1 from by decide]
  exact pk_m1 k
