/-! Points that hang together: paths, roots, their numbers. -/
def pth (A : Nat → Nat → Prop) : Nat → Nat → Nat → Prop
  | 0, p, q => p = q
  | k + 1, p, q => ∃ m, pth A k p m ∧ A m q
def cnn (A : Nat → Nat → Prop) (p q : Nat) : Prop := ∃ k, pth A k p q
theorem cnn_rf {A : Nat → Nat → Prop} (p : Nat) : cnn A p p := ⟨0, rfl⟩
theorem cnn_st {A : Nat → Nat → Prop} {p m q : Nat} (h : cnn A p m) (a : A m q) : cnn A p q := by
  obtain ⟨k, h⟩ := h
  exact ⟨k + 1, m, h, a⟩
theorem cnn_1 {A : Nat → Nat → Prop} {p q : Nat} (a : A p q) : cnn A p q := cnn_st (cnn_rf p) a
theorem pth_ind {A : Nat → Nat → Prop} {S : Nat → Prop} {p : Nat} (h0 : S p) (hs : ∀ m q, S m → A m q → S q) : ∀ (k q : Nat), pth A k p q → S q
  | 0, q, h => by
    have e : p = q := h
    rw [← e]
    exact h0
  | k + 1, q, h => by
    obtain ⟨m, h1, h2⟩ := h
    exact hs m q (pth_ind h0 hs k m h1) h2
theorem cnn_ind {A : Nat → Nat → Prop} {S : Nat → Prop} {p q : Nat} (h : cnn A p q) (h0 : S p) (hs : ∀ m q, S m → A m q → S q) : S q := by
  obtain ⟨k, h⟩ := h
  exact pth_ind h0 hs k q h
theorem cnn_tr {A : Nat → Nat → Prop} {p m q : Nat} (h1 : cnn A p m) (h2 : cnn A m q) : cnn A p q := cnn_ind (S := fun z => cnn A p z) h2 h1 (fun _ _ a b => cnn_st a b)
theorem cnn_sy {A : Nat → Nat → Prop} (hA : ∀ a b, A a b → A b a) {p q : Nat} (h : cnn A p q) : cnn A q p := cnn_ind (S := fun z => cnn A z p) h (cnn_rf p) (fun _ _ a b => cnn_tr (cnn_1 (hA _ _ b)) a)
/-- a root: the least core of those that hang together -/
def rt (C : Nat → Bool) (A : Nat → Nat → Prop) (p : Nat) : Prop := C p = true ∧ ∀ q, q < p → C q = true → ¬ cnn A q p
noncomputable def rtB (C : Nat → Bool) (A : Nat → Nat → Prop) (p : Nat) : Bool := @decide (rt C A p) (Classical.propDecidable _)
theorem rtB_t {C : Nat → Bool} {A : Nat → Nat → Prop} {p : Nat} : rtB C A p = true ↔ rt C A p := by
  unfold rtB
  exact @decide_eq_true_iff (rt C A p) (Classical.propDecidable _)
noncomputable def cRf (C : Nat → Bool) (A : Nat → Nat → Prop) : Nat → Nat := fun p => if rtB C A p = true then 1 else 0
/-- how many roots there are below -/
noncomputable def cR (C : Nat → Bool) (A : Nat → Nat → Prop) (n : Nat) : Nat := sumN (cRf C A) n
theorem cR_y {C : Nat → Bool} {A : Nat → Nat → Prop} {n : Nat} (h : rt C A n) : cR C A (n + 1) = cR C A n + 1 := by
  show sumN _ n + cRf C A n = sumN _ n + 1
  unfold cRf
  rw [if_pos (rtB_t.mpr h)]
theorem cR_n {C : Nat → Bool} {A : Nat → Nat → Prop} {n : Nat} (h : ¬ rt C A n) : cR C A (n + 1) = cR C A n := by
  show sumN _ n + cRf C A n = sumN _ n
  unfold cRf
  rw [if_neg (fun z => h (rtB_t.mp z))]
  rfl
theorem cR_mono {C : Nat → Bool} {A : Nat → Nat → Prop} {m : Nat} : ∀ d, cR C A m ≤ cR C A (m + d)
  | 0 => Nat.le_refl _
  | d + 1 => by
    have h1 := cR_mono (C := C) (A := A) (m := m) d
    show cR C A m ≤ sumN _ (m + d) + cRf C A (m + d)
    have h2 : cR C A (m + d) = sumN (cRf C A) (m + d) := rfl
    omega
theorem cR_lt {C : Nat → Bool} {A : Nat → Nat → Prop} {q n : Nat} (h : rt C A q) (hq : q < n) : cR C A q < cR C A n := by
  have h1 := cR_y h
  have h2 := cR_mono (C := C) (A := A) (m := q + 1) (n - (q + 1))
  rw [show q + 1 + (n - (q + 1)) = n by omega] at h2
  omega
theorem rt_ex {C : Nat → Bool} {A : Nat → Nat → Prop} {p : Nat} (hp : C p = true) : ∃ q, q ≤ p ∧ rt C A q ∧ cnn A q p := by
  obtain ⟨q, ⟨h1, h2⟩, h3⟩ := pk_least (fun q => C q = true ∧ cnn A q p) ⟨p, hp, cnn_rf p⟩
  refine ⟨q, Nat.le_of_not_lt fun z => h3 p z ⟨hp, cnn_rf p⟩, ⟨h1, fun q' hq' hc hn => h3 q' hq' ⟨hc, cnn_tr hn h2⟩⟩, h2⟩
theorem rt_un {C : Nat → Bool} {A : Nat → Nat → Prop} (hA : ∀ a b, A a b → A b a) {q q' p : Nat} (h1 : rt C A q) (h2 : rt C A q') (c1 : cnn A q p) (c2 : cnn A q' p) : q = q' := by
  have c3 : cnn A q q' := cnn_tr c1 (cnn_sy hA c2)
  rcases Nat.lt_trichotomy q q' with h | h | h
  · exact absurd c3 (h2.2 q h h1.1)
  · exact h
  · exact absurd (cnn_sy hA c3) (h1.2 q' h h2.1)
theorem cR_le {C : Nat → Bool} {A : Nat → Nat → Prop} : ∀ n, cR C A n ≤ n
  | 0 => Nat.le_refl 0
  | n + 1 => by
    have h := cR_le (C := C) (A := A) n
    by_cases c : rt C A n
    · rw [cR_y c]; omega
    · rw [cR_n c]; omega
/-- cores are neighbours -/
def adj (C : Nat → Bool) (g : Nat → Nat → Nat) (r : Nat) (p q : Nat) : Prop := p < 120 ∧ q < 120 ∧ C p = true ∧ C q = true ∧ g p q ≤ r
theorem adj_sy {C : Nat → Bool} {g : Nat → Nat → Nat} {r : Nat} (hg : ∀ p q, g p q = g q p) : ∀ a b, adj C g r a b → adj C g r b a := fun a b ⟨h1, h2, h3, h4, h5⟩ => ⟨h2, h1, h4, h3, by rw [hg]; exact h5⟩
theorem adj_congr {C C' : Nat → Bool} {g : Nat → Nat → Nat} {r : Nat} (h : ∀ p, p < 120 → C p = C' p) : adj C g r = adj C' g r := by
  funext p q
  unfold adj
  apply propext
  constructor
  · rintro ⟨h1, h2, h3, h4, h5⟩
    exact ⟨h1, h2, by rw [← h p h1]; exact h3, by rw [← h q h2]; exact h4, h5⟩
  · rintro ⟨h1, h2, h3, h4, h5⟩
    exact ⟨h1, h2, by rw [h p h1]; exact h3, by rw [h q h2]; exact h4, h5⟩
theorem cnn_core {C : Nat → Bool} {g : Nat → Nat → Nat} {r p q : Nat} (h : cnn (adj C g r) p q) (hp : C p = true) : C q = true := cnn_ind (S := fun z => C z = true) h hp (fun _ _ _ a => a.2.2.2.1)
theorem cnn_120 {C : Nat → Bool} {g : Nat → Nat → Nat} {r p q : Nat} (h : cnn (adj C g r) p q) (hp : p < 120) : q < 120 := cnn_ind (S := fun z => z < 120) h hp (fun _ _ _ a => a.2.1)
/-- how many are not settled -/
def unS (se : Nat → Bool) (n : Nat) : Nat := sumN (fun j => if se j = true then 0 else 1) n
theorem unS_keep {se : Nat → Bool} {p : Nat} : ∀ n, n ≤ p → unS (up se p true) n = unS se n
  | 0, _ => rfl
  | n + 1, h => by
    show unS (up se p true) n + (if up se p true n = true then 0 else 1) = unS se n + (if se n = true then 0 else 1)
    rw [unS_keep n (by omega), up_n (by omega)]
theorem unS_up {se : Nat → Bool} {p : Nat} (hs : se p = false) : ∀ n, p < n → unS (up se p true) n + 1 = unS se n
  | 0, h => absurd h (by omega)
  | n + 1, h => by
    show unS (up se p true) n + (if up se p true n = true then 0 else 1) + 1 = unS se n + (if se n = true then 0 else 1)
    by_cases e : p = n
    · subst e
      rw [unS_keep p (Nat.le_refl p), up_s, hs, if_pos rfl, if_neg (by decide)]
    · have h1 := unS_up hs n (by omega)
      rw [up_n (fun z => e z.symm)]
      omega
theorem unS_0 {se : Nat → Bool} : ∀ n, unS se n = 0 → ∀ p, p < n → se p = true
  | 0, _, p, hp => absurd hp (by omega)
  | n + 1, h, p, hp => by
    have e : unS se n + (if se n = true then 0 else 1) = 0 := h
    by_cases c : se n = true
    · by_cases e2 : p = n
      · rw [e2]; exact c
      · exact unS_0 n (by omega) p (by omega)
    · rw [if_neg c] at e
      omega
theorem unS_le (se : Nat → Bool) : ∀ n, unS se n ≤ n
  | 0 => Nat.le_refl 0
  | n + 1 => by
    have h1 := unS_le se n
    show unS se n + (if se n = true then 0 else 1) ≤ n + 1
    split <;> omega
/-- gatherFrom labels what hangs together with the first, and nothing else -/
theorem gF_ok {C : Nat → Bool} {g : Nat → Nat → Nat} {r c f : Nat} {b : Nat → Option Nat} (hf : f < 120) (hcf : C f = true) (hb : ∀ p, p < 120 → b p ≠ some c) (hbf : ∀ p, cnn (adj C g r) f p → b p = none) :
    ∀ (n : Nat) (cr : Nat → Option Nat) (se : Nat → Bool), unS se 120 ≤ n →
      (∀ p, p < 120 → cr p = some c → cnn (adj C g r) f p) → (∀ p, p < 120 → cr p = b p ∨ (cr p = some c ∧ b p = none ∧ C p = true)) → cr f = some c →
      (∀ p, p < 120 → cr p = some c → se p = true → ∀ q, adj C g r p q → b q = none → cr q = some c) → (∀ p, p < 120 → se p = true → cr p ≠ none) →
      (∀ p, p < 120 → cnn (adj C g r) f p → (gF C c g r n cr se).1 p = some c) ∧ (∀ p, p < 120 → ¬ cnn (adj C g r) f p → (gF C c g r n cr se).1 p = b p) ∧ (∀ p, p < 120 → (gF C c g r n cr se).2 p = true → (gF C c g r n cr se).1 p ≠ none) := by
  have fin : ∀ (cr : Nat → Option Nat) (se : Nat → Bool), (∀ p, p < 120 → cr p = some c → se p = true) →
      (∀ p, p < 120 → cr p = some c → cnn (adj C g r) f p) → (∀ p, p < 120 → cr p = b p ∨ (cr p = some c ∧ b p = none ∧ C p = true)) → cr f = some c →
      (∀ p, p < 120 → cr p = some c → se p = true → ∀ q, adj C g r p q → b q = none → cr q = some c) →
      (∀ p, p < 120 → cnn (adj C g r) f p → cr p = some c) ∧ (∀ p, p < 120 → ¬ cnn (adj C g r) f p → cr p = b p) := by
    intro cr se hall h1 h2 h3 h4
    constructor
    · intro p _ hp
      have key : ∀ z, cnn (adj C g r) f z → z < 120 ∧ cr z = some c := fun z hz => by
        obtain ⟨k, hz⟩ := hz
        induction k generalizing z with
        | zero =>
          have e : f = z := hz
          rw [← e]
          exact ⟨hf, h3⟩
        | succ k ih =>
          obtain ⟨m, hm1, hm2⟩ := hz
          obtain ⟨i1, i2⟩ := ih m hm1
          exact ⟨hm2.2.1, h4 m i1 i2 (hall m i1 i2) z hm2 (hbf z ⟨k + 1, m, hm1, hm2⟩)⟩
      exact (key p hp).2
    · intro p hp hn
      rcases h2 p hp with h | h
      · exact h
      · exact absurd (h1 p hp h.1) hn
  intro n
  induction n with
  | zero =>
    intro cr se hu h1 h2 h3 h4 h5
    obtain ⟨f1, f2⟩ := fin cr se (fun p hp _ => unS_0 120 (by omega) p hp) h1 h2 h3 h4
    exact ⟨f1, f2, h5⟩
  | succ n ih =>
    intro cr se hu h1 h2 h3 h4 h5
    unfold gF
    cases hfst : fst1 (selU cr se c) with
    | none =>
      have hn := firstN_nspec (by rw [← fst1_eq]; exact hfst)
      obtain ⟨f1, f2⟩ := fin cr se (fun p hp hc => by
        have := hn p hp
        unfold selU at this
        simp only [hc, decide_true, Bool.true_and, Bool.not_eq_false'] at this
        exact this) h1 h2 h3 h4
      exact ⟨f1, f2, h5⟩
    | some p =>
      obtain ⟨hp, hs, -⟩ := firstN_spec (by rw [← fst1_eq]; exact hfst)
      unfold selU at hs
      simp only [Bool.and_eq_true, decide_eq_true_eq, Bool.not_eq_true'] at hs
      obtain ⟨hs1, hs2⟩ := hs
      have hCp : C p = true := cnn_core (h1 p hp hs1) hcf
      have nv : ∀ q, q < 120 → fill cr (nearC C cr c (g p) r) 120 q = nearC C cr c (g p) r q := fun q hq => fill_in hq
      have mono : ∀ q, q < 120 → cr q = some c → fill cr (nearC C cr c (g p) r) 120 q = some c := fun q hq hc => by
        rw [nv q hq]
        unfold nearC
        rw [if_neg (by rw [hc]; simp), hc]
      have new : ∀ q, q < 120 → fill cr (nearC C cr c (g p) r) 120 q = cr q ∨ (fill cr (nearC C cr c (g p) r) 120 q = some c ∧ cr q = none ∧ adj C g r p q) := fun q hq => by
        rw [nv q hq]
        unfold nearC
        by_cases hc : C q = true ∧ cr q = none ∧ g p q ≤ r
        · rw [if_pos hc]
          exact Or.inr ⟨rfl, hc.2.1, hp, hq, hCp, hc.1, hc.2.2⟩
        · rw [if_neg hc]
          exact Or.inl rfl
      have cn : ∀ q, q < 120 → cr q = none → b q = none := fun q hq hc => by
        rcases h2 q hq with h | h
        · rw [← h]; exact hc
        · exact h.2.1
      refine ih _ _ (by have := unS_up hs2 120 hp; omega) ?_ ?_ (mono f hf h3) ?_ ?_
      · intro q hq hc
        rcases new q hq with h | h
        · exact h1 q hq (by rw [← h]; exact hc)
        · exact cnn_st (h1 p hp hs1) h.2.2
      · intro q hq
        rcases new q hq with h | h
        · rw [h]; exact h2 q hq
        · exact Or.inr ⟨h.1, cn q hq h.2.1, h.2.2.2.2.2.1⟩
      · intro q hq hc hse z hz hbz
        by_cases e : q = p
        · subst e
          rcases h2 z hz.2.1 with h | h
          · rw [nv z hz.2.1]
            unfold nearC
            rw [if_pos ⟨hz.2.2.2.1, by rw [h]; exact hbz, hz.2.2.2.2⟩]
          · exact mono z hz.2.1 h.1
        · rw [up_n e] at hse
          rcases new q hq with h | h
          · exact mono z hz.2.1 (h4 q hq (by rw [← h]; exact hc) hse z hz hbz)
          · exact absurd h.2.1 (h5 q hq hse)
      · intro q hq hse
        by_cases e : q = p
        · subst e
          rw [mono q hq hs1]
          simp
        · rw [up_n e] at hse
          rcases new q hq with h | h
          · rw [h]; exact h5 q hq hse
          · rw [h.1]; simp
/-- gatherCrowds: after n points the crowds of the roots below n stand, and nothing else -/
theorem gS_ok {C : Nat → Bool} {g : Nat → Nat → Nat} {r : Nat} (hg : ∀ p q, g p q = g q p) {cr0 : Nat → Option Nat} {se0 : Nat → Bool} (h0 : ∀ p, p < 120 → cr0 p = none) (hs0 : ∀ p, p < 120 → se0 p = false) :
    ∀ n, n ≤ 120 → (gS C g r cr0 se0 n).2.2 = cR C (adj C g r) n ∧
      (∀ p, p < 120 → ∀ q, q < n → rt C (adj C g r) q → cnn (adj C g r) q p → (gS C g r cr0 se0 n).1 p = some (cR C (adj C g r) q)) ∧
      (∀ p k, p < 120 → (gS C g r cr0 se0 n).1 p = some k → ∃ q, q < n ∧ rt C (adj C g r) q ∧ cnn (adj C g r) q p ∧ k = cR C (adj C g r) q) ∧
      (∀ p, p < 120 → (gS C g r cr0 se0 n).2.1 p = true → (gS C g r cr0 se0 n).1 p ≠ none)
  | 0, _ => by
    refine ⟨rfl, fun p _ q hq => absurd hq (by omega), fun p k hp hk => ?_, fun p hp hse => ?_⟩
    · have e : (gS C g r cr0 se0 0).1 p = none := h0 p hp
      rw [e] at hk
      cases hk
    · have e : (gS C g r cr0 se0 0).2.1 p = false := hs0 p hp
      rw [e] at hse
      cases hse
  | n + 1, hn => by
    obtain ⟨i1, i2, i3, i4⟩ := gS_ok hg (r := r) h0 hs0 n (by omega)
    have hA := adj_sy (C := C) (r := r) hg
    by_cases hc : C n = true ∧ (gS C g r cr0 se0 n).1 n = none
    · have hroot : rt C (adj C g r) n := by
        obtain ⟨q, h1, h2, h3⟩ := rt_ex (A := adj C g r) hc.1
        by_cases e : q = n
        · rw [← e]; exact h2
        · have := i2 n (by omega) q (by omega) h2 h3
          rw [hc.2] at this
          cases this
      rw [gS_y hc.1 hc.2]
      generalize hz : gS C g r cr0 se0 n = z at i1 i2 i3 i4 hc
      obtain ⟨cr1, se1, c1⟩ := z
      dsimp only at i1 i2 i3 i4 hc ⊢
      subst i1
      rw [gF1_eq]
      have fresh : ∀ p, p < 120 → cr1 p ≠ some (cR C (adj C g r) n) := fun p hp h => by
        obtain ⟨q, q1, q2, q3, q4⟩ := i3 p _ hp h
        have := cR_lt q2 q1
        omega
      have un : ∀ p, cnn (adj C g r) n p → cr1 p = none := fun p hp => by
        cases e : cr1 p with
        | none => rfl
        | some k =>
          obtain ⟨q, q1, q2, q3, q4⟩ := i3 p k (cnn_120 hp (by omega)) e
          have := rt_un hA q2 hroot q3 hp
          omega
      obtain ⟨g1, g2, g3⟩ := gF_ok (C := C) (g := g) (r := r) (c := cR C (adj C g r) n) (f := n) (b := cr1) (by omega) hc.1 fresh un 120 (up cr1 n (some (cR C (adj C g r) n))) se1 (unS_le se1 120)
        (fun p hp h => by
          by_cases e : p = n
          · rw [e]; exact cnn_rf n
          · rw [up_n e] at h
            exact absurd h (fresh p hp))
        (fun p hp => by
          by_cases e : p = n
          · subst e
            exact Or.inr ⟨up_s, hc.2, hc.1⟩
          · exact Or.inl (up_n e)) up_s
        (fun p hp h hse => by
          by_cases e : p = n
          · subst e
            exact absurd hc.2 (i4 p hp hse)
          · rw [up_n e] at h
            exact absurd h (fresh p hp))
        (fun p hp hse => by
          by_cases e : p = n
          · subst e
            rw [up_s]
            simp
          · rw [up_n e]
            exact i4 p hp hse)
      refine ⟨(cR_y hroot).symm, ?_, ?_, g3⟩
      · intro p hp q hq h1 h2
        by_cases e : q = n
        · subst e
          exact g1 p hp h2
        · by_cases c2 : cnn (adj C g r) n p
          · exact absurd (rt_un hA h1 hroot h2 c2) e
          · rw [g2 p hp c2]
            exact i2 p hp q (by omega) h1 h2
      · intro p k hp hk
        by_cases c2 : cnn (adj C g r) n p
        · rw [g1 p hp c2] at hk
          cases hk
          exact ⟨n, by omega, hroot, c2, rfl⟩
        · rw [g2 p hp c2] at hk
          obtain ⟨q, q1, q2⟩ := i3 p k hp hk
          exact ⟨q, by omega, q2⟩
    · have hnr : ¬ rt C (adj C g r) n := fun h => by
        cases e : (gS C g r cr0 se0 n).1 n with
        | none => exact hc ⟨h.1, e⟩
        | some k =>
          obtain ⟨q, q1, q2, q3, q4⟩ := i3 n k (by omega) e
          exact h.2 q q1 q2.1 q3
      rw [gS_n hc]
      refine ⟨by rw [cR_n hnr]; exact i1, ?_, ?_, i4⟩
      · intro p hp q hq h1 h2
        by_cases e : q = n
        · subst e
          exact absurd h1 hnr
        · exact i2 p hp q (by omega) h1 h2
      · intro p k hp hk
        obtain ⟨q, q1, q2⟩ := i3 p k hp hk
        exact ⟨q, by omega, q2⟩
/-- the cores, crowds and borders are as the document says -/
def Srt (w : Nat → Nat) (x y : Nat → Int32) (wy de r : Nat) (co : Nat → Bool) (cr : Nat → Option Nat) (cc : Nat) : Prop :=
  (∀ p, p < 120 → co p = isC w x y wy de r p) ∧
  (∀ p, p < 120 → co p = true → ∃ q, q < 120 ∧ rt co (adj co (gp wy x y) r) q ∧ cnn (adj co (gp wy x y) r) q p ∧ cr p = some (cR co (adj co (gp wy x y) r) q)) ∧
  (∀ p, p < 120 → co p = false → cr p = if 0 < w p then lcs1 co cr (gp wy x y p) r else none) ∧
  cc = cR co (adj co (gp wy x y) r) 120
