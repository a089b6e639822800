/-! Cores and crowds, as the class makes them. -/
def fill {α : Type} (f g : Nat → α) (n : Nat) : Nat → α := fun j => if j < n then g j else f j
theorem fill_0 {α : Type} (f g : Nat → α) : fill f g 0 = f := by
  funext j
  unfold fill
  rw [if_neg (by omega)]
theorem fill_at {α : Type} (f g : Nat → α) (i : Nat) : fill f g i i = f i := if_neg (by omega)
theorem fill_in {α : Type} {f g : Nat → α} {i j : Nat} (h : j < i) : fill f g i j = g j := if_pos h
theorem fill_out {α : Type} {f g : Nat → α} {i j : Nat} (h : i ≤ j) : fill f g i j = f j := if_neg (by omega)
theorem fill_up {α : Type} {f g : Nat → α} {i : Nat} {v : α} (h : g i = v) : fill f g (i + 1) = up (fill f g i) i v := by
  funext j
  by_cases e : j = i
  · subst e
    rw [fill_in (by omega), up_s, h]
  · rw [up_n e]
    by_cases e2 : j < i
    · rw [fill_in (by omega), fill_in e2]
    · rw [fill_out (by omega), fill_out (by omega)]
theorem fill_same {α : Type} {f g : Nat → α} {i : Nat} (h : g i = f i) : fill f g (i + 1) = fill f g i := by
  funext j
  unfold fill
  by_cases e : j = i
  · subst e
    rw [if_pos (by omega), if_neg (by omega), h]
  · by_cases e2 : j < i
    · rw [if_pos (by omega), if_pos e2]
    · rw [if_neg (by omega), if_neg e2]
theorem fill_of {α : Type} {f g : Nat → α} {i : Nat} {P : α → Prop} (hf : ∀ j, P (f j)) (hg : ∀ j, P (g j)) (j : Nat) : P (fill f g i j) := by
  unfold fill
  split
  · exact hg j
  · exact hf j
/-- a core with a reach -/
noncomputable def isC (w : Nat → Nat) (x y : Nat → Int32) (wy de r p : Nat) : Bool := decide (0 < w p ∧ de ≤ ww w (gp wy x y p) r)
def nearC (co : Nat → Bool) (cr : Nat → Option Nat) (cc : Nat) (g : Nat → Nat) (r : Nat) : Nat → Option Nat := fun q => if co q = true ∧ cr q = none ∧ g q ≤ r then some cc else cr q
def selU (cr : Nat → Option Nat) (se : Nat → Bool) (cc : Nat) : Nat → Bool := fun p => decide (cr p = some cc) && !se p
/-- gatherFrom's rounds -/
noncomputable def gF (co : Nat → Bool) (cc : Nat) (g : Nat → Nat → Nat) (r : Nat) : Nat → (Nat → Option Nat) → (Nat → Bool) → (Nat → Option Nat) × (Nat → Bool)
  | 0, cr, se => (cr, se)
  | n + 1, cr, se => match fst1 (selU cr se cc) with
    | none => (cr, se)
    | some p => gF co cc g r n (fill cr (nearC co cr cc (g p) r) 120) (up se p true)
noncomputable def gF1 (co : Nat → Bool) (cc : Nat) (g : Nat → Nat → Nat) (r : Nat) (cr : Nat → Option Nat) (se : Nat → Bool) : (Nat → Option Nat) × (Nat → Bool) := hide (gF co cc g r 120 cr se)
theorem gF1_eq (co : Nat → Bool) (cc : Nat) (g : Nat → Nat → Nat) (r : Nat) (cr : Nat → Option Nat) (se : Nat → Bool) : gF1 co cc g r cr se = gF co cc g r 120 cr se := hide_eq _
/-- gatherCrowds' rounds -/
noncomputable def gS (co : Nat → Bool) (g : Nat → Nat → Nat) (r : Nat) (cr : Nat → Option Nat) (se : Nat → Bool) : Nat → (Nat → Option Nat) × (Nat → Bool) × Nat
  | 0 => (cr, se, 0)
  | n + 1 => match gS co g r cr se n with
    | (cr1, se1, c1) => if co n = true ∧ cr1 n = none then
        match gF1 co c1 g r (up cr1 n (some c1)) se1 with
        | (cr2, se2) => (cr2, se2, c1 + 1)
      else (cr1, se1, c1)
noncomputable def gS1 (co : Nat → Bool) (g : Nat → Nat → Nat) (r : Nat) (cr : Nat → Option Nat) (se : Nat → Bool) : (Nat → Option Nat) × (Nat → Bool) × Nat := hide (gS co g r cr se 120)
theorem gS1_eq (co : Nat → Bool) (g : Nat → Nat → Nat) (r : Nat) (cr : Nat → Option Nat) (se : Nat → Bool) : gS1 co g r cr se = gS co g r cr se 120 := hide_eq _
def minO : Option Nat → Option Nat → Option Nat
  | none, c => c
  | some b, none => some b
  | some b, some c => some (min b c)
/-- the least crowd with a core near a place -/
def lcs (co : Nat → Bool) (cr : Nat → Option Nat) (g : Nat → Nat) (r : Nat) : Nat → Option Nat
  | 0 => none
  | n + 1 => if co n = true ∧ g n ≤ r then minO (lcs co cr g r n) (cr n) else lcs co cr g r n
noncomputable def lcs1 (co : Nat → Bool) (cr : Nat → Option Nat) (g : Nat → Nat) (r : Nat) : Option Nat := hide (lcs co cr g r 120)
theorem lcs1_eq (co : Nat → Bool) (cr : Nat → Option Nat) (g : Nat → Nat) (r : Nat) : lcs1 co cr g r = lcs co cr g r 120 := hide_eq _
theorem lcs_keep {co : Nat → Bool} {cr : Nat → Option Nat} {g : Nat → Nat} {r n : Nat} (h : co n = true → g n ≤ r → minO (lcs co cr g r n) (cr n) = lcs co cr g r n) : lcs co cr g r (n + 1) = lcs co cr g r n := by
  show (if co n = true ∧ g n ≤ r then _ else _) = _
  by_cases c : co n = true ∧ g n ≤ r
  · rw [if_pos c]; exact h c.1 c.2
  · rw [if_neg c]
theorem lcs_new {co : Nat → Bool} {cr : Nat → Option Nat} {g : Nat → Nat} {r n : Nat} (h1 : co n = true) (h2 : g n ≤ r) : lcs co cr g r (n + 1) = minO (lcs co cr g r n) (cr n) := if_pos ⟨h1, h2⟩
theorem lcs_lt {co : Nat → Bool} {cr : Nat → Option Nat} {g : Nat → Nat} {r : Nat} (h : ∀ q, q < 120 → co q = true → ∃ k, cr q = some k ∧ k < 120) : ∀ n, n ≤ 120 → ∀ k, lcs co cr g r n = some k → k < 120
  | 0, _, k, hk => by cases hk
  | n + 1, hn, k, hk => by
    have ih := lcs_lt (g := g) (r := r) h n (by omega)
    by_cases c : co n = true ∧ g n ≤ r
    · rw [lcs_new c.1 c.2] at hk
      obtain ⟨k2, e2, l2⟩ := h n (by omega) c.1
      rw [e2] at hk
      cases e : lcs co cr g r n with
      | none => rw [e] at hk; cases hk; exact l2
      | some b =>
        rw [e] at hk
        have := ih b e
        cases hk
        omega
    · rw [lcs_keep (fun a b => absurd ⟨a, b⟩ c)] at hk
      exact ih k hk
theorem lcs_congr {co : Nat → Bool} {cr cr2 : Nat → Option Nat} {g : Nat → Nat} {r : Nat} : ∀ n, (∀ q, q < n → co q = true → cr q = cr2 q) → lcs co cr g r n = lcs co cr2 g r n
  | 0, _ => rfl
  | n + 1, h => by
    show (if co n = true ∧ g n ≤ r then _ else _) = (if co n = true ∧ g n ≤ r then _ else _)
    by_cases c : co n = true ∧ g n ≤ r
    · rw [if_pos c, if_pos c, lcs_congr n (fun q hq => h q (by omega)), h n (by omega) c.1]
    · rw [if_neg c, if_neg c, lcs_congr n (fun q hq => h q (by omega))]
/-- joinBorders -/
noncomputable def jB (w : Nat → Nat) (co : Nat → Bool) (cr : Nat → Option Nat) (g : Nat → Nat → Nat) (r : Nat) : Nat → Option Nat := fun p => if 0 < w p ∧ co p = false then lcs1 co cr (g p) r else cr p
def bdC (cr : Nat → Option Nat) : Prop := ∀ j k, cr j = some k → k < 120
theorem bd31 {cr : Nat → Option Nat} (h : bdC cr) (j : Nat) : ∀ k, cr j = some k → k < 2 ^ 31 := fun k hk => by have := h j k hk; omega
theorem bdC_up {cr : Nat → Option Nat} (h : bdC cr) {j c : Nat} (hc : c < 120) : bdC (up cr j (some c)) := fun i k hk => by
  by_cases e : i = j
  · subst e
    rw [up_s] at hk
    cases hk
    exact hc
  · rw [up_n e] at hk
    exact h i k hk
theorem bdC_near {co : Nat → Bool} {cr : Nat → Option Nat} (h : bdC cr) {c : Nat} (hc : c < 120) {g : Nat → Nat} {r n : Nat} : bdC (fill cr (nearC co cr c g r) n) := fun i k hk => by
  unfold fill at hk
  split at hk
  · unfold nearC at hk
    split at hk
    · cases hk; exact hc
    · exact h i k hk
  · exact h i k hk
theorem gF_bd {co : Nat → Bool} {c : Nat} (hc : c < 120) {g : Nat → Nat → Nat} {r : Nat} : ∀ (n : Nat) (cr : Nat → Option Nat) (se : Nat → Bool), bdC cr → bdC (gF co c g r n cr se).1
  | 0, cr, se, h => h
  | n + 1, cr, se, h => by
    unfold gF
    cases fst1 (selU cr se c) with
    | none => exact h
    | some p => exact gF_bd hc n _ _ (bdC_near h hc)
theorem gS_bd {co : Nat → Bool} {g : Nat → Nat → Nat} {r : Nat} {cr : Nat → Option Nat} {se : Nat → Bool} (h : bdC cr) : ∀ n, n ≤ 120 → bdC (gS co g r cr se n).1 ∧ (gS co g r cr se n).2.2 ≤ n
  | 0, _ => ⟨h, Nat.le_refl 0⟩
  | n + 1, hn => by
    obtain ⟨h1, h2⟩ := gS_bd h n (by omega)
    unfold gS
    generalize gS co g r cr se n = z at h1 h2
    obtain ⟨cr1, se1, c1⟩ := z
    dsimp only at h1 h2 ⊢
    split
    · exact ⟨by rw [gF1_eq]; exact gF_bd (by omega) 120 _ _ (bdC_up h1 (by omega)), by dsimp only; omega⟩
    · exact ⟨h1, by dsimp only; omega⟩
theorem gS_y {co : Nat → Bool} {g : Nat → Nat → Nat} {r : Nat} {cr : Nat → Option Nat} {se : Nat → Bool} {n : Nat} (h1 : co n = true) (h2 : (gS co g r cr se n).1 n = none) : gS co g r cr se (n + 1) = ((gF1 co (gS co g r cr se n).2.2 g r (up (gS co g r cr se n).1 n (some (gS co g r cr se n).2.2)) (gS co g r cr se n).2.1).1, (gF1 co (gS co g r cr se n).2.2 g r (up (gS co g r cr se n).1 n (some (gS co g r cr se n).2.2)) (gS co g r cr se n).2.1).2, (gS co g r cr se n).2.2 + 1) := by
  show (match gS co g r cr se n with
    | (cr1, se1, c1) => if co n = true ∧ cr1 n = none then
        match gF1 co c1 g r (up cr1 n (some c1)) se1 with
        | (cr2, se2) => (cr2, se2, c1 + 1)
      else (cr1, se1, c1)) = _
  generalize gS co g r cr se n = z at h2 ⊢
  obtain ⟨cr1, se1, c1⟩ := z
  dsimp only at h2 ⊢
  rw [if_pos ⟨h1, h2⟩]
theorem gS_n {co : Nat → Bool} {g : Nat → Nat → Nat} {r : Nat} {cr : Nat → Option Nat} {se : Nat → Bool} {n : Nat} (h : ¬ (co n = true ∧ (gS co g r cr se n).1 n = none)) : gS co g r cr se (n + 1) = gS co g r cr se n := by
  show (match gS co g r cr se n with
    | (cr1, se1, c1) => if co n = true ∧ cr1 n = none then
        match gF1 co c1 g r (up cr1 n (some c1)) se1 with
        | (cr2, se2) => (cr2, se2, c1 + 1)
      else (cr1, se1, c1)) = _
  generalize gS co g r cr se n = z at h ⊢
  obtain ⟨cr1, se1, c1⟩ := z
  dsimp only at h ⊢
  rw [if_neg h]
