/-! Numbers: sums, gaps, places. -/
/-- a value that no rule unfolds by itself (a hundred and twenty rounds are long) -/
noncomputable def hide {α : Type} (x : α) : α := Classical.choose (⟨x, rfl⟩ : ∃ z : α, z = x)
theorem hide_eq {α : Type} (x : α) : hide x = x := Classical.choose_spec (⟨x, rfl⟩ : ∃ z : α, z = x)
def sumN (f : Nat → Nat) : Nat → Nat
  | 0 => 0
  | n + 1 => sumN f n + f n
theorem sumN_c {f : Nat → Nat} {n : Nat} {c : Prop} [Decidable c] {v : Nat} (e : f n = if c then v else 0) (h : c) : sumN f (n + 1) = sumN f n + v := by
  show sumN f n + f n = _
  rw [e, if_pos h]
theorem sumN_z {f : Nat → Nat} {n : Nat} {c : Prop} [Decidable c] {v : Nat} (e : f n = if c then v else 0) (h : ¬ c) : sumN f (n + 1) = sumN f n := by
  show sumN f n + f n = _
  rw [e, if_neg h]
  rfl
theorem sumN_le {f : Nat → Nat} {b : Nat} (h : ∀ j, f j ≤ b) : ∀ n, sumN f n ≤ n * b
  | 0 => by simp [sumN]
  | n + 1 => by
    have h1 := sumN_le h n
    have h2 := h n
    show sumN f n + f n ≤ (n + 1) * b
    rw [Nat.add_mul, Nat.one_mul]
    exact Nat.add_le_add h1 h2
theorem sumN_congr {f g : Nat → Nat} : ∀ n, (∀ j, j < n → f j = g j) → sumN f n = sumN g n
  | 0, _ => rfl
  | n + 1, h => by
    show sumN f n + f n = sumN g n + g n
    rw [sumN_congr n (fun j hj => h j (by omega)), h n (by omega)]
noncomputable def sum1 (f : Nat → Nat) : Nat := hide (sumN f 120)
theorem sum1_eq (f : Nat → Nat) : sum1 f = sumN f 120 := hide_eq _
def isPl (x y : Int32) : Bool := decide (¬ x < -1073741823) && (decide (¬ 1073741823 < x) && (decide (¬ y < -1073741823) && decide (¬ 1073741823 < y)))
/-- the place of a row that a number names -/
def idx (p : Int32) : Option Nat := if 0 ≤ p.toInt ∧ p.toInt < 120 then some p.toInt.toNat else none
theorem idx_nI {j : Nat} (h : j < 120) : idx (nI j) = some j := by
  have e := nI_toInt (n := j) (by omega)
  unfold idx
  rw [if_pos (by omega), e]
  rfl
theorem idx_neg {p : Int32} (h : p < 0) : idx p = none := by
  unfold idx
  rw [if_neg]
  intro z
  have h1 := Int32.lt_iff_toInt_lt.mp h
  have h2 : (0 : Int32).toInt = 0 := by decide
  omega
theorem idx_big {p : Int32} (h : nI 120 ≤ p) : idx p = none := by
  unfold idx
  rw [if_neg]
  intro z
  have h1 := Int32.le_iff_toInt_le.mp h
  have h2 : (nI 120).toInt = 120 := by decide
  omega
def isPt (s : Nat → Bool) (p : Int32) : Bool := match idx p with
  | some j => s j
  | none => false
theorem big_neg {p : Int32} (h : nI 120 ≤ p) : ¬ p < 0 := by
  intro z
  have h1 := Int32.le_iff_toInt_le.mp h
  have h2 : (nI 120).toInt = 120 := by decide
  have h3 := Int32.lt_iff_toInt_lt.mp z
  have h4 : (0 : Int32).toInt = 0 := by decide
  omega
/-- the first of n that is so -/
def firstN (s : Nat → Bool) : Nat → Option Nat
  | 0 => none
  | n + 1 => match firstN s n with
    | some j => some j
    | none => if s n then some n else none
theorem firstN_none {s : Nat → Bool} : ∀ {n : Nat}, (∀ j, j < n → s j = false) → firstN s n = none
  | 0, _ => rfl
  | n + 1, h => by
    unfold firstN
    rw [firstN_none (fun j hj => h j (by omega)), h n (by omega)]
    rfl
theorem firstN_some {s : Nat → Bool} {i : Nat} (hi : s i = true) (h : ∀ j, j < i → s j = false) : ∀ {n : Nat}, i < n → firstN s n = some i
  | 0, hn => absurd hn (by omega)
  | n + 1, hn => by
    unfold firstN
    by_cases e : i < n
    · rw [firstN_some hi h e]
    · have e2 : i = n := by omega
      subst e2
      rw [firstN_none h, hi]
      rfl
theorem firstN_spec {s : Nat → Bool} : ∀ {n i : Nat}, firstN s n = some i → i < n ∧ s i = true ∧ ∀ j, j < i → s j = false
  | 0, i, h => by cases h
  | n + 1, i, h => by
    unfold firstN at h
    cases e : firstN s n with
    | some j =>
      rw [e] at h
      cases h
      obtain ⟨h1, h2, h3⟩ := firstN_spec e
      exact ⟨by omega, h2, h3⟩
    | none =>
      rw [e] at h
      by_cases hs : s n = true
      · simp only [hs, if_true] at h
        cases h
        refine ⟨by omega, hs, fun j hj => ?_⟩
        cases hj2 : s j with
        | false => rfl
        | true =>
          exfalso
          obtain ⟨k, hk1, hk2⟩ := pk_least (fun k => s k = true) ⟨j, hj2⟩
          have hkj : k ≤ j := Nat.le_of_not_lt fun z => hk2 j z hj2
          have := firstN_some (s := s) (i := k) hk1 (fun z hz => by
            cases hz2 : s z with
            | false => rfl
            | true => exact absurd hz2 (hk2 z hz)) (n := n) (by omega)
          rw [e] at this
          cases this
      · simp [hs] at h
theorem firstN_nspec {s : Nat → Bool} {n : Nat} (h : firstN s n = none) : ∀ j, j < n → s j = false := by
  intro j hj
  cases hj2 : s j with
  | false => rfl
  | true =>
    exfalso
    obtain ⟨k, hk1, hk2⟩ := pk_least (fun k => s k = true) ⟨j, hj2⟩
    have hkj : k ≤ j := Nat.le_of_not_lt fun z => hk2 j z hj2
    have := firstN_some (s := s) (i := k) hk1 (fun z hz => by
      cases hz2 : s z with
      | false => rfl
      | true => exact absurd hz2 (hk2 z hz)) (n := n) (by omega)
    rw [h] at this
    cases this
noncomputable def fst1 (s : Nat → Bool) : Option Nat := hide (firstN s 120)
theorem fst1_eq (s : Nat → Bool) : fst1 s = firstN s 120 := hide_eq _
/-! gaps -/
def dist1 (a b : Int32) : Nat := (a.toInt - b.toInt).natAbs
theorem dist1_comm (a b : Int32) : dist1 a b = dist1 b a := by unfold dist1; omega
theorem dist1_lt (a b : Int32) : dist1 a b < 2 ^ 32 := by
  have h1 := a.le_toInt
  have h2 := a.toInt_lt
  have h3 := b.le_toInt
  have h4 := b.toInt_lt
  unfold dist1
  omega
theorem lN_of_toInt {x : Int64} {n : Nat} (hn : n < 2 ^ 63) (h : x.toInt = (n : Int)) : x = lN n := Int64.toInt_inj.mp (by rw [h, pk_lT hn])
theorem abs_dist (a b : Int32) : (if 0 < a.toInt64 - b.toInt64 then a.toInt64 - b.toInt64 else -(a.toInt64 - b.toInt64)) = lN (dist1 a b) := by
  have hs := lg_i2l_sub a b
  have hl := dist1_lt a b
  have h1 := a.le_toInt
  have h2 := a.toInt_lt
  have h3 := b.le_toInt
  have h4 := b.toInt_lt
  have z0 : (0 : Int64).toInt = 0 := by decide
  by_cases c : 0 < a.toInt64 - b.toInt64
  · rw [if_pos c]
    refine lN_of_toInt (by omega) ?_
    have := Int64.lt_iff_toInt_lt.mp c
    unfold dist1
    omega
  · rw [if_neg c]
    refine lN_of_toInt (by omega) ?_
    have hc : ¬ (0 : Int64).toInt < (a.toInt64 - b.toInt64).toInt := fun z => c (Int64.lt_iff_toInt_lt.mpr z)
    rw [Int64.toInt_neg, hs]
    have : (-(a.toInt - b.toInt)).bmod (2 ^ 64) = -(a.toInt - b.toInt) := by
      rw [Int.bmod_eq_of_le] <;> omega
    rw [this]
    unfold dist1
    omega
def gapN (wy : Nat) (xq yq x y : Int32) : Nat := if wy = 0 then dist1 xq x * dist1 xq x + dist1 yq y * dist1 yq y else if wy = 1 then max (dist1 xq x) (dist1 yq y) else dist1 xq x + dist1 yq y
theorem gapN_comm (wy : Nat) (xq yq x y : Int32) : gapN wy xq yq x y = gapN wy x y xq yq := by
  unfold gapN
  rw [dist1_comm xq x, dist1_comm yq y]
/-- the gap of two points -/
def gp (wy : Nat) (x y : Nat → Int32) (p q : Nat) : Nat := gapN wy (x q) (y q) (x p) (y p)
theorem gp_comm (wy : Nat) (x y : Nat → Int32) (p q : Nat) : gp wy x y p q = gp wy x y q p := gapN_comm _ _ _ _ _
theorem dist1_self (a : Int32) : dist1 a a = 0 := by unfold dist1; omega
theorem gp_self (wy : Nat) (x y : Nat → Int32) (p : Nat) : gp wy x y p p = 0 := by
  unfold gp gapN
  rw [dist1_self, dist1_self]
  split
  · rfl
  · split <;> rfl
theorem max_lN {a b : Nat} (ha : a < 2 ^ 63) (hb : b < 2 ^ 63) : (if lN b < lN a then lN a else lN b) = lN (max a b) := by
  by_cases h : b < a
  · rw [if_pos ((pk_lLT hb ha).mpr h), Nat.max_eq_left (by omega)]
  · rw [if_neg (fun z => h ((pk_lLT hb ha).mp z)), Nat.max_eq_right (by omega)]
theorem min_lN {a b : Nat} (ha : a < 2 ^ 63) (hb : b < 2 ^ 63) : (if lN b < lN a then lN b else lN a) = lN (min a b) := by
  by_cases h : b < a
  · rw [if_pos ((pk_lLT hb ha).mpr h), Nat.min_eq_right (by omega)]
  · rw [if_neg (fun z => h ((pk_lLT hb ha).mp z)), Nat.min_eq_left (by omega)]
def inR (z : Int32) : Prop := -1073741823 ≤ z.toInt ∧ z.toInt ≤ 1073741823
/-- what holds of the numbers of a state -/
def WFp (w : Nat → Nat) (x y : Nat → Int32) (wy re de : Nat) : Prop := (∀ j, w j ≤ 20) ∧ (∀ j, inR (x j)) ∧ (∀ j, inR (y j)) ∧ wy ≤ 2 ∧ re < 2 ^ 63 ∧ 1 ≤ de ∧ de ≤ 2400
theorem isPl_inR {x y : Int32} (h : isPl x y = true) : inR x ∧ inR y := by
  simp only [isPl, Bool.and_eq_true, decide_eq_true_eq, Int32.lt_iff_toInt_lt] at h
  have h1 : (-1073741823 : Int32).toInt = -1073741823 := by decide
  have h2 : (1073741823 : Int32).toInt = 1073741823 := by decide
  rw [h1, h2] at h
  unfold inR
  omega
theorem dist1_R {a b : Int32} (ha : inR a) (hb : inR b) : dist1 a b ≤ 2147483646 := by
  unfold inR at ha hb
  unfold dist1
  omega
theorem gapN_lt (wy : Nat) {xq yq x y : Int32} (h1 : inR xq) (h2 : inR yq) (h3 : inR x) (h4 : inR y) : gapN wy xq yq x y < 2 ^ 63 - 1 := by
  have a := dist1_R h1 h3
  have b := dist1_R h2 h4
  have a2 := Nat.mul_le_mul a a
  have b2 := Nat.mul_le_mul b b
  unfold gapN
  split
  · omega
  · split
    · have := Nat.max_le.mpr ⟨a, b⟩
      omega
    · omega
theorem gp_lt {w : Nat → Nat} {x y : Nat → Int32} {wy re de : Nat} (h : WFp w x y wy re de) (p q : Nat) : gp wy x y p q < 2 ^ 63 - 1 := gapN_lt _ (h.2.1 _) (h.2.2.1 _) (h.2.1 _) (h.2.2.1 _)
/-- the weights of a point's neighbours -/
def wwf (w : Nat → Nat) (g : Nat → Nat) (r : Nat) : Nat → Nat := fun q => if 0 < w q ∧ g q ≤ r then w q else 0
noncomputable def ww (w : Nat → Nat) (g : Nat → Nat) (r : Nat) : Nat := sum1 (wwf w g r)
theorem wwf_le {w g : Nat → Nat} {r : Nat} (h : ∀ j, w j ≤ 20) (j : Nat) : wwf w g r j ≤ 20 := by
  unfold wwf
  split
  · exact h j
  · omega
theorem sum_lt {f : Nat → Nat} {b : Nat} (h : ∀ j, f j ≤ b) {n : Nat} (hn : n ≤ 120) : sumN f n ≤ 120 * b := Nat.le_trans (sumN_le h n) (Nat.mul_le_mul_right b hn)
theorem sum1_le {f : Nat → Nat} {b : Nat} (h : ∀ j, f j ≤ b) : sum1 f ≤ 120 * b := by rw [sum1_eq]; exact sumN_le h 120
