/-! What the reference rests on beside: dense by gaps, costs that may be wanting, counts. -/
theorem ww_at {w g : Nat → Nat} {de r : Nat} (hd : 1 ≤ de) (h : de ≤ ww w g r) : ∃ q, q < 120 ∧ 0 < w q ∧ g q ≤ r ∧ de ≤ ww w g (g q) := by
  obtain ⟨r0, h1, h2⟩ := pk_least (fun r => de ≤ ww w g r) ⟨r, h⟩
  have hr : r0 ≤ r := Nat.le_of_not_lt fun z => h2 r z h
  have ex : ∃ q, q < 120 ∧ 0 < w q ∧ g q = r0 := by
    refine Classical.byContradiction fun hn => ?_
    have no : ∀ q, q < 120 → 0 < w q → g q ≠ r0 := fun q a b c => hn ⟨q, a, b, c⟩
    rcases Nat.eq_zero_or_pos r0 with z | z
    · subst z
      have : ww w g 0 = 0 := by
        unfold ww
        rw [sum1_eq]
        have e : sumN (wwf w g 0) 120 = sumN (fun _ => 0) 120 := sumN_congr 120 (fun j hj => by
          unfold wwf
          rw [if_neg]
          intro q
          exact no j hj q.1 (by omega))
        rw [e]
        have := sumN_le (f := fun _ => 0) (b := 0) (fun _ => Nat.le_refl 0) 120
        omega
      omega
    · have e : ww w g r0 = ww w g (r0 - 1) := by
        unfold ww
        rw [sum1_eq, sum1_eq]
        refine sumN_congr 120 (fun j hj => ?_)
        unfold wwf
        by_cases c : 0 < w j ∧ g j ≤ r0
        · have := no j hj c.1
          rw [if_pos c, if_pos ⟨c.1, by omega⟩]
        · rw [if_neg c, if_neg (fun z => c ⟨z.1, by omega⟩)]
      exact h2 (r0 - 1) (by omega) (by rw [← e]; exact h1)
  obtain ⟨q, q1, q2, q3⟩ := ex
  exact ⟨q, q1, q2, by omega, by rw [q3]; exact h1⟩
/-- the best gap of those seen -/
def FD (w g : Nat → Nat) (de n : Nat) : Option Nat → Prop
  | none => ∀ q, q < n → 0 < w q → ww w g (g q) < de
  | some b => de ≤ ww w g b ∧ b < MX ∧ ∀ q, q < n → 0 < w q → de ≤ ww w g (g q) → b ≤ g q
theorem FD.dn {w g : Nat → Nat} {de : Nat} {o : Option Nat} (hd : 1 ≤ de) (h : FD w g de 120 o) : isDn w g de o ∧ ∀ d, o = some d → d < MX := by
  cases o with
  | none =>
    refine ⟨fun r => Nat.lt_of_not_le fun z => ?_, fun d hd => by cases hd⟩
    obtain ⟨q, q1, q2, q3, q4⟩ := ww_at hd z
    have := h q q1 q2
    omega
  | some b =>
    refine ⟨⟨h.1, fun r hr => Nat.lt_of_not_le fun z => ?_⟩, fun d hd => by cases hd; exact h.2.1⟩
    obtain ⟨q, q1, q2, q3, q4⟩ := ww_at hd z
    have := h.2.2 q q1 q2 q4
    omega
theorem FD.skip {w g : Nat → Nat} {de n : Nat} {o : Option Nat} (h : FD w g de n o) (hs : 0 < w n → de ≤ ww w g (g n) → ∃ b, o = some b ∧ b ≤ g n) : FD w g de (n + 1) o := by
  cases o with
  | none =>
    intro q hq hw
    by_cases e : q = n
    · subst e
      refine Nat.lt_of_not_le fun z => ?_
      obtain ⟨b, h1, -⟩ := hs hw z
      cases h1
    · exact h q (by omega) hw
  | some b =>
    refine ⟨h.1, h.2.1, fun q hq hw hz => ?_⟩
    by_cases e : q = n
    · subst e
      obtain ⟨b2, h1, h2⟩ := hs hw hz
      cases h1
      exact h2
    · exact h.2.2 q (by omega) hw hz
theorem FD.new {w g : Nat → Nat} {de n : Nat} {o : Option Nat} (h : FD w g de n o) (hz : de ≤ ww w g (g n)) (hm : g n < MX) (hb : ∀ b, o = some b → g n < b) : FD w g de (n + 1) (some (g n)) := by
  refine ⟨hz, hm, fun q hq hw hq2 => ?_⟩
  by_cases e : q = n
  · rw [e]; exact Nat.le_refl _
  · cases o with
    | none =>
      have := h q (by omega) hw
      omega
    | some b =>
      have h1 := h.2.2 q (by omega) hw hq2
      have h2 := hb b rfl
      omega
def mwt (cs : Nat → Option Nat) : Nat → Nat := fun j => if cs j = none then 0 else 1
def cN (cs : Nat → Option Nat) : Nat → Nat := fun j => (cs j).getD MX
theorem mwt_y {cs : Nat → Option Nat} {j : Nat} : 0 < mwt cs j ↔ cs j ≠ none := by
  unfold mwt
  by_cases h : cs j = none
  · rw [if_pos h]
    exact ⟨fun z => absurd z (by omega), fun z => absurd h z⟩
  · rw [if_neg h]
    exact ⟨fun _ => h, fun _ => by omega⟩
theorem cN_s {cs : Nat → Option Nat} {j c : Nat} (h : cs j = some c) : cN cs j = c := by
  unfold cN
  rw [h]
  rfl
theorem cN_n {cs : Nat → Option Nat} {j : Nat} (h : cs j = none) : cN cs j = MX := by
  unfold cN
  rw [h]
  rfl
def rlM (d g : Nat → Nat) (cb : Nat) (cs : Nat → Option Nat) (dn : Nat → Bool) (df : Nat → Option Nat) : Nat → Option Nat := fun j => if dn j = false ∧ df j ≠ none then minO (cs j) (some (max (max cb (d j)) (g j))) else cs j
def bdM (cs : Nat → Option Nat) : Prop := ∀ j, j < 120 → ∀ k, cs j = some k → k < MX
theorem rlM_bd {d g : Nat → Nat} {cb : Nat} {cs : Nat → Option Nat} {dn : Nat → Bool} {df : Nat → Option Nat} (h : bdM cs) (hcb : cb < MX) (hd : ∀ j, j < 120 → df j ≠ none → d j < MX) (hg : ∀ j, g j < MX) : bdM (fill cs (rlM d g cb cs dn df) 120) := fun j hj k hk => by
  rw [fill_in hj] at hk
  unfold rlM at hk
  split at hk
  · next c =>
    have hm : max (max cb (d j)) (g j) < MX := Nat.max_lt.mpr ⟨Nat.max_lt.mpr ⟨hcb, hd j hj c.2⟩, hg j⟩
    cases e : cs j with
    | none =>
      rw [e] at hk
      cases hk
      exact hm
    | some a =>
      rw [e] at hk
      cases hk
      exact Nat.lt_of_le_of_lt (Nat.min_le_right _ _) hm
  · exact h j hj k hk
theorem rlM_rlx {w d g : Nat → Nat} {cb : Nat} {cs : Nat → Option Nat} {dn : Nat → Bool} {df : Nat → Option Nat} (hcb : cb < MX) (hd : ∀ j, j < 120 → 0 < w j → df j = some (d j) ∧ d j < MX) (hn : ∀ j, j < 120 → ¬ 0 < w j → df j = none) (hg : ∀ j, g j < MX) : ∀ j, j < 120 → cN (fill cs (rlM d g cb cs dn df) 120) j = rlx w d g cb (cN cs) dn j := fun j hj => by
  have e0 : cN (fill cs (rlM d g cb cs dn df) 120) j = (rlM d g cb cs dn df j).getD MX := by
    unfold cN
    rw [fill_in hj]
  rw [e0]
  unfold rlM rlx
  by_cases c : 0 < w j ∧ dn j = false
  · obtain ⟨d1, d2⟩ := hd j hj c.1
    rw [if_pos c, if_pos ⟨c.2, by rw [d1]; simp⟩]
    have hm : max (max cb (d j)) (g j) < MX := Nat.max_lt.mpr ⟨Nat.max_lt.mpr ⟨hcb, d2⟩, hg j⟩
    cases e : cs j with
    | none =>
      rw [cN_n e, Nat.min_eq_right (Nat.le_of_lt hm)]
      rfl
    | some a =>
      rw [cN_s e]
      rfl
  · rw [if_neg c, if_neg]
    · rfl
    · intro z
      refine c ⟨?_, z.1⟩
      refine Nat.pos_of_ne_zero fun q => z.2 (hn j hj (by omega))
/-- nobody is left: the cost is the least reach -/
theorem DJ_end {w d : Nat → Nat} {g : Nat → Nat → Nat} {p q : Nat} {cs : Nat → Option Nat} {dn : Nat → Bool} (h : DJ w d g p (cN cs) dn) (hq : q < 120) (hw : 0 < w q) (hno : ∀ j, j < 120 → ¬ (0 < mwt cs j ∧ dn j = false)) : ∃ m, cs q = some m ∧ isMt w d g p q m := by
  obtain ⟨h1, h2, h3, h4, h5, h6, h7⟩ := h
  have un : ∀ j, j < 120 → dn j = false → cN cs j = MX := fun j hj hd => by
    refine cN_n (Classical.byContradiction fun z => hno j hj ⟨mwt_y.mpr z, hd⟩)
  have hp : dn p = true := by
    cases e : dn p with
    | true => rfl
    | false =>
      have a := un p h5.1 e
      have b := h6 p h5.1 h5.2
      omega
  have hqd : dn q = true := by
    cases e : dn q with
    | true => rfl
    | false =>
      have a := un q hq e
      have b := h3 p q h5.1 hq h5.2 hw hp e
      have c := (h2 p h5.1 h5.2 hp).1
      have : max (max (cN cs p) (d q)) (g p q) < MX := Nat.max_lt.mpr ⟨Nat.max_lt.mpr ⟨c, h6 q hq hw⟩, h7 p q⟩
      omega
  obtain ⟨a1, a2⟩ := h2 q hq hw hqd
  cases e : cs q with
  | none =>
    rw [cN_n e] at a1
    omega
  | some m =>
    rw [cN_s e] at a1 a2
    have a3 := h1 q hq hw (by rw [cN_s e]; exact a1)
    rw [cN_s e] at a3
    exact ⟨m, rfl, a3, a2⟩
theorem fN_k {s : Nat → Bool} {n : Nat} (h : firstN s n ≠ none) : firstN s (n + 1) = firstN s n := by
  obtain ⟨j, hj⟩ := Option.ne_none_iff_exists'.mp h
  show (match firstN s n with
    | some j => some j
    | none => if s n then some n else none) = _
  rw [hj]
theorem fN_y {s : Nat → Bool} {n : Nat} (h : firstN s n = none) (hs : s n = true) : firstN s (n + 1) = some n := by
  show (match firstN s n with
    | some j => some j
    | none => if s n then some n else none) = _
  rw [h, hs]
  rfl
theorem fN_n {s : Nat → Bool} {n : Nat} (h : firstN s n = none) (hs : s n = false) : firstN s (n + 1) = firstN s n := by
  show (match firstN s n with
    | some j => some j
    | none => if s n then some n else none) = _
  rw [h, hs]
  rfl
theorem knd_sum {w : Nat → Nat} {co : Nat → Bool} {cr : Nat → Option Nat} : ∀ n, sumN (fun j => if 0 < w j then 1 else 0) n = sumN (fun p => if 0 < w p ∧ knd co cr p = 0 then 1 else 0) n + sumN (fun p => if 0 < w p ∧ knd co cr p = 1 then 1 else 0) n + sumN (fun p => if 0 < w p ∧ knd co cr p = 2 then 1 else 0) n
  | 0 => rfl
  | n + 1 => by
    have ih := knd_sum (w := w) (co := co) (cr := cr) n
    show sumN _ n + (if 0 < w n then 1 else 0) = (sumN _ n + (if 0 < w n ∧ knd co cr n = 0 then 1 else 0)) + (sumN _ n + (if 0 < w n ∧ knd co cr n = 1 then 1 else 0)) + (sumN _ n + (if 0 < w n ∧ knd co cr n = 2 then 1 else 0))
    rw [ih]
    have hk := knd_le co cr n
    by_cases hw : 0 < w n
    · rcases (show knd co cr n = 0 ∨ knd co cr n = 1 ∨ knd co cr n = 2 by omega) with e | e | e
      · rw [if_pos hw, if_pos ⟨hw, e⟩, if_neg (by omega), if_neg (by omega)]
        omega
      · rw [if_pos hw, if_neg (by omega), if_pos ⟨hw, e⟩, if_neg (by omega)]
        omega
      · rw [if_pos hw, if_neg (by omega), if_neg (by omega), if_pos ⟨hw, e⟩]
        omega
    · rw [if_neg hw, if_neg (fun z => hw z.1), if_neg (fun z => hw z.1), if_neg (fun z => hw z.1)]
      omega
