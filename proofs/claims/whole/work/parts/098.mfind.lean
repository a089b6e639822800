/-! Crowds, as the reference makes them. -/
noncomputable def any1 (s : Nat → Bool) : Bool := hide (anyN s 120)
theorem any1_eq (s : Nat → Bool) : any1 s = anyN s 120 := hide_eq _
def newS (co : Nat → Bool) (cr : Nat → Option Nat) (g : Nat → Nat) (r : Nat) : Nat → Bool := fun q => co q && (decide (cr q = none) && decide (g q ≤ r))
theorem nearC_y {co : Nat → Bool} {cr : Nat → Option Nat} {c r q : Nat} {g : Nat → Nat} (h : newS co cr g r q = true) : nearC co cr c g r q = some c ∧ cr q = none ∧ co q = true ∧ g q ≤ r := by
  unfold newS at h
  simp only [Bool.and_eq_true, decide_eq_true_eq] at h
  unfold nearC
  rw [if_pos h]
  exact ⟨rfl, h.2.1, h.1, h.2.2⟩
theorem nearC_n {co : Nat → Bool} {cr : Nat → Option Nat} {c r q : Nat} {g : Nat → Nat} (h : newS co cr g r q = false) : nearC co cr c g r q = cr q := by
  unfold nearC
  rw [if_neg]
  intro z
  unfold newS at h
  simp [z] at h
section LB
variable {C : Nat → Bool} {g : Nat → Nat → Nat} {r c f : Nat} {b : Nat → Option Nat}
/-- some of what hangs together with the first bears its number, nothing else has changed -/
def Lb (C : Nat → Bool) (g : Nat → Nat → Nat) (r c f : Nat) (b cr : Nat → Option Nat) : Prop :=
  (∀ p, p < 120 → cr p = some c → cnn (adj C g r) f p) ∧ (∀ p, p < 120 → cr p = b p ∨ (cr p = some c ∧ b p = none ∧ C p = true)) ∧ cr f = some c
/-- how many have no number -/
def unl (cr : Nat → Option Nat) (n : Nat) : Nat := sumN (fun j => if cr j = none then 1 else 0) n
theorem unl_le (cr : Nat → Option Nat) : ∀ n, unl cr n ≤ n
  | 0 => Nat.le_refl 0
  | n + 1 => by
    have h1 := unl_le cr n
    show unl cr n + (if cr n = none then 1 else 0) ≤ n + 1
    split <;> omega
theorem unl_mono {cr cr2 : Nat → Option Nat} (h : ∀ j, j < 120 → cr j ≠ none → cr2 j ≠ none) : ∀ n, n ≤ 120 → unl cr2 n ≤ unl cr n
  | 0, _ => Nat.le_refl 0
  | n + 1, hn => by
    have h1 := unl_mono h n (by omega)
    show unl cr2 n + (if cr2 n = none then 1 else 0) ≤ unl cr n + (if cr n = none then 1 else 0)
    by_cases e : cr n = none
    · rw [if_pos e]
      split <;> omega
    · rw [if_neg e, if_neg (h n (by omega) e)]
      omega
theorem unl_lt {cr cr2 : Nat → Option Nat} (h : ∀ j, j < 120 → cr j ≠ none → cr2 j ≠ none) {q : Nat} (h1 : cr q = none) (h2 : cr2 q ≠ none) : ∀ n, n ≤ 120 → q < n → unl cr2 n < unl cr n
  | 0, _, hq => absurd hq (by omega)
  | n + 1, hn, hq => by
    show unl cr2 n + (if cr2 n = none then 1 else 0) < unl cr n + (if cr n = none then 1 else 0)
    by_cases e : q = n
    · subst e
      rw [if_pos h1, if_neg h2]
      have := unl_mono h q (by omega)
      omega
    · have h3 := unl_lt h h1 h2 n (by omega) (by omega)
      by_cases e2 : cr n = none
      · rw [if_pos e2]
        split <;> omega
      · rw [if_neg e2, if_neg (h n (by omega) e2)]
        omega
theorem unl_congr {cr cr2 : Nat → Option Nat} (h : ∀ j, j < 120 → cr j = cr2 j) : unl cr 120 = unl cr2 120 := sumN_congr 120 (fun j hj => by rw [h j hj])
theorem Lb.near {cr : Nat → Option Nat} (h : Lb C g r c f b cr) (hf : f < 120) (hcf : C f = true) {p : Nat} (hp : p < 120) (hc : cr p = some c) : Lb C g r c f b (fill cr (nearC C cr c (g p) r) 120) := by
  obtain ⟨h1, h2, h3⟩ := h
  have nv : ∀ q, q < 120 → fill cr (nearC C cr c (g p) r) 120 q = nearC C cr c (g p) r q := fun q hq => fill_in hq
  refine ⟨fun q hq hc2 => ?_, fun q hq => ?_, ?_⟩
  · rw [nv q hq] at hc2
    cases e : newS C cr (g p) r q with
    | true =>
      obtain ⟨-, -, a3, a4⟩ := nearC_y (c := c) e
      exact cnn_st (h1 p hp hc) ⟨hp, hq, cnn_core (h1 p hp hc) hcf, a3, a4⟩
    | false =>
      rw [nearC_n e] at hc2
      exact h1 q hq hc2
  · rw [nv q hq]
    cases e : newS C cr (g p) r q with
    | true =>
      obtain ⟨a1, a2, a3, a4⟩ := nearC_y (c := c) e
      rcases h2 q hq with z | z
      · exact Or.inr ⟨a1, by rw [← z]; exact a2, a3⟩
      · exact Or.inr ⟨a1, z.2.1, a3⟩
    | false =>
      rw [nearC_n e]
      exact h2 q hq
  · rw [nv f hf]
    cases e : newS C cr (g p) r f with
    | true => exact (nearC_y e).1
    | false => rw [nearC_n e]; exact h3
theorem near_keep {cr : Nat → Option Nat} {p : Nat} : ∀ j, j < 120 → cr j ≠ none → fill cr (nearC C cr c (g p) r) 120 j ≠ none := fun j hj h => by
  rw [fill_in hj]
  cases e : newS C cr (g p) r j with
  | true => rw [(nearC_y e).1]; simp
  | false => rw [nearC_n e]; exact h
/-- one pass over all points -/
def Ps (C : Nat → Bool) (g : Nat → Nat → Nat) (r c f : Nat) (b cr0 : Nat → Option Nat) (n : Nat) (cr : Nat → Option Nat) (mo : Bool) : Prop :=
  Lb C g r c f b cr ∧ (mo = false → (∀ j, j < 120 → cr j = cr0 j) ∧ ∀ p, p < n → cr0 p = some c → ∀ q, adj C g r p q → cr0 q ≠ none) ∧ (mo = true → unl cr 120 < unl cr0 120)
theorem Ps.zero {cr0 : Nat → Option Nat} (h : Lb C g r c f b cr0) : Ps C g r c f b cr0 0 cr0 false := ⟨h, fun _ => ⟨fun _ _ => rfl, fun p hp => absurd hp (by omega)⟩, fun h => by cases h⟩
theorem Ps.skip {cr0 cr : Nat → Option Nat} {n : Nat} {mo : Bool} (h : Ps C g r c f b cr0 n cr mo) (hn : n < 120) (hc : cr n ≠ some c) : Ps C g r c f b cr0 (n + 1) cr mo := by
  refine ⟨h.1, fun hm => ⟨(h.2.1 hm).1, fun p hp hc2 => ?_⟩, h.2.2⟩
  by_cases e : p = n
  · subst e
    rw [← (h.2.1 hm).1 p hn] at hc2
    exact absurd hc2 hc
  · exact (h.2.1 hm).2 p (by omega) hc2
theorem Ps.sp {cr0 cr : Nat → Option Nat} {n : Nat} {mo : Bool} (h : Ps C g r c f b cr0 n cr mo) (hf : f < 120) (hcf : C f = true) (hn : n < 120) (hc : cr n = some c) : Ps C g r c f b cr0 (n + 1) (fill cr (nearC C cr c (g n) r) 120) (any1 (newS C cr (g n) r) || mo) := by
  have hl := h.1.near hf hcf hn hc
  rw [any1_eq]
  cases e : anyN (newS C cr (g n) r) 120 with
  | true =>
    refine ⟨hl, fun z => (by simp at z), fun _ => ?_⟩
    obtain ⟨q, q1, q2⟩ := anyN_ex e
    have a := nearC_y (c := c) q2
    have h1 := unl_lt (cr := cr) (near_keep (C := C) (g := g) (r := r) (c := c) (p := n)) (q := q) a.2.1 (by rw [fill_in q1, a.1]; simp) 120 (Nat.le_refl 120) q1
    cases hm : mo with
    | true => have := h.2.2 hm; omega
    | false => have := unl_congr (h.2.1 hm).1; omega
  | false =>
    have no : ∀ q, q < 120 → newS C cr (g n) r q = false := fun q hq => by
      cases e2 : newS C cr (g n) r q with
      | false => rfl
      | true =>
        rw [anyN_of e2 hq] at e
        cases e
    have same : ∀ q, q < 120 → fill cr (nearC C cr c (g n) r) 120 q = cr q := fun q hq => by rw [fill_in hq, nearC_n (no q hq)]
    rw [Bool.false_or]
    refine ⟨hl, fun hm => ⟨fun j hj => by rw [same j hj]; exact (h.2.1 hm).1 j hj, fun p hp hc2 q hq hz => ?_⟩, fun hm => by rw [unl_congr same]; exact h.2.2 hm⟩
    by_cases e3 : p = n
    · subst e3
      have h5 := no q hq.2.1
      rw [← (h.2.1 hm).1 q hq.2.1] at hz
      unfold newS at h5
      simp [hq.2.2.2.1, hz, hq.2.2.2.2] at h5
    · exact (h.2.1 hm).2 p (by omega) hc2 q hq hz
/-- nothing more to do: the crowd stands -/
theorem Lb.fin {cr : Nat → Option Nat} (h : Lb C g r c f b cr) (hf : f < 120) (hbf : ∀ p, cnn (adj C g r) f p → b p = none) (hcl : ∀ p, p < 120 → cr p = some c → ∀ q, adj C g r p q → cr q ≠ none) : (∀ p, p < 120 → cnn (adj C g r) f p → cr p = some c) ∧ (∀ p, p < 120 → ¬ cnn (adj C g r) f p → cr p = b p) := by
  obtain ⟨h1, h2, h3⟩ := h
  constructor
  · intro p _ hp
    have key : ∀ z, cnn (adj C g r) f z → z < 120 ∧ cr z = some c := fun z hz => by
      obtain ⟨k, hz⟩ := hz
      induction k generalizing z with
      | zero =>
        have e : f = z := hz
        rw [← e]
        exact ⟨hf, h3⟩
      | succ k ih =>
        obtain ⟨m, hm1, hm2⟩ := hz
        obtain ⟨i1, i2⟩ := ih m hm1
        refine ⟨hm2.2.1, ?_⟩
        rcases h2 z hm2.2.1 with e | e
        · exact absurd (e.trans (hbf z ⟨k + 1, m, hm1, hm2⟩)) (hcl m i1 i2 z hm2)
        · exact e.1
    exact (key p hp).2
  · intro p hp hn
    rcases h2 p hp with h | h
    · exact h
    · exact absurd (h1 p hp h.1) hn
/-- the crowds of the roots below n stand, and nothing else -/
def GI (C : Nat → Bool) (g : Nat → Nat → Nat) (r n : Nat) (cr : Nat → Option Nat) (c : Nat) : Prop :=
  c = cR C (adj C g r) n ∧ (∀ p, p < 120 → ∀ q, q < n → rt C (adj C g r) q → cnn (adj C g r) q p → cr p = some (cR C (adj C g r) q)) ∧
  (∀ p k, p < 120 → cr p = some k → ∃ q, q < n ∧ rt C (adj C g r) q ∧ cnn (adj C g r) q p ∧ k = cR C (adj C g r) q)
theorem GI.zero {cr : Nat → Option Nat} (h : ∀ p, p < 120 → cr p = none) : GI C g r 0 cr 0 := ⟨rfl, fun p _ q hq => absurd hq (by omega), fun p k hp hk => by rw [h p hp] at hk; cases hk⟩
theorem GI.bd {n : Nat} {cr : Nat → Option Nat} (h : GI C g r n cr c) (hn : n ≤ 120) {p : Nat} (hp : p < 120) : ∀ k, cr p = some k → k < 120 := fun k hk => by
  obtain ⟨q, q1, q2, q3, q4⟩ := h.2.2 p k hp hk
  have := cR_le (C := C) (A := adj C g r) q
  omega
theorem GI.cc {n : Nat} {cr : Nat → Option Nat} (h : GI C g r n cr c) : c ≤ n := by
  rw [h.1]
  exact cR_le n
theorem GI.root (hg : ∀ p q, g p q = g q p) {n : Nat} {cr : Nat → Option Nat} (h : GI C g r n cr c) (hn : n < 120) (h1 : C n = true) (h2 : cr n = none) : rt C (adj C g r) n ∧ (∀ p, p < 120 → cr p ≠ some c) ∧ (∀ p, cnn (adj C g r) n p → cr p = none) := by
  have hroot : rt C (adj C g r) n := by
    obtain ⟨q, a1, a2, a3⟩ := rt_ex (A := adj C g r) h1
    by_cases e : q = n
    · rw [← e]; exact a2
    · have := h.2.1 n hn q (by omega) a2 a3
      rw [h2] at this
      cases this
  refine ⟨hroot, fun p hp hc => ?_, fun p hp => ?_⟩
  · obtain ⟨q, q1, q2, q3, q4⟩ := h.2.2 p _ hp hc
    have := cR_lt q2 q1
    have := h.1
    omega
  · cases e : cr p with
    | none => rfl
    | some k =>
      obtain ⟨q, q1, q2, q3, q4⟩ := h.2.2 p k (cnn_120 hp hn) e
      have := rt_un (adj_sy hg) q2 hroot q3 hp
      omega
theorem GI.yes (hg : ∀ p q, g p q = g q p) {n : Nat} {cr cr2 : Nat → Option Nat} (h : GI C g r n cr c) (hroot : rt C (adj C g r) n) (g1 : ∀ p, p < 120 → cnn (adj C g r) n p → cr2 p = some c) (g2 : ∀ p, p < 120 → ¬ cnn (adj C g r) n p → cr2 p = cr p) : GI C g r (n + 1) cr2 (c + 1) := by
  obtain ⟨i1, i2, i3⟩ := h
  subst i1
  refine ⟨(cR_y hroot).symm, fun p hp q hq h1 h2 => ?_, fun p k hp hk => ?_⟩
  · by_cases e : q = n
    · subst e
      exact g1 p hp h2
    · by_cases c2 : cnn (adj C g r) n p
      · exact absurd (rt_un (adj_sy hg) h1 hroot h2 c2) e
      · rw [g2 p hp c2]
        exact i2 p hp q (by omega) h1 h2
  · by_cases c2 : cnn (adj C g r) n p
    · rw [g1 p hp c2] at hk
      cases hk
      exact ⟨n, by omega, hroot, c2, rfl⟩
    · rw [g2 p hp c2] at hk
      obtain ⟨q, q1, q2⟩ := i3 p k hp hk
      exact ⟨q, by omega, q2⟩
theorem GI.no {n : Nat} {cr : Nat → Option Nat} (h : GI C g r n cr c) (hn : n < 120) (hc : ¬ (C n = true ∧ cr n = none)) : GI C g r (n + 1) cr c := by
  obtain ⟨i1, i2, i3⟩ := h
  have hnr : ¬ rt C (adj C g r) n := fun h => by
    cases e : cr n with
    | none => exact hc ⟨h.1, e⟩
    | some k =>
      obtain ⟨q, q1, q2, q3, q4⟩ := i3 n k hn e
      exact h.2 q q1 q2.1 q3
  refine ⟨by rw [cR_n hnr]; exact i1, fun p hp q hq h1 h2 => ?_, fun p k hp hk => ?_⟩
  · by_cases e : q = n
    · subst e
      exact absurd h1 hnr
    · exact i2 p hp q (by omega) h1 h2
  · obtain ⟨q, q1, q2⟩ := i3 p k hp hk
    exact ⟨q, by omega, q2⟩
end LB
theorem GI.srt {w : Nat → Nat} {x y : Nat → Int32} {wy de r : Nat} {C : Nat → Bool} {z cr : Nat → Option Nat} {cc : Nat} (h : GI C (gp wy x y) r 120 z cc) (e1 : ∀ p, p < 120 → C p = isC w x y wy de r p) (hcr : ∀ p, p < 120 → cr p = if 0 < w p ∧ C p = false then lcs1 C z (gp wy x y p) r else z p) : Srt w x y wy de r C cr cc := by
  refine Srt.mk (z := z) e1 (fun p hp hc => ?_) (fun p hp hc => ?_) h.1 hcr
  · obtain ⟨q, a1, a2, a3⟩ := rt_ex (A := adj C (gp wy x y) r) hc
    exact ⟨q, by omega, a2, a3, h.2.1 p hp q (by omega) a2 a3⟩
  · cases e : z p with
    | none => rfl
    | some k =>
      obtain ⟨q, a1, a2, a3, a4⟩ := h.2.2 p k hp e
      rw [cnn_core a3 a2.1] at hc
      cases hc
/-- the reference's rows and the points -/
def MI (v : Nat → Nat) (x y : Nat → Int32) (wy re de : Nat) (is : Nat → Bool) (w : Nat → Nat) : Prop := WFp v x y wy re de ∧ ∀ j, is j = decide (0 < v j) ∧ (0 < v j → w j = v j)
def MW (a : Nat → Nat) (t : Ty3) (V : VT) (u : va_W) : Prop := ∃ is w co cr cc dn cs df, u = WM a t is V.2.1 V.2.2.1 w V.2.2.2.1 V.2.2.2.2.1 V.2.2.2.2.2 co cr cc dn cs df ∧ MI V.1 V.2.1 V.2.2.1 V.2.2.2.1 V.2.2.2.2.1 V.2.2.2.2.2 is w
theorem MI.isv {v : Nat → Nat} {x y : Nat → Int32} {wy re de : Nat} {is : Nat → Bool} {w : Nat → Nat} (h : MI v x y wy re de is w) : is = fun j => decide (0 < v j) := funext fun j => (h.2 j).1
theorem MI.y {v : Nat → Nat} {x y : Nat → Int32} {wy re de : Nat} {is : Nat → Bool} {w : Nat → Nat} (h : MI v x y wy re de is w) {j : Nat} (hj : is j = true) : 0 < v j ∧ w j = v j := by
  rw [(h.2 j).1] at hj
  have := of_decide_eq_true hj
  exact ⟨this, (h.2 j).2 this⟩
theorem MI.n {v : Nat → Nat} {x y : Nat → Int32} {wy re de : Nat} {is : Nat → Bool} {w : Nat → Nat} (h : MI v x y wy re de is w) {j : Nat} (hj : is j = false) : v j = 0 := by
  rw [(h.2 j).1] at hj
  have := of_decide_eq_false hj
  omega
theorem sub_dist {a b : Int32} (h : b.toInt64 ≤ a.toInt64) : a.toInt64 - b.toInt64 = lN (dist1 a b) := by
  have hs := lg_i2l_sub a b
  have hl := dist1_lt a b
  have h2 := Int64.le_iff_toInt_le.mp h
  rw [Int32.toInt_toInt64, Int32.toInt_toInt64] at h2
  refine lN_of_toInt (by omega) ?_
  unfold dist1
  omega
theorem sub_dist2 {a b : Int32} (h : ¬ b.toInt64 ≤ a.toInt64) : b.toInt64 - a.toInt64 = lN (dist1 a b) := by
  rw [dist1_comm]
  exact sub_dist (by
    rcases lg_tri a.toInt64 b.toInt64 with q | q | q
    · exact Int64.le_of_lt q
    · rw [q]; exact Int64.le_refl _
    · exact absurd (Int64.le_of_lt q) h)
