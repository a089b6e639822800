def anyN (s : Nat → Bool) : Nat → Bool
  | 0 => false
  | n + 1 => anyN s n || s n
theorem anyN_t {s : Nat → Bool} {n : Nat} (h : s n = true) : anyN s (n + 1) = true := by
  show (anyN s n || s n) = true
  rw [h, Bool.or_true]
theorem anyN_f {s : Nat → Bool} {n : Nat} (h : s n = false) : anyN s (n + 1) = anyN s n := by
  show (anyN s n || s n) = _
  rw [h, Bool.or_false]
theorem anyN_k {s : Nat → Bool} {n : Nat} (h : anyN s n = true) : anyN s (n + 1) = true := by
  show (anyN s n || s n) = true
  rw [h, Bool.true_or]
theorem anyN_ex {s : Nat → Bool} : ∀ {n : Nat}, anyN s n = true → ∃ j, j < n ∧ s j = true
  | 0, h => by cases h
  | n + 1, h => by
    have h : (anyN s n || s n) = true := h
    rcases Bool.or_eq_true_iff.mp h with h | h
    · obtain ⟨j, h1, h2⟩ := anyN_ex h
      exact ⟨j, by omega, h2⟩
    · exact ⟨n, by omega, h⟩
theorem anyN_of {s : Nat → Bool} {j : Nat} (h : s j = true) : ∀ {n : Nat}, j < n → anyN s n = true
  | 0, hn => absurd hn (by omega)
  | n + 1, hn => by
    by_cases e : j = n
    · rw [← e]; exact anyN_t h
    · exact anyN_k (anyN_of h (by omega))
theorem oI_inj {q q2 : Option Nat} (h : ∀ k, q = some k → k < 2 ^ 31) (h2 : ∀ k, q2 = some k → k < 2 ^ 31) : oI q = oI q2 ↔ q = q2 := by
  cases q2 with
  | none => exact oI_none h
  | some k => exact oI_some h (h2 k rfl)
section GR3
variable {E : En} {X : Cx} {k n pc L : Nat} {lv : List (Nat × Value)} {st : List Value} {ws : va_W} {cc : ByteArray} {own : String} {Ts : List Cond} {rm : Room}
theorem g_icmp_ne_oo (F : Fx E X cc own Ts rm L) {q q2 : Option Nat} {off : Int} (tgt : Nat) (d : decode cc pc = .ok (.if_icmp .ne off, 3)) (ht : (pc : Int) + off = (tgt : Int)) (hc : ∀ k, q = some k → k < 2 ^ 31) (hc2 : ∀ k, q2 = some k → k < 2 ^ 31) (K1 : q ≠ q2 → GG E X k n tgt lv st ws) (K2 : q = q2 → GG E X k n (pc + 3) lv st ws) : GG E X k n pc lv (.int (oI q2) :: .int (oI q) :: st) ws :=
  g_icmp_ne F tgt d ht (fun h => K1 (fun z => h ((oI_inj hc hc2).mpr z))) (fun h => K2 ((oI_inj hc hc2).mp h))
end GR3
section SRT2
variable {w : Nat → Nat} {x y : Nat → Int32} {wy re de r : Nat} {co : Nat → Bool} {cr : Nat → Option Nat} {cc : Nat}
theorem cnn_first {A : Nat → Nat → Prop} {p : Nat} : ∀ (k q : Nat), pth A k p q → q ≠ p → ∃ z, z ≠ p ∧ A p z
  | 0, q, h, hn => absurd (show p = q from h).symm hn
  | k + 1, q, h, hn => by
    obtain ⟨m, h1, h2⟩ := h
    by_cases e : m = p
    · subst e
      exact ⟨q, hn, h2⟩
    · exact cnn_first k m h1 e
/-- near cores are in one crowd -/
theorem Srt.same (h : Srt w x y wy de r co cr cc) {p q : Nat} (hp : p < 120) (hq : q < 120) (h1 : co p = true) (h2 : co q = true) (hg : gp wy x y p q ≤ r) : cr p = cr q := by
  obtain ⟨a, a1, a2, a3, a4⟩ := h.2.1 p hp h1
  obtain ⟨b, b1, b2, b3, b4⟩ := h.2.1 q hq h2
  have := rt_un (adj_sy (gp_comm wy x y)) a2 b2 (cnn_st a3 ⟨hp, hq, h1, h2, hg⟩) b3
  subst this
  rw [a4, b4]
theorem Srt.conn (h : Srt w x y wy de r co cr cc) {p q : Nat} (hp : p < 120) (hq : q < 120) (h1 : co p = true) (h2 : co q = true) (he : cr p = cr q) : cnn (adj co (gp wy x y) r) p q := by
  obtain ⟨a, a1, a2, a3, a4⟩ := h.2.1 p hp h1
  obtain ⟨b, b1, b2, b3, b4⟩ := h.2.1 q hq h2
  rw [a4, b4] at he
  have e := Option.some.inj he
  have e2 : a = b := by
    rcases Nat.lt_trichotomy a b with z | z | z
    · have := cR_lt a2 z; omega
    · exact z
    · have := cR_lt b2 z; omega
  subst e2
  exact cnn_tr (cnn_sy (adj_sy (gp_comm wy x y)) a3) b3
theorem Srt.more (h : Srt w x y wy de r co cr cc) {p q : Nat} (hp : p < 120) (hq : q < 120) (h1 : co p = true) (h2 : co q = true) (he : cr q = cr p) (hn : q ≠ p) : ∃ z, z < 120 ∧ z ≠ p ∧ co z = true ∧ cr z = cr p ∧ gp wy x y p z ≤ r := by
  obtain ⟨k, hk⟩ := h.conn hp hq h1 h2 he.symm
  obtain ⟨z, z1, z2⟩ := cnn_first k q hk hn
  exact ⟨z, z2.2.1, z1, z2.2.2.2.1, (h.same hp z2.2.1 h1 z2.2.2.2.1 z2.2.2.2.2).symm, z2.2.2.2.2⟩
end SRT2
/-- stray, border, core -/
def knd (co : Nat → Bool) (cr : Nat → Option Nat) (p : Nat) : Nat := if co p = true then 2 else if cr p = none then 0 else 1
theorem knd_le (co : Nat → Bool) (cr : Nat → Option Nat) (p : Nat) : knd co cr p ≤ 2 := by
  unfold knd
  split
  · omega
  · split <;> omega
/-- the least and the greatest of those that are so -/
def mnf (x : Nat → Int32) (s : Nat → Bool) (z : Int32) : Nat → Int32
  | 0 => z
  | n + 1 => if s n = true then (if x n < mnf x s z n then x n else mnf x s z n) else mnf x s z n
def mxf (x : Nat → Int32) (s : Nat → Bool) (z : Int32) : Nat → Int32
  | 0 => z
  | n + 1 => if s n = true then (if mxf x s z n < x n then x n else mxf x s z n) else mxf x s z n
noncomputable def mn1 (x : Nat → Int32) (s : Nat → Bool) (z : Int32) : Int32 := hide (mnf x s z 120)
theorem mn1_eq (x : Nat → Int32) (s : Nat → Bool) (z : Int32) : mn1 x s z = mnf x s z 120 := hide_eq _
noncomputable def mx1 (x : Nat → Int32) (s : Nat → Bool) (z : Int32) : Int32 := hide (mxf x s z 120)
theorem mx1_eq (x : Nat → Int32) (s : Nat → Bool) (z : Int32) : mx1 x s z = mxf x s z 120 := hide_eq _
theorem mnf_y {x : Nat → Int32} {s : Nat → Bool} {z : Int32} {n : Nat} (h : s n = true) : mnf x s z (n + 1) = if x n < mnf x s z n then x n else mnf x s z n := if_pos h
theorem mnf_n {x : Nat → Int32} {s : Nat → Bool} {z : Int32} {n : Nat} (h : ¬ s n = true) : mnf x s z (n + 1) = mnf x s z n := if_neg h
theorem mxf_y {x : Nat → Int32} {s : Nat → Bool} {z : Int32} {n : Nat} (h : s n = true) : mxf x s z (n + 1) = if mxf x s z n < x n then x n else mxf x s z n := if_pos h
theorem mxf_n {x : Nat → Int32} {s : Nat → Bool} {z : Int32} {n : Nat} (h : ¬ s n = true) : mxf x s z (n + 1) = mxf x s z n := if_neg h
