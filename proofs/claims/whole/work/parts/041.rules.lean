theorem b2_0 {e : Bool} : b2 e = 0 ↔ e = false := by cases e <;> decide
theorem b2_n {e : Bool} : ¬ b2 e = 0 ↔ e = true := by cases e <;> decide
theorem nI_z {a : Nat} (h : a < 2 ^ 31) : nI a = 0 ↔ a = 0 := by rw [← nI_0]; exact nI_eq h (by decide)
theorem nI_le0 {a : Nat} (h : a < 2 ^ 31) : nI a ≤ 0 ↔ a = 0 := by rw [← nI_0, nI_leI h (by decide)]; omega
theorem nI_lt0 {a : Nat} (h : a < 2 ^ 31) : ¬ nI a < 0 := nI_pos h
theorem nI_ge0 {a : Nat} (h : a < 2 ^ 31) : 0 ≤ nI a := nI_pos' h
theorem nI_gt0 {a : Nat} (h : a < 2 ^ 31) : 0 < nI a ↔ 0 < a := by rw [← nI_0, nI_ltI (by decide) h]
theorem m1_ne {k : Nat} (h : k < 2 ^ 31) : ¬ nI k = -1 := fun q => by
  have h1 := nI_toInt h
  rw [q] at h1
  have h2 : (-1 : Int32).toInt = -1 := by decide
  omega
theorem oI_none {c : Option Nat} (h : ∀ k, c = some k → k < 2 ^ 31) : oI c = oI none ↔ c = none := by
  cases c with
  | none => exact ⟨fun _ => rfl, fun _ => rfl⟩
  | some k => exact ⟨fun q => absurd q (m1_ne (h k rfl)), fun q => by cases q⟩
theorem oI_some {c : Option Nat} {b : Nat} (h : ∀ k, c = some k → k < 2 ^ 31) (hb : b < 2 ^ 31) : oI c = nI b ↔ c = some b := by
  cases c with
  | none => exact ⟨fun q => absurd q.symm (m1_ne hb), fun q => by cases q⟩
  | some k => exact ⟨fun q => by rw [(nI_eq (h k rfl) hb).mp q], fun q => by cases q; rfl⟩
theorem oI_lt0 {c : Option Nat} (h : ∀ k, c = some k → k < 2 ^ 31) : oI c < 0 ↔ c = none := by
  cases c with
  | none => exact ⟨fun _ => rfl, fun _ => by decide⟩
  | some k => exact ⟨fun q => absurd q (nI_pos (h k rfl)), fun q => by cases q⟩
theorem oI_ge0 {c : Option Nat} (h : ∀ k, c = some k → k < 2 ^ 31) : 0 ≤ oI c ↔ ¬ c = none := by
  cases c with
  | none => exact ⟨fun q => absurd q (by decide), fun q => absurd rfl q⟩
  | some k => exact ⟨fun _ q => (by cases q), fun _ => nI_pos' (h k rfl)⟩
theorem lN_0 : lN 0 = 0 := rfl
theorem oL_lt0 {c : Option Nat} (h : ∀ k, c = some k → k < 2 ^ 63) : oL c < 0 ↔ c = none := by
  cases c with
  | none => exact ⟨fun _ => rfl, fun _ => by decide⟩
  | some k => exact ⟨fun q => absurd q (by rw [← lN_0, oL, pk_lLT (h k rfl) (by decide)]; omega), fun q => by cases q⟩
theorem oL_ge0 {c : Option Nat} (h : ∀ k, c = some k → k < 2 ^ 63) : 0 ≤ oL c ↔ ¬ c = none := by
  cases c with
  | none => exact ⟨fun q => absurd q (by decide), fun q => absurd rfl q⟩
  | some k => exact ⟨fun _ q => (by cases q), fun _ => (by rw [← lN_0, oL, pk_lLE (by decide) (h k rfl)]; omega)⟩
section GR2
variable {E : En} {X : Cx} {k n pc L : Nat} {lv : List (Nat × Value)} {st : List Value} {ws : va_W} {cc : ByteArray} {own : String} {Ts : List Cond} {rm : Room}
theorem g_if_eq_b (F : Fx E X cc own Ts rm L) {e : Bool} {off : Int} (tgt : Nat) (d : decode cc pc = .ok (.ifCond .eq off, 3)) (ht : (pc : Int) + off = (tgt : Int))  (K1 : e = false → GG E X k n tgt lv st ws) (K2 : e = true → GG E X k n (pc + 3) lv st ws) : GG E X k n pc lv (.int (b2 e) :: st) ws :=
  g_if_eq F tgt d ht (fun h => K1 (b2_0.mp h)) (fun h => K2 (b2_n.mp h))
theorem g_if_ne_b (F : Fx E X cc own Ts rm L) {e : Bool} {off : Int} (tgt : Nat) (d : decode cc pc = .ok (.ifCond .ne off, 3)) (ht : (pc : Int) + off = (tgt : Int))  (K1 : e = true → GG E X k n tgt lv st ws) (K2 : e = false → GG E X k n (pc + 3) lv st ws) : GG E X k n pc lv (.int (b2 e) :: st) ws :=
  g_if_ne F tgt d ht (fun h => K1 (b2_n.mp h)) (fun h => K2 (b2_0.mp h))
theorem g_icmp_eq_n (F : Fx E X cc own Ts rm L) {i j : Nat} {off : Int} (tgt : Nat) (d : decode cc pc = .ok (.if_icmp .eq off, 3)) (ht : (pc : Int) + off = (tgt : Int)) (ha : i < 2 ^ 31) (hb : j < 2 ^ 31) (K1 : i = j → GG E X k n tgt lv st ws) (K2 : i ≠ j → GG E X k n (pc + 3) lv st ws) : GG E X k n pc lv (.int (nI j) :: .int (nI i) :: st) ws :=
  g_icmp_eq F tgt d ht (fun h => K1 ((nI_eq ha hb).mp h)) (fun h => K2 (fun z => h ((nI_eq ha hb).mpr z)))
theorem g_icmp_ne_n (F : Fx E X cc own Ts rm L) {i j : Nat} {off : Int} (tgt : Nat) (d : decode cc pc = .ok (.if_icmp .ne off, 3)) (ht : (pc : Int) + off = (tgt : Int)) (ha : i < 2 ^ 31) (hb : j < 2 ^ 31) (K1 : i ≠ j → GG E X k n tgt lv st ws) (K2 : i = j → GG E X k n (pc + 3) lv st ws) : GG E X k n pc lv (.int (nI j) :: .int (nI i) :: st) ws :=
  g_icmp_ne F tgt d ht (fun h => K1 (fun z => h ((nI_eq ha hb).mpr z))) (fun h => K2 ((nI_eq ha hb).mp h))
theorem g_icmp_lt_n (F : Fx E X cc own Ts rm L) {i j : Nat} {off : Int} (tgt : Nat) (d : decode cc pc = .ok (.if_icmp .lt off, 3)) (ht : (pc : Int) + off = (tgt : Int)) (ha : i < 2 ^ 31) (hb : j < 2 ^ 31) (K1 : i < j → GG E X k n tgt lv st ws) (K2 : j ≤ i → GG E X k n (pc + 3) lv st ws) : GG E X k n pc lv (.int (nI j) :: .int (nI i) :: st) ws :=
  g_icmp_lt F tgt d ht (fun h => K1 ((nI_ltI ha hb).mp h)) (fun h => K2 (Nat.le_of_not_lt fun z => h ((nI_ltI ha hb).mpr z)))
theorem g_icmp_ge_n (F : Fx E X cc own Ts rm L) {i j : Nat} {off : Int} (tgt : Nat) (d : decode cc pc = .ok (.if_icmp .ge off, 3)) (ht : (pc : Int) + off = (tgt : Int)) (ha : i < 2 ^ 31) (hb : j < 2 ^ 31) (K1 : j ≤ i → GG E X k n tgt lv st ws) (K2 : i < j → GG E X k n (pc + 3) lv st ws) : GG E X k n pc lv (.int (nI j) :: .int (nI i) :: st) ws :=
  g_icmp_ge F tgt d ht (fun h => K1 ((nI_leI hb ha).mp h)) (fun h => K2 (Nat.lt_of_not_le fun z => h ((nI_leI hb ha).mpr z)))
theorem g_icmp_gt_n (F : Fx E X cc own Ts rm L) {i j : Nat} {off : Int} (tgt : Nat) (d : decode cc pc = .ok (.if_icmp .gt off, 3)) (ht : (pc : Int) + off = (tgt : Int)) (ha : i < 2 ^ 31) (hb : j < 2 ^ 31) (K1 : j < i → GG E X k n tgt lv st ws) (K2 : i ≤ j → GG E X k n (pc + 3) lv st ws) : GG E X k n pc lv (.int (nI j) :: .int (nI i) :: st) ws :=
  g_icmp_gt F tgt d ht (fun h => K1 ((nI_ltI hb ha).mp h)) (fun h => K2 (Nat.le_of_not_lt fun z => h ((nI_ltI hb ha).mpr z)))
theorem g_icmp_le_n (F : Fx E X cc own Ts rm L) {i j : Nat} {off : Int} (tgt : Nat) (d : decode cc pc = .ok (.if_icmp .le off, 3)) (ht : (pc : Int) + off = (tgt : Int)) (ha : i < 2 ^ 31) (hb : j < 2 ^ 31) (K1 : i ≤ j → GG E X k n tgt lv st ws) (K2 : j < i → GG E X k n (pc + 3) lv st ws) : GG E X k n pc lv (.int (nI j) :: .int (nI i) :: st) ws :=
  g_icmp_le F tgt d ht (fun h => K1 ((nI_leI ha hb).mp h)) (fun h => K2 (Nat.lt_of_not_le fun z => h ((nI_leI ha hb).mpr z)))
theorem g_if_eq_n (F : Fx E X cc own Ts rm L) {i : Nat} {off : Int} (tgt : Nat) (d : decode cc pc = .ok (.ifCond .eq off, 3)) (ht : (pc : Int) + off = (tgt : Int)) (ha : i < 2 ^ 31) (K1 : i = 0 → GG E X k n tgt lv st ws) (K2 : 0 < i → GG E X k n (pc + 3) lv st ws) : GG E X k n pc lv (.int (nI i) :: st) ws :=
  g_if_eq F tgt d ht (fun h => K1 ((nI_z ha).mp h)) (fun h => K2 (Nat.pos_of_ne_zero fun z => h ((nI_z ha).mpr z)))
theorem g_if_ne_n (F : Fx E X cc own Ts rm L) {i : Nat} {off : Int} (tgt : Nat) (d : decode cc pc = .ok (.ifCond .ne off, 3)) (ht : (pc : Int) + off = (tgt : Int)) (ha : i < 2 ^ 31) (K1 : 0 < i → GG E X k n tgt lv st ws) (K2 : i = 0 → GG E X k n (pc + 3) lv st ws) : GG E X k n pc lv (.int (nI i) :: st) ws :=
  g_if_ne F tgt d ht (fun h => K1 (Nat.pos_of_ne_zero fun z => h ((nI_z ha).mpr z))) (fun h => K2 ((nI_z ha).mp h))
theorem g_if_le_n (F : Fx E X cc own Ts rm L) {i : Nat} {off : Int} (tgt : Nat) (d : decode cc pc = .ok (.ifCond .le off, 3)) (ht : (pc : Int) + off = (tgt : Int)) (ha : i < 2 ^ 31) (K1 : i = 0 → GG E X k n tgt lv st ws) (K2 : 0 < i → GG E X k n (pc + 3) lv st ws) : GG E X k n pc lv (.int (nI i) :: st) ws :=
  g_if_le F tgt d ht (fun h => K1 ((nI_le0 ha).mp h)) (fun h => K2 (Nat.pos_of_ne_zero fun z => h ((nI_le0 ha).mpr z)))
theorem g_if_gt_n (F : Fx E X cc own Ts rm L) {i : Nat} {off : Int} (tgt : Nat) (d : decode cc pc = .ok (.ifCond .gt off, 3)) (ht : (pc : Int) + off = (tgt : Int)) (ha : i < 2 ^ 31) (K1 : 0 < i → GG E X k n tgt lv st ws) (K2 : i = 0 → GG E X k n (pc + 3) lv st ws) : GG E X k n pc lv (.int (nI i) :: st) ws :=
  g_if_gt F tgt d ht (fun h => K1 ((nI_gt0 ha).mp h)) (fun h => K2 (Nat.eq_zero_of_not_pos fun z => h ((nI_gt0 ha).mpr z)))
theorem g_icmp_eq_o (F : Fx E X cc own Ts rm L) {q : Option Nat} {off : Int} (tgt : Nat) (d : decode cc pc = .ok (.if_icmp .eq off, 3)) (ht : (pc : Int) + off = (tgt : Int)) (hc : ∀ k, q = some k → k < 2 ^ 31) (K1 : q = none → GG E X k n tgt lv st ws) (K2 : q ≠ none → GG E X k n (pc + 3) lv st ws) : GG E X k n pc lv (.int (oI none) :: .int (oI q) :: st) ws :=
  g_icmp_eq F tgt d ht (fun h => K1 ((oI_none hc).mp h)) (fun h => K2 (fun z => h ((oI_none hc).mpr z)))
theorem g_icmp_ne_o (F : Fx E X cc own Ts rm L) {q : Option Nat} {off : Int} (tgt : Nat) (d : decode cc pc = .ok (.if_icmp .ne off, 3)) (ht : (pc : Int) + off = (tgt : Int)) (hc : ∀ k, q = some k → k < 2 ^ 31) (K1 : q ≠ none → GG E X k n tgt lv st ws) (K2 : q = none → GG E X k n (pc + 3) lv st ws) : GG E X k n pc lv (.int (oI none) :: .int (oI q) :: st) ws :=
  g_icmp_ne F tgt d ht (fun h => K1 (fun z => h ((oI_none hc).mpr z))) (fun h => K2 ((oI_none hc).mp h))
theorem g_icmp_eq_on (F : Fx E X cc own Ts rm L) {q : Option Nat} {j : Nat} {off : Int} (tgt : Nat) (d : decode cc pc = .ok (.if_icmp .eq off, 3)) (ht : (pc : Int) + off = (tgt : Int)) (hc : ∀ k, q = some k → k < 2 ^ 31) (hb : j < 2 ^ 31) (K1 : q = some j → GG E X k n tgt lv st ws) (K2 : q ≠ some j → GG E X k n (pc + 3) lv st ws) : GG E X k n pc lv (.int (nI j) :: .int (oI q) :: st) ws :=
  g_icmp_eq F tgt d ht (fun h => K1 ((oI_some hc hb).mp h)) (fun h => K2 (fun z => h ((oI_some hc hb).mpr z)))
theorem g_icmp_ne_on (F : Fx E X cc own Ts rm L) {q : Option Nat} {j : Nat} {off : Int} (tgt : Nat) (d : decode cc pc = .ok (.if_icmp .ne off, 3)) (ht : (pc : Int) + off = (tgt : Int)) (hc : ∀ k, q = some k → k < 2 ^ 31) (hb : j < 2 ^ 31) (K1 : q ≠ some j → GG E X k n tgt lv st ws) (K2 : q = some j → GG E X k n (pc + 3) lv st ws) : GG E X k n pc lv (.int (nI j) :: .int (oI q) :: st) ws :=
  g_icmp_ne F tgt d ht (fun h => K1 (fun z => h ((oI_some hc hb).mpr z))) (fun h => K2 ((oI_some hc hb).mp h))
theorem g_if_lt_o (F : Fx E X cc own Ts rm L) {q : Option Nat} {off : Int} (tgt : Nat) (d : decode cc pc = .ok (.ifCond .lt off, 3)) (ht : (pc : Int) + off = (tgt : Int)) (hc : ∀ k, q = some k → k < 2 ^ 31) (K1 : q = none → GG E X k n tgt lv st ws) (K2 : q ≠ none → GG E X k n (pc + 3) lv st ws) : GG E X k n pc lv (.int (oI q) :: st) ws :=
  g_if_lt F tgt d ht (fun h => K1 ((oI_lt0 hc).mp h)) (fun h => K2 (fun z => h ((oI_lt0 hc).mpr z)))
theorem g_if_ge_o (F : Fx E X cc own Ts rm L) {q : Option Nat} {off : Int} (tgt : Nat) (d : decode cc pc = .ok (.ifCond .ge off, 3)) (ht : (pc : Int) + off = (tgt : Int)) (hc : ∀ k, q = some k → k < 2 ^ 31) (K1 : q ≠ none → GG E X k n tgt lv st ws) (K2 : q = none → GG E X k n (pc + 3) lv st ws) : GG E X k n pc lv (.int (oI q) :: st) ws :=
  g_if_ge F tgt d ht (fun h => K1 ((oI_ge0 hc).mp h)) (fun h => K2 (Decidable.byContradiction fun z => h ((oI_ge0 hc).mpr z)))
theorem g_lc_lt_n (F : Fx E X cc own Ts rm L) {i j : Nat} {off : Int} (tgt : Nat) (d1 : decode cc pc = .ok (.lcmp, 1)) (d2 : decode cc (pc + 1) = .ok (.ifCond .lt off, 3)) (ht : ((pc + 1 : Nat) : Int) + off = (tgt : Int)) (ha : i < 2 ^ 63) (hb : j < 2 ^ 63) (K1 : i < j → GG E X k n tgt lv st ws) (K2 : j ≤ i → GG E X k n (pc + 4) lv st ws) : GG E X k n pc lv (.long (lN j) :: .long (lN i) :: st) ws :=
  g_lc_lt F tgt d1 d2 ht (fun h => K1 ((pk_lLT ha hb).mp h)) (fun h => K2 (Nat.le_of_not_lt fun z => h ((pk_lLT ha hb).mpr z)))
theorem g_lc_ge_n (F : Fx E X cc own Ts rm L) {i j : Nat} {off : Int} (tgt : Nat) (d1 : decode cc pc = .ok (.lcmp, 1)) (d2 : decode cc (pc + 1) = .ok (.ifCond .ge off, 3)) (ht : ((pc + 1 : Nat) : Int) + off = (tgt : Int)) (ha : i < 2 ^ 63) (hb : j < 2 ^ 63) (K1 : j ≤ i → GG E X k n tgt lv st ws) (K2 : i < j → GG E X k n (pc + 4) lv st ws) : GG E X k n pc lv (.long (lN j) :: .long (lN i) :: st) ws :=
  g_lc_ge F tgt d1 d2 ht (fun h => K1 ((pk_lLE hb ha).mp h)) (fun h => K2 (Nat.lt_of_not_le fun z => h ((pk_lLE hb ha).mpr z)))
theorem g_lc_gt_n (F : Fx E X cc own Ts rm L) {i j : Nat} {off : Int} (tgt : Nat) (d1 : decode cc pc = .ok (.lcmp, 1)) (d2 : decode cc (pc + 1) = .ok (.ifCond .gt off, 3)) (ht : ((pc + 1 : Nat) : Int) + off = (tgt : Int)) (ha : i < 2 ^ 63) (hb : j < 2 ^ 63) (K1 : j < i → GG E X k n tgt lv st ws) (K2 : i ≤ j → GG E X k n (pc + 4) lv st ws) : GG E X k n pc lv (.long (lN j) :: .long (lN i) :: st) ws :=
  g_lc_gt F tgt d1 d2 ht (fun h => K1 ((pk_lLT hb ha).mp h)) (fun h => K2 (Nat.le_of_not_lt fun z => h ((pk_lLT hb ha).mpr z)))
theorem g_lc_le_n (F : Fx E X cc own Ts rm L) {i j : Nat} {off : Int} (tgt : Nat) (d1 : decode cc pc = .ok (.lcmp, 1)) (d2 : decode cc (pc + 1) = .ok (.ifCond .le off, 3)) (ht : ((pc + 1 : Nat) : Int) + off = (tgt : Int)) (ha : i < 2 ^ 63) (hb : j < 2 ^ 63) (K1 : i ≤ j → GG E X k n tgt lv st ws) (K2 : j < i → GG E X k n (pc + 4) lv st ws) : GG E X k n pc lv (.long (lN j) :: .long (lN i) :: st) ws :=
  g_lc_le F tgt d1 d2 ht (fun h => K1 ((pk_lLE ha hb).mp h)) (fun h => K2 (Nat.lt_of_not_le fun z => h ((pk_lLE ha hb).mpr z)))
theorem g_lc_eq_n (F : Fx E X cc own Ts rm L) {i j : Nat} {off : Int} (tgt : Nat) (d1 : decode cc pc = .ok (.lcmp, 1)) (d2 : decode cc (pc + 1) = .ok (.ifCond .eq off, 3)) (ht : ((pc + 1 : Nat) : Int) + off = (tgt : Int)) (ha : i < 2 ^ 63) (hb : j < 2 ^ 63) (K1 : i = j → GG E X k n tgt lv st ws) (K2 : i ≠ j → GG E X k n (pc + 4) lv st ws) : GG E X k n pc lv (.long (lN j) :: .long (lN i) :: st) ws :=
  g_lc_eq F tgt d1 d2 ht (fun h => K1 ((pk_lEQ ha hb).mp h)) (fun h => K2 (fun z => h ((pk_lEQ ha hb).mpr z)))
theorem g_lc_ne_n (F : Fx E X cc own Ts rm L) {i j : Nat} {off : Int} (tgt : Nat) (d1 : decode cc pc = .ok (.lcmp, 1)) (d2 : decode cc (pc + 1) = .ok (.ifCond .ne off, 3)) (ht : ((pc + 1 : Nat) : Int) + off = (tgt : Int)) (ha : i < 2 ^ 63) (hb : j < 2 ^ 63) (K1 : i ≠ j → GG E X k n tgt lv st ws) (K2 : i = j → GG E X k n (pc + 4) lv st ws) : GG E X k n pc lv (.long (lN j) :: .long (lN i) :: st) ws :=
  g_lc_ne F tgt d1 d2 ht (fun h => K1 (fun z => h ((pk_lEQ ha hb).mpr z))) (fun h => K2 ((pk_lEQ ha hb).mp h))
theorem g_lc_lt_o (F : Fx E X cc own Ts rm L) {q : Option Nat} {off : Int} (tgt : Nat) (d1 : decode cc pc = .ok (.lcmp, 1)) (d2 : decode cc (pc + 1) = .ok (.ifCond .lt off, 3)) (ht : ((pc + 1 : Nat) : Int) + off = (tgt : Int)) (hc : ∀ k, q = some k → k < 2 ^ 63) (K1 : q = none → GG E X k n tgt lv st ws) (K2 : q ≠ none → GG E X k n (pc + 4) lv st ws) : GG E X k n pc lv (.long (lN 0) :: .long (oL q) :: st) ws :=
  g_lc_lt F tgt d1 d2 ht (fun h => K1 ((oL_lt0 hc).mp h)) (fun h => K2 (fun z => h ((oL_lt0 hc).mpr z)))
theorem g_lc_ge_o (F : Fx E X cc own Ts rm L) {q : Option Nat} {off : Int} (tgt : Nat) (d1 : decode cc pc = .ok (.lcmp, 1)) (d2 : decode cc (pc + 1) = .ok (.ifCond .ge off, 3)) (ht : ((pc + 1 : Nat) : Int) + off = (tgt : Int)) (hc : ∀ k, q = some k → k < 2 ^ 63) (K1 : q ≠ none → GG E X k n tgt lv st ws) (K2 : q = none → GG E X k n (pc + 4) lv st ws) : GG E X k n pc lv (.long (lN 0) :: .long (oL q) :: st) ws :=
  g_lc_ge F tgt d1 d2 ht (fun h => K1 ((oL_ge0 hc).mp h)) (fun h => K2 (Decidable.byContradiction fun z => h ((oL_ge0 hc).mpr z)))
theorem g_iadd_n (F : Fx E X cc own Ts rm L) {i j : Nat} (d : decode cc pc = .ok (.iadd, 1)) (K : GG E X k n (pc + 1) lv (.int (nI (i + j)) :: st) ws) : GG E X k n pc lv (.int (nI j) :: .int (nI i) :: st) ws := g_iadd F d (by rw [nI_add]; exact K)
theorem g_isub_n (F : Fx E X cc own Ts rm L) {i j : Nat} (d : decode cc pc = .ok (.isub, 1)) (h : j ≤ i) (K : GG E X k n (pc + 1) lv (.int (nI (i - j)) :: st) ws) : GG E X k n pc lv (.int (nI j) :: .int (nI i) :: st) ws := g_isub F d (by rw [pk_sub h]; exact K)
theorem g_ladd_n (F : Fx E X cc own Ts rm L) {i j : Nat} (d : decode cc pc = .ok (.ladd, 1)) (K : GG E X k n (pc + 1) lv (.long (lN (i + j)) :: st) ws) : GG E X k n pc lv (.long (lN j) :: .long (lN i) :: st) ws := g_ladd F d (by rw [lN_add]; exact K)
theorem g_lmul_n (F : Fx E X cc own Ts rm L) {i j : Nat} (d : decode cc pc = .ok (.lmul, 1)) (K : GG E X k n (pc + 1) lv (.long (lN (i * j)) :: st) ws) : GG E X k n pc lv (.long (lN j) :: .long (lN i) :: st) ws := g_lmul F d (by rw [lN_mul]; exact K)
/-- the number on top is written otherwise -/
theorem g_topi {x y : Int32} (h : x = y) (K : GG E X k n pc lv (.int y :: st) ws) : GG E X k n pc lv (.int x :: st) ws := by rw [h]; exact K
theorem g_topl {x y : Int64} (h : x = y) (K : GG E X k n pc lv (.long y :: st) ws) : GG E X k n pc lv (.long x :: st) ws := by rw [h]; exact K
end GR2
abbrev RM (f lo : Nat) : Room := { frames := f, cells := 0, slots := 0, locals := lo }
/-- the words of a call -/
def cwd (own : String) (i : Nat) (C : String) (y : MethodName) (b : ByteArray) (L2 : Nat) (r : Option FieldType) : Prop := Cond.methodLink own i y ∈ wsL_law ∧ Cond.instanceMethod y ∈ wsL_law ∧ Cond.selects C y y ∈ wsL_law ∧ Cond.initialized C ∈ wsL_law ∧ Cond.code y b L2 r ∈ wsL_law ∧ y.cls = C ∧ y.cls ≠ "java/lang/invoke/MethodHandle" ∧ y.cls ≠ "java/lang/invoke/VarHandle"
def cwdS (own : String) (i : Nat) (y : MethodName) (b : ByteArray) (L2 : Nat) (r : Option FieldType) : Prop := Cond.methodLink own i y ∈ wsL_law ∧ Cond.static y ∈ wsL_law ∧ Cond.initialized own ∈ wsL_law ∧ Cond.code y b L2 r ∈ wsL_law ∧ y.cls = own ∧ y.cls ≠ "java/lang/invoke/MethodHandle" ∧ y.cls ≠ "java/lang/invoke/VarHandle"
def rmOk (rm2 rm : Room) (L2 : Nat) : Prop := rm2.frames + 1 ≤ rm.frames ∧ 8 + (L2 + 11) + rm2.locals ≤ rm.locals ∧ rm2.cells = 0 ∧ rm2.slots = 0
section GC2
variable {l : Launch} {D : va_G} {X : Cx} {k n pc L : Nat} {lv : List (Nat × Value)} {cc0 : ByteArray} {c0 : Cond} {rm : Room} {t : Ty3} {own : String}
theorem c_VI (F : Fx (EE l D t) X cc0 own (c0 :: wsL_law) rm L) {y : MethodName} {b : ByteArray} {L2 i : Nat} {rt : Option FieldType} {rm2 : Room} {b0 : Nat} {As st : List Value} (rest : List Value) {wr w0 : va_W} {post : Int32 → va_W → Prop} {C : String} {T : u_T} {N ci : Nat} {fs : List Value} (hM : CtI (EE l D t) y (.code y b L2 rt :: wsL_law) rm2 (.ref b0 :: As) w0 0 0 post) (cw : cwd own i C y b L2 rt) (ho : rmOk rm2 rm L2) (he : w0[0]? = some (b0, .inr (ci, fs))) (hc : vwCl[ci]? = some (C, T, N)) (hp : (parseMethodDescriptor y.desc).map (fun d => d.parameters.length) = some As.length) (hst : st = As.reverse ++ .ref b0 :: rest) (hroom : (rest.map fun v => v.category).sum ≤ 8) (hk : k ≤ rm.cells ∧ n ≤ rm.slots) (d : decode cc0 pc = .ok (.invokevirtual i, 3)) (K : ∀ (r : Int32) (u : va_W), post r u → GG (EE l D t) X k n (pc + 3) lv (.int r :: rest) (wr ++ u)) : GG (EE l D t) X k n pc lv st (wr ++ w0) :=
  g_callVI F hM (C := C) (bytes := b) (maxL := L2) (ret := rt) ⟨mkGood cw.1 cw.2.1 cw.2.2.1 cw.2.2.2.1 cw.2.2.2.2.1, ⟨_, rfl⟩, ⟨cw.2.2.2.2.2.1, cw.2.2.2.2.2.2.1, cw.2.2.2.2.2.2.2, hp⟩, ho.1, ho.2.1⟩ 0 he hc hst hroom ho.2.2 hk d K
theorem c_SI (F : Fx (EE l D t) X cc0 own (c0 :: wsL_law) rm L) {y : MethodName} {b : ByteArray} {L2 i : Nat} {rt : Option FieldType} {rm2 : Room} {As st : List Value} (rest : List Value) {wr w0 : va_W} {post : Int32 → va_W → Prop} (hM : CtI (EE l D t) y (.code y b L2 rt :: wsL_law) rm2 As w0 0 0 post) (cw : cwdS own i y b L2 rt) (ho : rmOk rm2 rm L2) (hp : (parseMethodDescriptor y.desc).map (fun d => d.parameters.length) = some As.length) (hst : st = As.reverse ++ rest) (hroom : (rest.map fun v => v.category).sum ≤ 8) (hk : k ≤ rm.cells ∧ n ≤ rm.slots) (d : decode cc0 pc = .ok (.invokestatic i, 3)) (K : ∀ (r : Int32) (u : va_W), post r u → GG (EE l D t) X k n (pc + 3) lv (.int r :: rest) (wr ++ u)) : GG (EE l D t) X k n pc lv st (wr ++ w0) :=
  g_callSI F hM (bytes := b) (maxL := L2) (ret := rt) ⟨mkGoodS cw.1 cw.2.1 cw.2.2.1 cw.2.2.2.1, ⟨_, rfl⟩, ⟨cw.2.2.2.2.1, cw.2.2.2.2.2.1, cw.2.2.2.2.2.2, hp⟩, ho.1, ho.2.1⟩ hst hroom ho.2.2 hk d K
theorem c_VL (F : Fx (EE l D t) X cc0 own (c0 :: wsL_law) rm L) {y : MethodName} {b : ByteArray} {L2 i : Nat} {rt : Option FieldType} {rm2 : Room} {b0 : Nat} {As st : List Value} (rest : List Value) {wr w0 : va_W} {post : Int64 → va_W → Prop} {C : String} {T : u_T} {N ci : Nat} {fs : List Value} (hM : CtL (EE l D t) y (.code y b L2 rt :: wsL_law) rm2 (.ref b0 :: As) w0 0 0 post) (cw : cwd own i C y b L2 rt) (ho : rmOk rm2 rm L2) (he : w0[0]? = some (b0, .inr (ci, fs))) (hc : vwCl[ci]? = some (C, T, N)) (hp : (parseMethodDescriptor y.desc).map (fun d => d.parameters.length) = some As.length) (hst : st = As.reverse ++ .ref b0 :: rest) (hroom : (rest.map fun v => v.category).sum ≤ 8) (hk : k ≤ rm.cells ∧ n ≤ rm.slots) (d : decode cc0 pc = .ok (.invokevirtual i, 3)) (K : ∀ (r : Int64) (u : va_W), post r u → GG (EE l D t) X k n (pc + 3) lv (.long r :: rest) (wr ++ u)) : GG (EE l D t) X k n pc lv st (wr ++ w0) :=
  g_callVL F hM (C := C) (bytes := b) (maxL := L2) (ret := rt) ⟨mkGood cw.1 cw.2.1 cw.2.2.1 cw.2.2.2.1 cw.2.2.2.2.1, ⟨_, rfl⟩, ⟨cw.2.2.2.2.2.1, cw.2.2.2.2.2.2.1, cw.2.2.2.2.2.2.2, hp⟩, ho.1, ho.2.1⟩ 0 he hc hst hroom ho.2.2 hk d K
theorem c_SL (F : Fx (EE l D t) X cc0 own (c0 :: wsL_law) rm L) {y : MethodName} {b : ByteArray} {L2 i : Nat} {rt : Option FieldType} {rm2 : Room} {As st : List Value} (rest : List Value) {wr w0 : va_W} {post : Int64 → va_W → Prop} (hM : CtL (EE l D t) y (.code y b L2 rt :: wsL_law) rm2 As w0 0 0 post) (cw : cwdS own i y b L2 rt) (ho : rmOk rm2 rm L2) (hp : (parseMethodDescriptor y.desc).map (fun d => d.parameters.length) = some As.length) (hst : st = As.reverse ++ rest) (hroom : (rest.map fun v => v.category).sum ≤ 8) (hk : k ≤ rm.cells ∧ n ≤ rm.slots) (d : decode cc0 pc = .ok (.invokestatic i, 3)) (K : ∀ (r : Int64) (u : va_W), post r u → GG (EE l D t) X k n (pc + 3) lv (.long r :: rest) (wr ++ u)) : GG (EE l D t) X k n pc lv st (wr ++ w0) :=
  g_callSL F hM (bytes := b) (maxL := L2) (ret := rt) ⟨mkGoodS cw.1 cw.2.1 cw.2.2.1 cw.2.2.2.1, ⟨_, rfl⟩, ⟨cw.2.2.2.2.1, cw.2.2.2.2.2.1, cw.2.2.2.2.2.2, hp⟩, ho.1, ho.2.1⟩ hst hroom ho.2.2 hk d K
theorem c_VV (F : Fx (EE l D t) X cc0 own (c0 :: wsL_law) rm L) {y : MethodName} {b : ByteArray} {L2 i : Nat} {rt : Option FieldType} {rm2 : Room} {b0 : Nat} {As st : List Value} (rest : List Value) {wr w0 : va_W} {post : va_W → Prop} {C : String} {T : u_T} {N ci : Nat} {fs : List Value} (hM : CtV (EE l D t) y (.code y b L2 rt :: wsL_law) rm2 (.ref b0 :: As) w0 0 0 post) (cw : cwd own i C y b L2 rt) (ho : rmOk rm2 rm L2) (he : w0[0]? = some (b0, .inr (ci, fs))) (hc : vwCl[ci]? = some (C, T, N)) (hp : (parseMethodDescriptor y.desc).map (fun d => d.parameters.length) = some As.length) (hst : st = As.reverse ++ .ref b0 :: rest) (hroom : (rest.map fun v => v.category).sum ≤ 8) (hk : k ≤ rm.cells ∧ n ≤ rm.slots) (d : decode cc0 pc = .ok (.invokevirtual i, 3)) (K : ∀ (u : va_W), post u → GG (EE l D t) X k n (pc + 3) lv (rest) (wr ++ u)) : GG (EE l D t) X k n pc lv st (wr ++ w0) :=
  g_callVV F hM (C := C) (bytes := b) (maxL := L2) (ret := rt) ⟨mkGood cw.1 cw.2.1 cw.2.2.1 cw.2.2.2.1 cw.2.2.2.2.1, ⟨_, rfl⟩, ⟨cw.2.2.2.2.2.1, cw.2.2.2.2.2.2.1, cw.2.2.2.2.2.2.2, hp⟩, ho.1, ho.2.1⟩ 0 he hc hst hroom ho.2.2 hk d K
theorem c_SV (F : Fx (EE l D t) X cc0 own (c0 :: wsL_law) rm L) {y : MethodName} {b : ByteArray} {L2 i : Nat} {rt : Option FieldType} {rm2 : Room} {As st : List Value} (rest : List Value) {wr w0 : va_W} {post : va_W → Prop} (hM : CtV (EE l D t) y (.code y b L2 rt :: wsL_law) rm2 As w0 0 0 post) (cw : cwdS own i y b L2 rt) (ho : rmOk rm2 rm L2) (hp : (parseMethodDescriptor y.desc).map (fun d => d.parameters.length) = some As.length) (hst : st = As.reverse ++ rest) (hroom : (rest.map fun v => v.category).sum ≤ 8) (hk : k ≤ rm.cells ∧ n ≤ rm.slots) (d : decode cc0 pc = .ok (.invokestatic i, 3)) (K : ∀ (u : va_W), post u → GG (EE l D t) X k n (pc + 3) lv (rest) (wr ++ u)) : GG (EE l D t) X k n pc lv st (wr ++ w0) :=
  g_callSV F hM (bytes := b) (maxL := L2) (ret := rt) ⟨mkGoodS cw.1 cw.2.1 cw.2.2.1 cw.2.2.2.1, ⟨_, rfl⟩, ⟨cw.2.2.2.2.1, cw.2.2.2.2.2.1, cw.2.2.2.2.2.2, hp⟩, ho.1, ho.2.1⟩ hst hroom ho.2.2 hk d K
end GC2
theorem mM_absl {c0 : Cond} : ∀ w ∈ wM RX0 154 Lib.MathLoose.abs_long.x Lib.MathLoose.abs_long.code 2 .long, w ∈ c0 :: wsL_law := fun w h => List.mem_cons_of_mem _ (by
  simp only [wM, List.mem_cons, List.not_mem_nil, or_false] at h
  rcases h with rfl | rfl | rfl | rfl
  · exact mw7_4
  · exact mw7_5
  · exact mw7_6
  · exact mw7_7)
theorem mM_maxl {c0 : Cond} : ∀ w ∈ wM RX0 160 Lib.MathLoose.max_long.x Lib.MathLoose.max_long.code 4 .long, w ∈ c0 :: wsL_law := fun w h => List.mem_cons_of_mem _ (by
  simp only [wM, List.mem_cons, List.not_mem_nil, or_false] at h
  rcases h with rfl | rfl | rfl | rfl
  · exact mw7_8
  · exact mw7_9
  · exact mw7_6
  · exact mw7_10)
theorem mM_minl {c0 : Cond} : ∀ w ∈ wM RX0 207 Lib.MathLoose.min_long.x Lib.MathLoose.min_long.code 4 .long, w ∈ c0 :: wsL_law := fun w h => List.mem_cons_of_mem _ (by
  simp only [wM, List.mem_cons, List.not_mem_nil, or_false] at h
  rcases h with rfl | rfl | rfl | rfl
  · exact mw15_16
  · exact mw15_17
  · exact mw7_6
  · exact mw15_18)
theorem mM_mini {c0 : Cond} : ∀ w ∈ wM RX0 183 Lib.Math.min.name Lib.Math.min.code 2 .int, w ∈ c0 :: wsL_law := fun w h => List.mem_cons_of_mem _ (by
  simp only [wM, List.mem_cons, List.not_mem_nil, or_false] at h
  rcases h with rfl | rfl | rfl | rfl
  · exact mw12_13
  · exact mw12_14
  · exact mw7_6
  · exact mw12_15)
theorem mM_maxi {c0 : Cond} : ∀ w ∈ wM RX0 187 Lib.Math.max.name Lib.Math.max.code 2 .int, w ∈ c0 :: wsL_law := fun w h => List.mem_cons_of_mem _ (by
  simp only [wM, List.mem_cons, List.not_mem_nil, or_false] at h
  rcases h with rfl | rfl | rfl | rfl
  · exact mw12_20
  · exact mw12_21
  · exact mw7_6
  · exact mw12_22)
theorem cwL_X0_point : cwd RL 13 RX0 yX0_point cX0_point 5 (some .int) := ⟨mw2_23, mw3_0, mw3_1, mw1_2, mw3_2, rfl, by decide +kernel, by decide +kernel⟩
theorem cwX0_X0_isPlace : cwdS RX0 66 yX0_isPlace cX0_isPlace 2 (some .boolean) := ⟨mw3_3, mw3_4, mw1_2, mw3_5, rfl, by decide +kernel, by decide +kernel⟩
theorem cwX0_X0_leastFree : cwd RX0 70 RX0 yX0_leastFree cX0_leastFree 2 (some .int) := ⟨mw3_8, mw3_9, mw3_10, mw1_2, mw3_11, rfl, by decide +kernel, by decide +kernel⟩
theorem cwX0_X0_put : cwd RX0 74 RX0 yX0_put cX0_put 4 none := ⟨mw3_12, mw3_13, mw3_14, mw1_2, mw3_15, rfl, by decide +kernel, by decide +kernel⟩
theorem cwX0_X0_forget : cwd RX0 82 RX0 yX0_forget cX0_forget 1 none := ⟨mw3_16, mw3_17, mw3_18, mw1_2, mw3_19, rfl, by decide +kernel, by decide +kernel⟩
theorem cwL_X1_point : cwd RL 17 RX1 yX1_point cX1_point 5 (some .int) := ⟨mw3_20, mw3_21, mw3_22, mw1_5, mw3_23, rfl, by decide +kernel, by decide +kernel⟩
theorem cwX1_X1_isPlace : cwdS RX1 45 yX1_isPlace cX1_isPlace 2 (some .boolean) := ⟨mw4_0, mw4_1, mw1_5, mw4_2, rfl, by decide +kernel, by decide +kernel⟩
theorem cwL_X0_remove : cwd RL 18 RX0 yX0_remove cX0_remove 2 (some .int) := ⟨mw4_5, mw4_6, mw4_7, mw1_2, mw4_8, rfl, by decide +kernel, by decide +kernel⟩
theorem cwX0_X0_isPoint : cwd RX0 78 RX0 yX0_isPoint cX0_isPoint 2 (some .boolean) := ⟨mw4_9, mw4_10, mw4_11, mw1_2, mw4_12, rfl, by decide +kernel, by decide +kernel⟩
theorem cwX0_X0_countPoints : cwd RX0 85 RX0 yX0_countPoints cX0_countPoints 3 (some .int) := ⟨mw4_13, mw4_14, mw4_15, mw1_2, mw4_16, rfl, by decide +kernel, by decide +kernel⟩
theorem cwL_X1_remove : cwd RL 22 RX1 yX1_remove cX1_remove 2 (some .int) := ⟨mw4_17, mw4_18, mw4_19, mw1_5, mw4_20, rfl, by decide +kernel, by decide +kernel⟩
theorem cwX1_X1_isPoint : cwd RX1 49 RX1 yX1_isPoint cX1_isPoint 2 (some .boolean) := ⟨mw4_21, mw4_22, mw4_23, mw1_5, mw5_0, rfl, by decide +kernel, by decide +kernel⟩
theorem cwX1_X1_points : cwd RX1 53 RX1 yX1_points cX1_points 3 (some .int) := ⟨mw5_1, mw5_2, mw5_3, mw1_5, mw5_4, rfl, by decide +kernel, by decide +kernel⟩
theorem cwL_X0_move : cwd RL 23 RX0 yX0_move cX0_move 4 (some .int) := ⟨mw5_5, mw5_6, mw5_7, mw1_2, mw5_8, rfl, by decide +kernel, by decide +kernel⟩
theorem cwL_X1_move : cwd RL 26 RX1 yX1_move cX1_move 4 (some .int) := ⟨mw5_9, mw5_10, mw5_11, mw1_5, mw5_12, rfl, by decide +kernel, by decide +kernel⟩
theorem cwL_X0_way : cwd RL 27 RX0 yX0_way cX0_way 2 (some .int) := ⟨mw5_13, mw5_14, mw5_15, mw1_2, mw5_16, rfl, by decide +kernel, by decide +kernel⟩
theorem cwL_X1_way : cwd RL 30 RX1 yX1_way cX1_way 2 (some .int) := ⟨mw5_17, mw5_18, mw5_19, mw1_5, mw5_20, rfl, by decide +kernel, by decide +kernel⟩
theorem cwL_X0_reach : cwd RL 33 RX0 yX0_reach cX0_reach 3 (some .int) := ⟨mw5_22, mw5_23, mw6_0, mw1_2, mw6_1, rfl, by decide +kernel, by decide +kernel⟩
theorem cwL_X1_reach : cwd RL 37 RX1 yX1_reach cX1_reach 3 (some .int) := ⟨mw6_2, mw6_3, mw6_4, mw1_5, mw6_5, rfl, by decide +kernel, by decide +kernel⟩
theorem cwL_X0_demand : cwd RL 38 RX0 yX0_demand cX0_demand 2 (some .int) := ⟨mw6_7, mw6_8, mw6_9, mw1_2, mw6_10, rfl, by decide +kernel, by decide +kernel⟩
theorem cwL_X1_demand : cwd RL 41 RX1 yX1_demand cX1_demand 2 (some .int) := ⟨mw6_11, mw6_12, mw6_13, mw1_5, mw6_14, rfl, by decide +kernel, by decide +kernel⟩
theorem cwL_X0_distance : cwd RL 42 RX0 yX0_distance cX0_distance 3 (some .long) := ⟨mw6_15, mw6_16, mw6_17, mw1_2, mw6_18, rfl, by decide +kernel, by decide +kernel⟩
theorem cwX0_X0_gapBetween : cwd RX0 90 RX0 yX0_gapBetween cX0_gapBetween 3 (some .long) := ⟨mw6_20, mw6_21, mw6_22, mw1_2, mw6_23, rfl, by decide +kernel, by decide +kernel⟩
theorem cwX0_X0_gapTo : cwd RX0 150 RX0 yX0_gapTo cX0_gapTo 8 (some .long) := ⟨mw7_0, mw7_1, mw7_2, mw1_2, mw7_3, rfl, by decide +kernel, by decide +kernel⟩
theorem cwL_X1_distance : cwd RL 46 RX1 yX1_distance cX1_distance 3 (some .long) := ⟨mw7_11, mw7_12, mw7_13, mw1_5, mw7_14, rfl, by decide +kernel, by decide +kernel⟩
theorem cwX1_X1_far : cwd RX1 64 RX1 yX1_far cX1_far 10 (some .long) := ⟨mw7_16, mw7_17, mw7_18, mw1_5, mw7_19, rfl, by decide +kernel, by decide +kernel⟩
theorem cwL_X0_kind : cwd RL 47 RX0 yX0_kind cX0_kind 2 (some .int) := ⟨mw7_20, mw7_21, mw7_22, mw1_2, mw7_23, rfl, by decide +kernel, by decide +kernel⟩
theorem cwX0_X0_sortWith : cwd RX0 94 RX0 yX0_sortWith cX0_sortWith 3 none := ⟨mw8_0, mw8_1, mw8_2, mw1_2, mw8_3, rfl, by decide +kernel, by decide +kernel⟩
theorem cwX0_X0_markCores : cwd RX0 164 RX0 yX0_markCores cX0_markCores 4 none := ⟨mw8_4, mw8_5, mw8_6, mw1_2, mw8_7, rfl, by decide +kernel, by decide +kernel⟩
theorem cwX0_X0_weightWithin : cwd RX0 102 RX0 yX0_weightWithin cX0_weightWithin 6 (some .int) := ⟨mw8_8, mw8_9, mw8_10, mw1_2, mw8_11, rfl, by decide +kernel, by decide +kernel⟩
theorem cwX0_X0_gatherCrowds : cwd RX0 167 RX0 yX0_gatherCrowds cX0_gatherCrowds 4 none := ⟨mw8_12, mw8_13, mw8_14, mw1_2, mw8_15, rfl, by decide +kernel, by decide +kernel⟩
theorem cwX0_X0_gatherFrom : cwd RX0 173 RX0 yX0_gatherFrom cX0_gatherFrom 6 none := ⟨mw8_16, mw8_17, mw8_18, mw1_2, mw8_19, rfl, by decide +kernel, by decide +kernel⟩
theorem cwX0_X0_leastUnsettledCore : cwd RX0 177 RX0 yX0_leastUnsettledCore cX0_leastUnsettledCore 2 (some .int) := ⟨mw8_20, mw8_21, mw8_22, mw1_2, mw8_23, rfl, by decide +kernel, by decide +kernel⟩
theorem cwX0_X0_gatherCoresNear : cwd RX0 180 RX0 yX0_gatherCoresNear cX0_gatherCoresNear 5 none := ⟨mw9_0, mw9_1, mw9_2, mw1_2, mw9_3, rfl, by decide +kernel, by decide +kernel⟩
theorem cwX0_X0_joinBorders : cwd RX0 170 RX0 yX0_joinBorders cX0_joinBorders 4 none := ⟨mw9_4, mw9_5, mw9_6, mw1_2, mw9_7, rfl, by decide +kernel, by decide +kernel⟩
theorem cwX0_X0_leastCrowdAt : cwd RX0 141 RX0 yX0_leastCrowdAt cX0_leastCrowdAt 7 (some .int) := ⟨mw9_8, mw9_9, mw9_10, mw1_2, mw9_11, rfl, by decide +kernel, by decide +kernel⟩
theorem cwX0_X0_kindOf : cwd RX0 98 RX0 yX0_kindOf cX0_kindOf 2 (some .int) := ⟨mw9_12, mw9_13, mw9_14, mw1_2, mw9_15, rfl, by decide +kernel, by decide +kernel⟩
theorem cwL_X1_kind : cwd RL 50 RX1 yX1_kind cX1_kind 2 (some .int) := ⟨mw9_16, mw9_17, mw9_18, mw1_5, mw9_19, rfl, by decide +kernel, by decide +kernel⟩
theorem cwX1_X1_find : cwd RX1 85 RX1 yX1_find cX1_find 6 none := ⟨mw9_20, mw9_21, mw9_22, mw1_5, mw9_23, rfl, by decide +kernel, by decide +kernel⟩
theorem cwX1_X1_weightWithin : cwd RX1 73 RX1 yX1_weightWithin cX1_weightWithin 6 (some .int) := ⟨mw10_1, mw10_2, mw10_3, mw1_5, mw10_4, rfl, by decide +kernel, by decide +kernel⟩
theorem cwX1_X1_spread : cwd RX1 77 RX1 yX1_spread cX1_spread 6 (some .boolean) := ⟨mw10_5, mw10_6, mw10_7, mw1_5, mw10_8, rfl, by decide +kernel, by decide +kernel⟩
theorem cwX1_X1_least : cwd RX1 81 RX1 yX1_least cX1_least 7 (some .int) := ⟨mw10_9, mw10_10, mw10_11, mw1_5, mw10_12, rfl, by decide +kernel, by decide +kernel⟩
theorem cwL_X0_crowd : cwd RL 51 RX0 yX0_crowd cX0_crowd 2 (some .int) := ⟨mw10_13, mw10_14, mw10_15, mw1_2, mw10_16, rfl, by decide +kernel, by decide +kernel⟩
theorem cwL_X1_crowd : cwd RL 54 RX1 yX1_crowd cX1_crowd 2 (some .int) := ⟨mw10_17, mw10_18, mw10_19, mw1_5, mw10_20, rfl, by decide +kernel, by decide +kernel⟩
theorem cwL_X0_count : cwd RL 55 RX0 yX0_count cX0_count 2 (some .int) := ⟨mw10_21, mw10_22, mw10_23, mw1_2, mw11_0, rfl, by decide +kernel, by decide +kernel⟩
theorem cwX0_X0_countKind : cwd RX0 119 RX0 yX0_countKind cX0_countKind 4 (some .int) := ⟨mw11_1, mw11_2, mw11_3, mw1_2, mw11_4, rfl, by decide +kernel, by decide +kernel⟩
theorem cwX0_X0_countWeights : cwd RX0 110 RX0 yX0_countWeights cX0_countWeights 3 (some .int) := ⟨mw11_5, mw11_6, mw11_7, mw1_2, mw11_8, rfl, by decide +kernel, by decide +kernel⟩
theorem cwL_X1_count : cwd RL 58 RX1 yX1_count cX1_count 6 (some .int) := ⟨mw11_9, mw11_10, mw11_11, mw1_5, mw11_12, rfl, by decide +kernel, by decide +kernel⟩
theorem cwL_X0_about : cwd RL 59 RX0 yX0_about cX0_about 3 (some .int) := ⟨mw11_13, mw11_14, mw11_15, mw1_2, mw11_16, rfl, by decide +kernel, by decide +kernel⟩
theorem cwX0_X0_pointsOf : cwd RX0 122 RX0 yX0_pointsOf cX0_pointsOf 4 (some .int) := ⟨mw11_17, mw11_18, mw11_19, mw1_2, mw11_20, rfl, by decide +kernel, by decide +kernel⟩
theorem cwX0_X0_coresOf : cwd RX0 125 RX0 yX0_coresOf cX0_coresOf 4 (some .int) := ⟨mw11_21, mw11_22, mw11_23, mw1_2, mw12_0, rfl, by decide +kernel, by decide +kernel⟩
theorem cwX0_X0_weightsOf : cwd RX0 128 RX0 yX0_weightsOf cX0_weightsOf 4 (some .int) := ⟨mw12_1, mw12_2, mw12_3, mw1_2, mw12_4, rfl, by decide +kernel, by decide +kernel⟩
theorem cwX0_X0_leastCoreOf : cwd RX0 131 RX0 yX0_leastCoreOf cX0_leastCoreOf 3 (some .int) := ⟨mw12_5, mw12_6, mw12_7, mw1_2, mw12_8, rfl, by decide +kernel, by decide +kernel⟩
theorem cwX0_X0_leastOf : cwd RX0 134 RX0 yX0_leastOf cX0_leastOf 5 (some .int) := ⟨mw12_9, mw12_10, mw12_11, mw1_2, mw12_12, rfl, by decide +kernel, by decide +kernel⟩
theorem cwX0_X0_greatestOf : cwd RX0 138 RX0 yX0_greatestOf cX0_greatestOf 5 (some .int) := ⟨mw12_16, mw12_17, mw12_18, mw1_2, mw12_19, rfl, by decide +kernel, by decide +kernel⟩
theorem cwL_X1_about : cwd RL 63 RX1 yX1_about cX1_about 12 (some .int) := ⟨mw12_23, mw13_0, mw13_1, mw1_5, mw13_2, rfl, by decide +kernel, by decide +kernel⟩
theorem cwL_X0_around : cwd RL 64 RX0 yX0_around cX0_around 2 (some .int) := ⟨mw13_3, mw13_4, mw13_5, mw1_2, mw13_6, rfl, by decide +kernel, by decide +kernel⟩
theorem cwL_X1_around : cwd RL 67 RX1 yX1_around cX1_around 2 (some .int) := ⟨mw13_7, mw13_8, mw13_9, mw1_5, mw13_10, rfl, by decide +kernel, by decide +kernel⟩
theorem cwL_X0_belongs : cwd RL 68 RX0 yX0_belongs cX0_belongs 3 (some .int) := ⟨mw13_11, mw13_12, mw13_13, mw1_2, mw13_14, rfl, by decide +kernel, by decide +kernel⟩
theorem cwL_X1_belongs : cwd RL 71 RX1 yX1_belongs cX1_belongs 3 (some .int) := ⟨mw13_15, mw13_16, mw13_17, mw1_5, mw13_18, rfl, by decide +kernel, by decide +kernel⟩
theorem cwL_X0_dense : cwd RL 72 RX0 yX0_dense cX0_dense 2 (some .long) := ⟨mw13_19, mw13_20, mw13_21, mw1_2, mw13_22, rfl, by decide +kernel, by decide +kernel⟩
theorem cwX0_X0_leastReachAsCore : cwd RX0 106 RX0 yX0_leastReachAsCore cX0_leastReachAsCore 7 (some .long) := ⟨mw13_23, mw14_0, mw14_1, mw1_2, mw14_2, rfl, by decide +kernel, by decide +kernel⟩
theorem cwX0_X0_lastGap : cwd RX0 189 RX0 yX0_lastGap cX0_lastGap 2 (some .long) := ⟨mw14_3, mw14_4, mw14_5, mw1_2, mw14_6, rfl, by decide +kernel, by decide +kernel⟩
theorem cwX0_X0_keepNear : cwd RX0 192 RX0 yX0_keepNear cX0_keepNear 6 (some .int) := ⟨mw14_7, mw14_8, mw14_9, mw1_2, mw14_10, rfl, by decide +kernel, by decide +kernel⟩
theorem cwL_X1_dense : cwd RL 76 RX1 yX1_dense cX1_dense 2 (some .long) := ⟨mw14_11, mw14_12, mw14_13, mw1_5, mw14_14, rfl, by decide +kernel, by decide +kernel⟩
theorem cwX1_X1_findDense : cwd RX1 89 RX1 yX1_findDense cX1_findDense 7 (some .long) := ⟨mw14_15, mw14_16, mw14_17, mw1_5, mw14_18, rfl, by decide +kernel, by decide +kernel⟩
theorem cwL_X0_meet : cwd RL 77 RX0 yX0_meet cX0_meet 3 (some .long) := ⟨mw14_19, mw14_20, mw14_21, mw1_2, mw14_22, rfl, by decide +kernel, by decide +kernel⟩
theorem cwX0_X0_findCoreFrom : cwd RX0 113 RX0 yX0_findCoreFrom cX0_findCoreFrom 2 none := ⟨mw14_23, mw15_0, mw15_1, mw1_2, mw15_2, rfl, by decide +kernel, by decide +kernel⟩
theorem cwX0_X0_leastReachFrom : cwd RX0 116 RX0 yX0_leastReachFrom cX0_leastReachFrom 5 (some .long) := ⟨mw15_3, mw15_4, mw15_5, mw1_2, mw15_6, rfl, by decide +kernel, by decide +kernel⟩
theorem cwX0_X0_cheapestUnsettled : cwd RX0 200 RX0 yX0_cheapestUnsettled cX0_cheapestUnsettled 3 (some .int) := ⟨mw15_8, mw15_9, mw15_10, mw1_2, mw15_11, rfl, by decide +kernel, by decide +kernel⟩
theorem cwX0_X0_reachOnFrom : cwd RX0 203 RX0 yX0_reachOnFrom cX0_reachOnFrom 5 none := ⟨mw15_12, mw15_13, mw15_14, mw1_2, mw15_15, rfl, by decide +kernel, by decide +kernel⟩
theorem cwL_X1_meet : cwd RL 80 RX1 yX1_meet cX1_meet 8 (some .long) := ⟨mw15_19, mw15_20, mw15_21, mw1_5, mw15_22, rfl, by decide +kernel, by decide +kernel⟩
theorem cwX1_X1_greater : cwdS RX1 93 yX1_greater cX1_greater 4 (some .long) := ⟨mw15_23, mw16_0, mw1_5, mw16_1, rfl, by decide +kernel, by decide +kernel⟩
theorem cwL_X0_crowds : cwd RL 81 RX0 yX0_crowds cX0_crowds 3 (some .int) := ⟨mw16_2, mw16_3, mw16_4, mw1_2, mw16_5, rfl, by decide +kernel, by decide +kernel⟩
theorem cwL_X1_crowds : cwd RL 84 RX1 yX1_crowds cX1_crowds 3 (some .int) := ⟨mw16_6, mw16_7, mw16_8, mw1_5, mw16_9, rfl, by decide +kernel, by decide +kernel⟩
theorem cwL_X0_check : cwd RL 85 RX0 yX0_check cX0_check 2 (some .int) := ⟨mw16_10, mw16_11, mw16_12, mw1_2, mw16_13, rfl, by decide +kernel, by decide +kernel⟩
theorem cwX0_X0_standsRight : cwd RX0 145 RX0 yX0_standsRight cX0_standsRight 6 (some .boolean) := ⟨mw16_14, mw16_15, mw16_16, mw1_2, mw16_17, rfl, by decide +kernel, by decide +kernel⟩
theorem cwL_X1_check : cwd RL 89 RX1 yX1_check cX1_check 1 (some .int) := ⟨mw16_18, mw16_19, mw16_20, mw1_5, mw16_21, rfl, by decide +kernel, by decide +kernel⟩
