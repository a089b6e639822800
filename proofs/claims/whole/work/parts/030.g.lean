/-! The judgement GG: "the machine at pc with these locals, this operand stack and this world comes to the method's end": one rule an instruction. -/
abbrev En : Type := Launch × va_G × List vw_C × List (ClassId × FieldType)
abbrev Cx : Type := Program × Env × Room × State × MethodId × Array Value × List Frame × Method × Code × (State → Prop) × (Nat → Prop) × Nat
def GG (E : En) (X : Cx) (k n pc : Nat) (lv : List (Nat × Value)) (st : List Value) (ws : va_W) : Prop := match E, X with
  | (l, D, cl, _), (p, e, R, s, m, args, below, meth, c, Q, A, nL) => ∀ (H : Heap) (locs : List Loc) (ls : Array Slot), va_P D cl ws H → va_D A ws → va_S A s.heap H locs → lv_has ls nL lv → W p l e R s m args below meth c H locs k n Q (F0 m pc ls st)
def Fx (E : En) (X : Cx) (cc : ByteArray) (own : String) (Ts : List Cond) (rm : Room) (L : Nat) : Prop := match E, X with
  | (_, D, cl, tys), (p, _, R, s, m, args, _, _, c, _, A, nL) => CallFix p m c cc nL s args Ts own ∧ va_K D cl tys s ∧ (∀ q, s.heap.size ≤ q → A q) ∧ R = rm ∧ nL = L
/-- the value of a local -/
def lk (k : Nat) : List (Nat × Value) → Option Value
  | [] => none
  | q :: t => match Nat.beq q.1 k with
    | true => some q.2
    | false => lk k t
theorem lk_mem {k : Nat} {v : Value} : ∀ {lv : List (Nat × Value)}, lk k lv = some v → (k, v) ∈ lv
  | [], h => by cases h
  | q :: t, h => by
    unfold lk at h
    cases hq : Nat.beq q.1 k with
    | true =>
      rw [hq] at h
      have e1 : q.1 = k := Nat.eq_of_beq_eq_true hq
      have e2 : q.2 = v := Option.some.inj h
      rw [← e1, ← e2]
      exact List.mem_cons_self
    | false =>
      rw [hq] at h
      exact List.mem_cons_of_mem _ (lk_mem h)
theorem lk_at {ls : Array Slot} {nL : Nat} {lv : List (Nat × Value)} (h : lv_has ls nL lv) {k : Nat} {v : Value} (hk : lk k lv = some v) : ls[k]? = some (.val v) := h.2.2 (k, v) (lk_mem hk)
/-- a local is stored: sorted by place -/
def lins (x : Nat × Value) : List (Nat × Value) → List (Nat × Value)
  | [] => [x]
  | q :: t => match Nat.ble q.1 x.1 with
    | true => q :: lins x t
    | false => x :: q :: t
theorem lins_mem {x y : Nat × Value} : ∀ {lv : List (Nat × Value)}, y ∈ lins x lv → y = x ∨ y ∈ lv
  | [], h => Or.inl (List.mem_singleton.mp h)
  | q :: t, h => by
    unfold lins at h
    cases hq : Nat.ble q.1 x.1 with
    | true =>
      rw [hq] at h
      rcases List.mem_cons.mp h with h | h
      · exact Or.inr (h ▸ List.mem_cons_self)
      · rcases lins_mem h with h | h
        · exact Or.inl h
        · exact Or.inr (List.mem_cons_of_mem _ h)
    | false =>
      rw [hq] at h
      rcases List.mem_cons.mp h with h | h
      · exact Or.inl h
      · exact Or.inr h
def lst1 (k : Nat) (v : Value) (lv : List (Nat × Value)) : List (Nat × Value) := lins (k, v) (lv.filter (fun q => !(q.1 == k) && !(q.1 + 1 == k && q.2.category == 2)))
def lst2 (k : Nat) (v : Value) (lv : List (Nat × Value)) : List (Nat × Value) := lins (k, v) (lv.filter (fun q => !(q.1 == k) && (!(q.1 == k + 1) && !(q.1 + 1 == k && q.2.category == 2))))
theorem lins_has {ls : Array Slot} {nL : Nat} {x : Nat × Value} {lv : List (Nat × Value)} (h : lv_has ls nL (x :: lv)) : lv_has ls nL (lins x lv) := ⟨h.1, h.2.1, fun q hq => by
  rcases lins_mem hq with e | e
  · exact h.2.2 q (e ▸ List.mem_cons_self)
  · exact h.2.2 q (List.mem_cons_of_mem _ e)⟩
section GR
variable {E : En} {X : Cx} {k n pc L : Nat} {lv : List (Nat × Value)} {st : List Value} {ws : va_W} {cc : ByteArray} {own : String} {Ts : List Cond} {rm : Room}
theorem g_lv (ks : List Nat) {lv' : List (Nat × Value)} (h : lv_pick lv ks = lv') (K : GG E X k n pc lv' st ws) : GG E X k n pc lv st ws := by
  obtain ⟨l, D, cl, tys⟩ := E
  obtain ⟨p, e, R, s, m, args, below, meth, c, Q, A, nL⟩ := X
  exact fun H locs ls hP hD hS hl => K H locs ls hP hD hS (lv_sub hl ks h)
theorem g_eq {pc' : Nat} {lv' : List (Nat × Value)} {st' : List Value} {ws' : va_W} (K : GG E X k n pc' lv' st' ws') (h1 : pc' = pc) (h2 : lv' = lv) (h3 : st' = st) (h4 : ws' = ws) : GG E X k n pc lv st ws := by
  subst h1 h2 h3 h4; exact K
theorem g_widen {k' n' : Nat} (h1 : k ≤ k') (h2 : n ≤ n') (K : GG E X k' n' pc lv st ws) : GG E X k n pc lv st ws := by
  obtain ⟨l, D, cl, tys⟩ := E
  obtain ⟨p, e, R, s, m, args, below, meth, c, Q, A, nL⟩ := X
  exact fun H locs ls hP hD hS hl => W.widen h1 h2 (K H locs ls hP hD hS hl)
theorem g_perm (is : List Nat) {ws' : va_W} (hn : va_nd is = true) (h : is.map (fun i => ws[i]?) = ws'.map some) (h2 : is.filterMap (fun i => ws[i]?) = ws') (K : GG E X k n pc lv st ws') : GG E X k n pc lv st ws := by
  obtain ⟨l, D, cl, tys⟩ := E
  obtain ⟨p, e, R, s, m, args, below, meth, c, Q, A, nL⟩ := X
  exact fun H locs ls hP hD hS hl => K H locs ls (hP.sub is h2) (hD.sub is hn h) hS hl

theorem g_iconst (F : Fx E X cc own Ts rm L) {i : Int} (v : Int32) (d : decode cc pc = .ok (.iconst i, 1)) (hv : Int32.ofInt i = v) (K : GG E X k n (pc + 1) lv (.int v :: st) ws) : GG E X k n pc lv st ws := by
  obtain ⟨l, D, cl, tys⟩ := E
  obtain ⟨p, e, R, s, m, args, below, meth, c, Q, A, nL⟩ := X
  obtain ⟨⟨hx, hb, hml, hown, hts⟩, hK, hA, hR, hL⟩ := F
  intro H locs ls hP hD hS hl
  exact lv_iconst hx hb d hv (K H locs ls hP hD hS hl)
theorem g_bipush (F : Fx E X cc own Ts rm L) {i : Int} (v : Int32) (d : decode cc pc = .ok (.bipush i, 2)) (hv : (Int8.ofInt i).toInt32 = v) (K : GG E X k n (pc + 2) lv (.int v :: st) ws) : GG E X k n pc lv st ws := by
  obtain ⟨l, D, cl, tys⟩ := E
  obtain ⟨p, e, R, s, m, args, below, meth, c, Q, A, nL⟩ := X
  obtain ⟨⟨hx, hb, hml, hown, hts⟩, hK, hA, hR, hL⟩ := F
  intro H locs ls hP hD hS hl
  exact lv_bipush hx hb d hv (K H locs ls hP hD hS hl)
theorem g_sipush (F : Fx E X cc own Ts rm L) {i : Int} (v : Int32) (d : decode cc pc = .ok (.sipush i, 3)) (hv : (Int16.ofInt i).toInt32 = v) (K : GG E X k n (pc + 3) lv (.int v :: st) ws) : GG E X k n pc lv st ws := by
  obtain ⟨l, D, cl, tys⟩ := E
  obtain ⟨p, e, R, s, m, args, below, meth, c, Q, A, nL⟩ := X
  obtain ⟨⟨hx, hb, hml, hown, hts⟩, hK, hA, hR, hL⟩ := F
  intro H locs ls hP hD hS hl
  exact lv_sipush hx hb d hv (K H locs ls hP hD hS hl)
theorem g_lconst (F : Fx E X cc own Ts rm L) {i : Fin 2} (v : Int64) (d : decode cc pc = .ok (.lconst i, 1)) (hv : Int64.ofNat (i : Nat) = v) (K : GG E X k n (pc + 1) lv (.long v :: st) ws) : GG E X k n pc lv st ws := by
  obtain ⟨l, D, cl, tys⟩ := E
  obtain ⟨p, e, R, s, m, args, below, meth, c, Q, A, nL⟩ := X
  obtain ⟨⟨hx, hb, hml, hown, hts⟩, hK, hA, hR, hL⟩ := F
  intro H locs ls hP hD hS hl
  exact lv_lconst hx hb d hv (K H locs ls hP hD hS hl)
theorem g_ldc (F : Fx E X cc own Ts rm L) {i : Nat} (v : Int32) (d : decode cc pc = .ok (.ldc i, 2)) (hv : Jvm.Cond.constant own i v ∈ Ts) (K : GG E X k n (pc + 2) lv (.int v :: st) ws) : GG E X k n pc lv st ws := by
  obtain ⟨l, D, cl, tys⟩ := E
  obtain ⟨p, e, R, s, m, args, below, meth, c, Q, A, nL⟩ := X
  obtain ⟨⟨hx, hb, hml, hown, hts⟩, hK, hA, hR, hL⟩ := F
  intro H locs ls hP hD hS hl
  exact lv_ldc hx hb hown (hts _ hv) d (K H locs ls hP hD hS hl)
theorem g_ldc2 (F : Fx E X cc own Ts rm L) {i : Nat} (v : Int64) (d : decode cc pc = .ok (.ldc2_w i, 3)) (hv : Jvm.Cond.constantLong own i v ∈ Ts) (K : GG E X k n (pc + 3) lv (.long v :: st) ws) : GG E X k n pc lv st ws := by
  obtain ⟨l, D, cl, tys⟩ := E
  obtain ⟨p, e, R, s, m, args, below, meth, c, Q, A, nL⟩ := X
  obtain ⟨⟨hx, hb, hml, hown, hts⟩, hK, hA, hR, hL⟩ := F
  intro H locs ls hP hD hS hl
  exact lv_ldc2 hx hb hown (hts _ hv) d (K H locs ls hP hD hS hl)
theorem g_iload_n (F : Fx E X cc own Ts rm L) {j : Fin 4} {i : Nat} {v : Int32} (d : decode cc pc = .ok (.iload_n j, 1)) (hi : (j : Nat) = i) (h : lk i lv = some (.int v)) (K : GG E X k n (pc + 1) lv (.int v :: st) ws) : GG E X k n pc lv st ws := by
  obtain ⟨l, D, cl, tys⟩ := E
  obtain ⟨p, e, R, s, m, args, below, meth, c, Q, A, nL⟩ := X
  obtain ⟨⟨hx, hb, hml, hown, hts⟩, hK, hA, hR, hL⟩ := F
  intro H locs ls hP hD hS hl
  exact lv_iload_n hx hb d hi (lk_at hl h) (K H locs ls hP hD hS hl)
theorem g_iload (F : Fx E X cc own Ts rm L) {i : Nat} {v : Int32} (d : decode cc pc = .ok (.iload i, 2)) (h : lk i lv = some (.int v)) (K : GG E X k n (pc + 2) lv (.int v :: st) ws) : GG E X k n pc lv st ws := by
  obtain ⟨l, D, cl, tys⟩ := E
  obtain ⟨p, e, R, s, m, args, below, meth, c, Q, A, nL⟩ := X
  obtain ⟨⟨hx, hb, hml, hown, hts⟩, hK, hA, hR, hL⟩ := F
  intro H locs ls hP hD hS hl
  exact lv_iload hx hb d (lk_at hl h) (K H locs ls hP hD hS hl)
theorem g_istore_n (F : Fx E X cc own Ts rm L) {j : Fin 4} {i : Nat} {v : Int32} {lv2 : List (Nat × Value)} (d : decode cc pc = .ok (.istore_n j, 1)) (hi : (j : Nat) = i) (hn : i < L) (h : lst1 i (.int v) lv = lv2) (K : GG E X k n (pc + 1) lv2 st ws) : GG E X k n pc lv (.int v :: st) ws := by
  obtain ⟨l, D, cl, tys⟩ := E
  obtain ⟨p, e, R, s, m, args, below, meth, c, Q, A, nL⟩ := X
  obtain ⟨⟨hx, hb, hml, hown, hts⟩, hK, hA, hR, hL⟩ := F
  intro H locs ls hP hD hS hl
  exact lv_istore_n hx hb d hi hl (by rw [hL]; exact hn) rfl (fun ls hl => K H locs ls hP hD hS (h ▸ lins_has hl))
theorem g_istore (F : Fx E X cc own Ts rm L) {i : Nat} {v : Int32} {lv2 : List (Nat × Value)} (d : decode cc pc = .ok (.istore i, 2)) (hn : i < L) (h : lst1 i (.int v) lv = lv2) (K : GG E X k n (pc + 2) lv2 st ws) : GG E X k n pc lv (.int v :: st) ws := by
  obtain ⟨l, D, cl, tys⟩ := E
  obtain ⟨p, e, R, s, m, args, below, meth, c, Q, A, nL⟩ := X
  obtain ⟨⟨hx, hb, hml, hown, hts⟩, hK, hA, hR, hL⟩ := F
  intro H locs ls hP hD hS hl
  exact lv_istore hx hb d hl (by rw [hL]; exact hn) rfl (fun ls hl => K H locs ls hP hD hS (h ▸ lins_has hl))
theorem g_lload_n (F : Fx E X cc own Ts rm L) {j : Fin 4} {i : Nat} {v : Int64} (d : decode cc pc = .ok (.lload_n j, 1)) (hi : (j : Nat) = i) (h : lk i lv = some (.long v)) (K : GG E X k n (pc + 1) lv (.long v :: st) ws) : GG E X k n pc lv st ws := by
  obtain ⟨l, D, cl, tys⟩ := E
  obtain ⟨p, e, R, s, m, args, below, meth, c, Q, A, nL⟩ := X
  obtain ⟨⟨hx, hb, hml, hown, hts⟩, hK, hA, hR, hL⟩ := F
  intro H locs ls hP hD hS hl
  exact lv_lload_n hx hb d hi (lk_at hl h) (K H locs ls hP hD hS hl)
theorem g_lload (F : Fx E X cc own Ts rm L) {i : Nat} {v : Int64} (d : decode cc pc = .ok (.lload i, 2)) (h : lk i lv = some (.long v)) (K : GG E X k n (pc + 2) lv (.long v :: st) ws) : GG E X k n pc lv st ws := by
  obtain ⟨l, D, cl, tys⟩ := E
  obtain ⟨p, e, R, s, m, args, below, meth, c, Q, A, nL⟩ := X
  obtain ⟨⟨hx, hb, hml, hown, hts⟩, hK, hA, hR, hL⟩ := F
  intro H locs ls hP hD hS hl
  exact lv_lload hx hb d (lk_at hl h) (K H locs ls hP hD hS hl)
theorem g_lstore_n (F : Fx E X cc own Ts rm L) {j : Fin 4} {i : Nat} {v : Int64} {lv2 : List (Nat × Value)} (d : decode cc pc = .ok (.lstore_n j, 1)) (hi : (j : Nat) = i) (hn : i + 1 < L) (h : lst2 i (.long v) lv = lv2) (K : GG E X k n (pc + 1) lv2 st ws) : GG E X k n pc lv (.long v :: st) ws := by
  obtain ⟨l, D, cl, tys⟩ := E
  obtain ⟨p, e, R, s, m, args, below, meth, c, Q, A, nL⟩ := X
  obtain ⟨⟨hx, hb, hml, hown, hts⟩, hK, hA, hR, hL⟩ := F
  intro H locs ls hP hD hS hl
  exact lv_lstore_n hx hb d hi hl (by rw [hL]; exact hn) rfl (fun ls hl => K H locs ls hP hD hS (h ▸ lins_has hl))
theorem g_lstore (F : Fx E X cc own Ts rm L) {i : Nat} {v : Int64} {lv2 : List (Nat × Value)} (d : decode cc pc = .ok (.lstore i, 2)) (hn : i + 1 < L) (h : lst2 i (.long v) lv = lv2) (K : GG E X k n (pc + 2) lv2 st ws) : GG E X k n pc lv (.long v :: st) ws := by
  obtain ⟨l, D, cl, tys⟩ := E
  obtain ⟨p, e, R, s, m, args, below, meth, c, Q, A, nL⟩ := X
  obtain ⟨⟨hx, hb, hml, hown, hts⟩, hK, hA, hR, hL⟩ := F
  intro H locs ls hP hD hS hl
  exact lv_lstore hx hb d hl (by rw [hL]; exact hn) rfl (fun ls hl => K H locs ls hP hD hS (h ▸ lins_has hl))
theorem g_aload_n (F : Fx E X cc own Ts rm L) {j : Fin 4} {i : Nat} {v : Nat} (d : decode cc pc = .ok (.aload_n j, 1)) (hi : (j : Nat) = i) (h : lk i lv = some (.ref v)) (K : GG E X k n (pc + 1) lv (.ref v :: st) ws) : GG E X k n pc lv st ws := by
  obtain ⟨l, D, cl, tys⟩ := E
  obtain ⟨p, e, R, s, m, args, below, meth, c, Q, A, nL⟩ := X
  obtain ⟨⟨hx, hb, hml, hown, hts⟩, hK, hA, hR, hL⟩ := F
  intro H locs ls hP hD hS hl
  exact lv_aload_n hx hb d hi (lk_at hl h) (K H locs ls hP hD hS hl)
theorem g_aload (F : Fx E X cc own Ts rm L) {i : Nat} {v : Nat} (d : decode cc pc = .ok (.aload i, 2)) (h : lk i lv = some (.ref v)) (K : GG E X k n (pc + 2) lv (.ref v :: st) ws) : GG E X k n pc lv st ws := by
  obtain ⟨l, D, cl, tys⟩ := E
  obtain ⟨p, e, R, s, m, args, below, meth, c, Q, A, nL⟩ := X
  obtain ⟨⟨hx, hb, hml, hown, hts⟩, hK, hA, hR, hL⟩ := F
  intro H locs ls hP hD hS hl
  exact lv_aload hx hb d (lk_at hl h) (K H locs ls hP hD hS hl)
theorem g_astore_n (F : Fx E X cc own Ts rm L) {j : Fin 4} {i : Nat} {v : Nat} {lv2 : List (Nat × Value)} (d : decode cc pc = .ok (.astore_n j, 1)) (hi : (j : Nat) = i) (hn : i < L) (h : lst1 i (.ref v) lv = lv2) (K : GG E X k n (pc + 1) lv2 st ws) : GG E X k n pc lv (.ref v :: st) ws := by
  obtain ⟨l, D, cl, tys⟩ := E
  obtain ⟨p, e, R, s, m, args, below, meth, c, Q, A, nL⟩ := X
  obtain ⟨⟨hx, hb, hml, hown, hts⟩, hK, hA, hR, hL⟩ := F
  intro H locs ls hP hD hS hl
  exact lv_astore_n hx hb d hi hl (by rw [hL]; exact hn) rfl (fun ls hl => K H locs ls hP hD hS (h ▸ lins_has hl))
theorem g_astore (F : Fx E X cc own Ts rm L) {i : Nat} {v : Nat} {lv2 : List (Nat × Value)} (d : decode cc pc = .ok (.astore i, 2)) (hn : i < L) (h : lst1 i (.ref v) lv = lv2) (K : GG E X k n (pc + 2) lv2 st ws) : GG E X k n pc lv (.ref v :: st) ws := by
  obtain ⟨l, D, cl, tys⟩ := E
  obtain ⟨p, e, R, s, m, args, below, meth, c, Q, A, nL⟩ := X
  obtain ⟨⟨hx, hb, hml, hown, hts⟩, hK, hA, hR, hL⟩ := F
  intro H locs ls hP hD hS hl
  exact lv_astore hx hb d hl (by rw [hL]; exact hn) rfl (fun ls hl => K H locs ls hP hD hS (h ▸ lins_has hl))
theorem lk_idx {k : Nat} {v : Value} {lv : List (Nat × Value)} (h : lk k lv = some v) : ∃ j : Nat, lv[j]? = some (k, v) := by
  obtain ⟨j, hj, e⟩ := List.mem_iff_getElem.mp (lk_mem h)
  exact ⟨j, by rw [List.getElem?_eq_getElem hj, e]⟩
theorem g_iinc (F : Fx E X cc own Ts rm L) {i : Nat} {j : Int} {x : Int32} (v : Int32) {lv2 : List (Nat × Value)} (d : decode cc pc = .ok (.iinc i j, 3)) (h : lk i lv = some (.int x)) (hv : x + Int32.ofInt j = v) (hn : i < L) (h2 : lst1 i (.int v) lv = lv2) (K : GG E X k n (pc + 3) lv2 st ws) : GG E X k n pc lv st ws := by
  obtain ⟨l, D, cl, tys⟩ := E
  obtain ⟨p, e, R, s, m, args, below, meth, c, Q, A, nL⟩ := X
  obtain ⟨⟨hx, hb, hml, hown, hts⟩, hK, hA, hR, hL⟩ := F
  intro H locs ls hP hD hS hl
  obtain ⟨q, hq⟩ := lk_idx h
  exact lv_iinc hx hb d hl hq hv (by rw [hL]; exact hn) rfl (fun ls hl => K H locs ls hP hD hS (h2 ▸ lins_has hl))
theorem g_iadd (F : Fx E X cc own Ts rm L) {x y : Int32} (d : decode cc pc = .ok (.iadd, 1))  (K : GG E X k n (pc + 1) lv (.int (x + y) :: st) ws) : GG E X k n pc lv (.int y :: .int x :: st) ws := by
  obtain ⟨l, D, cl, tys⟩ := E
  obtain ⟨p, e, R, s, m, args, below, meth, c, Q, A, nL⟩ := X
  obtain ⟨⟨hx, hb, hml, hown, hts⟩, hK, hA, hR, hL⟩ := F
  intro H locs ls hP hD hS hl
  exact lv_iadd hx hb d (K H locs ls hP hD hS hl)
theorem g_isub (F : Fx E X cc own Ts rm L) {x y : Int32} (d : decode cc pc = .ok (.isub, 1))  (K : GG E X k n (pc + 1) lv (.int (x - y) :: st) ws) : GG E X k n pc lv (.int y :: .int x :: st) ws := by
  obtain ⟨l, D, cl, tys⟩ := E
  obtain ⟨p, e, R, s, m, args, below, meth, c, Q, A, nL⟩ := X
  obtain ⟨⟨hx, hb, hml, hown, hts⟩, hK, hA, hR, hL⟩ := F
  intro H locs ls hP hD hS hl
  exact lv_isub hx hb d (K H locs ls hP hD hS hl)
theorem g_imul (F : Fx E X cc own Ts rm L) {x y : Int32} (d : decode cc pc = .ok (.imul, 1))  (K : GG E X k n (pc + 1) lv (.int (x * y) :: st) ws) : GG E X k n pc lv (.int y :: .int x :: st) ws := by
  obtain ⟨l, D, cl, tys⟩ := E
  obtain ⟨p, e, R, s, m, args, below, meth, c, Q, A, nL⟩ := X
  obtain ⟨⟨hx, hb, hml, hown, hts⟩, hK, hA, hR, hL⟩ := F
  intro H locs ls hP hD hS hl
  exact lv_imul hx hb d (K H locs ls hP hD hS hl)
theorem g_iand (F : Fx E X cc own Ts rm L) {x y : Int32} (d : decode cc pc = .ok (.iand, 1))  (K : GG E X k n (pc + 1) lv (.int (x &&& y) :: st) ws) : GG E X k n pc lv (.int y :: .int x :: st) ws := by
  obtain ⟨l, D, cl, tys⟩ := E
  obtain ⟨p, e, R, s, m, args, below, meth, c, Q, A, nL⟩ := X
  obtain ⟨⟨hx, hb, hml, hown, hts⟩, hK, hA, hR, hL⟩ := F
  intro H locs ls hP hD hS hl
  exact lv_iand hx hb d (K H locs ls hP hD hS hl)
theorem g_ladd (F : Fx E X cc own Ts rm L) {x y : Int64} (d : decode cc pc = .ok (.ladd, 1))  (K : GG E X k n (pc + 1) lv (.long (x + y) :: st) ws) : GG E X k n pc lv (.long y :: .long x :: st) ws := by
  obtain ⟨l, D, cl, tys⟩ := E
  obtain ⟨p, e, R, s, m, args, below, meth, c, Q, A, nL⟩ := X
  obtain ⟨⟨hx, hb, hml, hown, hts⟩, hK, hA, hR, hL⟩ := F
  intro H locs ls hP hD hS hl
  exact lv_ladd hx hb d (K H locs ls hP hD hS hl)
theorem g_lsub (F : Fx E X cc own Ts rm L) {x y : Int64} (d : decode cc pc = .ok (.lsub, 1))  (K : GG E X k n (pc + 1) lv (.long (x - y) :: st) ws) : GG E X k n pc lv (.long y :: .long x :: st) ws := by
  obtain ⟨l, D, cl, tys⟩ := E
  obtain ⟨p, e, R, s, m, args, below, meth, c, Q, A, nL⟩ := X
  obtain ⟨⟨hx, hb, hml, hown, hts⟩, hK, hA, hR, hL⟩ := F
  intro H locs ls hP hD hS hl
  exact lv_lsub hx hb d (K H locs ls hP hD hS hl)
theorem g_lmul (F : Fx E X cc own Ts rm L) {x y : Int64} (d : decode cc pc = .ok (.lmul, 1))  (K : GG E X k n (pc + 1) lv (.long (x * y) :: st) ws) : GG E X k n pc lv (.long y :: .long x :: st) ws := by
  obtain ⟨l, D, cl, tys⟩ := E
  obtain ⟨p, e, R, s, m, args, below, meth, c, Q, A, nL⟩ := X
  obtain ⟨⟨hx, hb, hml, hown, hts⟩, hK, hA, hR, hL⟩ := F
  intro H locs ls hP hD hS hl
  exact lv_lmul hx hb d (K H locs ls hP hD hS hl)
theorem g_land (F : Fx E X cc own Ts rm L) {x y : Int64} (d : decode cc pc = .ok (.land, 1))  (K : GG E X k n (pc + 1) lv (.long (x &&& y) :: st) ws) : GG E X k n pc lv (.long y :: .long x :: st) ws := by
  obtain ⟨l, D, cl, tys⟩ := E
  obtain ⟨p, e, R, s, m, args, below, meth, c, Q, A, nL⟩ := X
  obtain ⟨⟨hx, hb, hml, hown, hts⟩, hK, hA, hR, hL⟩ := F
  intro H locs ls hP hD hS hl
  exact lv_land hx hb d (K H locs ls hP hD hS hl)
theorem g_lor (F : Fx E X cc own Ts rm L) {x y : Int64} (d : decode cc pc = .ok (.lor, 1))  (K : GG E X k n (pc + 1) lv (.long (x ||| y) :: st) ws) : GG E X k n pc lv (.long y :: .long x :: st) ws := by
  obtain ⟨l, D, cl, tys⟩ := E
  obtain ⟨p, e, R, s, m, args, below, meth, c, Q, A, nL⟩ := X
  obtain ⟨⟨hx, hb, hml, hown, hts⟩, hK, hA, hR, hL⟩ := F
  intro H locs ls hP hD hS hl
  exact lv_lor hx hb d (K H locs ls hP hD hS hl)
theorem g_ineg (F : Fx E X cc own Ts rm L) {x : Int32} (d : decode cc pc = .ok (.ineg, 1))  (K : GG E X k n (pc + 1) lv (.int (-x) :: st) ws) : GG E X k n pc lv (.int x :: st) ws := by
  obtain ⟨l, D, cl, tys⟩ := E
  obtain ⟨p, e, R, s, m, args, below, meth, c, Q, A, nL⟩ := X
  obtain ⟨⟨hx, hb, hml, hown, hts⟩, hK, hA, hR, hL⟩ := F
  intro H locs ls hP hD hS hl
  exact lv_ineg hx hb d (K H locs ls hP hD hS hl)
theorem g_lneg (F : Fx E X cc own Ts rm L) {x : Int64} (d : decode cc pc = .ok (.lneg, 1))  (K : GG E X k n (pc + 1) lv (.long (-x) :: st) ws) : GG E X k n pc lv (.long x :: st) ws := by
  obtain ⟨l, D, cl, tys⟩ := E
  obtain ⟨p, e, R, s, m, args, below, meth, c, Q, A, nL⟩ := X
  obtain ⟨⟨hx, hb, hml, hown, hts⟩, hK, hA, hR, hL⟩ := F
  intro H locs ls hP hD hS hl
  exact lv_lneg hx hb d (K H locs ls hP hD hS hl)
theorem g_i2l (F : Fx E X cc own Ts rm L) {x : Int32} (d : decode cc pc = .ok (.i2l, 1))  (K : GG E X k n (pc + 1) lv (.long x.toInt64 :: st) ws) : GG E X k n pc lv (.int x :: st) ws := by
  obtain ⟨l, D, cl, tys⟩ := E
  obtain ⟨p, e, R, s, m, args, below, meth, c, Q, A, nL⟩ := X
  obtain ⟨⟨hx, hb, hml, hown, hts⟩, hK, hA, hR, hL⟩ := F
  intro H locs ls hP hD hS hl
  exact lv_i2l hx hb d rfl (K H locs ls hP hD hS hl)
theorem g_l2i (F : Fx E X cc own Ts rm L) {x : Int64} (d : decode cc pc = .ok (.l2i, 1))  (K : GG E X k n (pc + 1) lv (.int x.toInt32 :: st) ws) : GG E X k n pc lv (.long x :: st) ws := by
  obtain ⟨l, D, cl, tys⟩ := E
  obtain ⟨p, e, R, s, m, args, below, meth, c, Q, A, nL⟩ := X
  obtain ⟨⟨hx, hb, hml, hown, hts⟩, hK, hA, hR, hL⟩ := F
  intro H locs ls hP hD hS hl
  exact lv_l2i hx hb d rfl (K H locs ls hP hD hS hl)
theorem g_lshl (F : Fx E X cc own Ts rm L) {x : Int64} {y : Int32} (d : decode cc pc = .ok (.lshl, 1))  (K : GG E X k n (pc + 1) lv (.long (x <<< (y.toInt64 &&& 63)) :: st) ws) : GG E X k n pc lv (.int y :: .long x :: st) ws := by
  obtain ⟨l, D, cl, tys⟩ := E
  obtain ⟨p, e, R, s, m, args, below, meth, c, Q, A, nL⟩ := X
  obtain ⟨⟨hx, hb, hml, hown, hts⟩, hK, hA, hR, hL⟩ := F
  intro H locs ls hP hD hS hl
  exact lv_lshl hx hb d rfl (K H locs ls hP hD hS hl)
theorem g_lcmp (F : Fx E X cc own Ts rm L) {x y : Int64} (d : decode cc pc = .ok (.lcmp, 1))  (K : GG E X k n (pc + 1) lv (.int (lg_cmp x y) :: st) ws) : GG E X k n pc lv (.long y :: .long x :: st) ws := by
  obtain ⟨l, D, cl, tys⟩ := E
  obtain ⟨p, e, R, s, m, args, below, meth, c, Q, A, nL⟩ := X
  obtain ⟨⟨hx, hb, hml, hown, hts⟩, hK, hA, hR, hL⟩ := F
  intro H locs ls hP hD hS hl
  exact W.lcmp hx hb d (K H locs ls hP hD hS hl)
theorem g_dup (F : Fx E X cc own Ts rm L) {v : Value} (d : decode cc pc = .ok (.dup, 1)) (hv : v.category = 1) (K : GG E X k n (pc + 1) lv (v :: v :: st) ws) : GG E X k n pc lv (v :: st) ws := by
  obtain ⟨l, D, cl, tys⟩ := E
  obtain ⟨p, e, R, s, m, args, below, meth, c, Q, A, nL⟩ := X
  obtain ⟨⟨hx, hb, hml, hown, hts⟩, hK, hA, hR, hL⟩ := F
  intro H locs ls hP hD hS hl
  exact lv_dup hx hb d hv (K H locs ls hP hD hS hl)
theorem g_pop (F : Fx E X cc own Ts rm L) {v : Value} (d : decode cc pc = .ok (.pop, 1)) (hv : v.category = 1) (K : GG E X k n (pc + 1) lv st ws) : GG E X k n pc lv (v :: st) ws := by
  obtain ⟨l, D, cl, tys⟩ := E
  obtain ⟨p, e, R, s, m, args, below, meth, c, Q, A, nL⟩ := X
  obtain ⟨⟨hx, hb, hml, hown, hts⟩, hK, hA, hR, hL⟩ := F
  intro H locs ls hP hD hS hl
  exact lv_pop hx hb d hv (K H locs ls hP hD hS hl)
theorem g_goto (F : Fx E X cc own Ts rm L) {off : Int} (tgt : Nat) (d : decode cc pc = .ok (.goto off, 3)) (ht : (pc : Int) + off = (tgt : Int)) (K : GG E X k n tgt lv st ws) : GG E X k n pc lv st ws := by
  obtain ⟨l, D, cl, tys⟩ := E
  obtain ⟨p, e, R, s, m, args, below, meth, c, Q, A, nL⟩ := X
  obtain ⟨⟨hx, hb, hml, hown, hts⟩, hK, hA, hR, hL⟩ := F
  intro H locs ls hP hD hS hl
  exact lv_goto hx hb d ht (K H locs ls hP hD hS hl)
theorem g_if_eq (F : Fx E X cc own Ts rm L) {x : Int32} {off : Int} (tgt : Nat) (d : decode cc pc = .ok (.ifCond .eq off, 3)) (ht : (pc : Int) + off = (tgt : Int)) (K1 : x = 0 → GG E X k n tgt lv st ws) (K2 : ¬ x = 0 → GG E X k n (pc + 3) lv st ws) : GG E X k n pc lv (.int x :: st) ws := by
  obtain ⟨l, D, cl, tys⟩ := E
  obtain ⟨p, e, R, s, m, args, below, meth, c, Q, A, nL⟩ := X
  obtain ⟨⟨hx, hb, hml, hown, hts⟩, hK, hA, hR, hL⟩ := F
  intro H locs ls hP hD hS hl
  exact lv_if_eq hx hb d ht (fun h => K1 h H locs ls hP hD hS hl) (fun h => K2 h H locs ls hP hD hS hl)
theorem g_if_eq_t (F : Fx E X cc own Ts rm L) {x : Int32} {off : Int} (tgt : Nat) (d : decode cc pc = .ok (.ifCond .eq off, 3)) (ht : (pc : Int) + off = (tgt : Int)) (h : x = 0) (K1 : GG E X k n tgt lv st ws) : GG E X k n pc lv (.int x :: st) ws :=
  g_if_eq F tgt d ht (fun _ => K1) (fun z => absurd h z)
theorem g_if_eq_f (F : Fx E X cc own Ts rm L) {x : Int32} {off : Int} (tgt : Nat) (d : decode cc pc = .ok (.ifCond .eq off, 3)) (ht : (pc : Int) + off = (tgt : Int)) (h : ¬ x = 0) (K2 : GG E X k n (pc + 3) lv st ws) : GG E X k n pc lv (.int x :: st) ws :=
  g_if_eq F tgt d ht (fun z => absurd z h) (fun _ => K2)
theorem g_icmp_eq (F : Fx E X cc own Ts rm L) {x y : Int32} {off : Int} (tgt : Nat) (d : decode cc pc = .ok (.if_icmp .eq off, 3)) (ht : (pc : Int) + off = (tgt : Int)) (K1 : x = y → GG E X k n tgt lv st ws) (K2 : ¬ x = y → GG E X k n (pc + 3) lv st ws) : GG E X k n pc lv (.int y :: .int x :: st) ws := by
  obtain ⟨l, D, cl, tys⟩ := E
  obtain ⟨p, e, R, s, m, args, below, meth, c, Q, A, nL⟩ := X
  obtain ⟨⟨hx, hb, hml, hown, hts⟩, hK, hA, hR, hL⟩ := F
  intro H locs ls hP hD hS hl
  exact lv_icmp_eq hx hb d ht (fun h => K1 h H locs ls hP hD hS hl) (fun h => K2 h H locs ls hP hD hS hl)
theorem g_icmp_eq_t (F : Fx E X cc own Ts rm L) {x y : Int32} {off : Int} (tgt : Nat) (d : decode cc pc = .ok (.if_icmp .eq off, 3)) (ht : (pc : Int) + off = (tgt : Int)) (h : x = y) (K1 : GG E X k n tgt lv st ws) : GG E X k n pc lv (.int y :: .int x :: st) ws :=
  g_icmp_eq F tgt d ht (fun _ => K1) (fun z => absurd h z)
theorem g_icmp_eq_f (F : Fx E X cc own Ts rm L) {x y : Int32} {off : Int} (tgt : Nat) (d : decode cc pc = .ok (.if_icmp .eq off, 3)) (ht : (pc : Int) + off = (tgt : Int)) (h : ¬ x = y) (K2 : GG E X k n (pc + 3) lv st ws) : GG E X k n pc lv (.int y :: .int x :: st) ws :=
  g_icmp_eq F tgt d ht (fun z => absurd z h) (fun _ => K2)
theorem g_if_ne (F : Fx E X cc own Ts rm L) {x : Int32} {off : Int} (tgt : Nat) (d : decode cc pc = .ok (.ifCond .ne off, 3)) (ht : (pc : Int) + off = (tgt : Int)) (K1 : ¬ x = 0 → GG E X k n tgt lv st ws) (K2 : x = 0 → GG E X k n (pc + 3) lv st ws) : GG E X k n pc lv (.int x :: st) ws := by
  obtain ⟨l, D, cl, tys⟩ := E
  obtain ⟨p, e, R, s, m, args, below, meth, c, Q, A, nL⟩ := X
  obtain ⟨⟨hx, hb, hml, hown, hts⟩, hK, hA, hR, hL⟩ := F
  intro H locs ls hP hD hS hl
  exact lv_if_ne hx hb d ht (fun h => K1 h H locs ls hP hD hS hl) (fun h => K2 h H locs ls hP hD hS hl)
theorem g_if_ne_t (F : Fx E X cc own Ts rm L) {x : Int32} {off : Int} (tgt : Nat) (d : decode cc pc = .ok (.ifCond .ne off, 3)) (ht : (pc : Int) + off = (tgt : Int)) (h : ¬ x = 0) (K1 : GG E X k n tgt lv st ws) : GG E X k n pc lv (.int x :: st) ws :=
  g_if_ne F tgt d ht (fun _ => K1) (fun z => absurd z h)
theorem g_if_ne_f (F : Fx E X cc own Ts rm L) {x : Int32} {off : Int} (tgt : Nat) (d : decode cc pc = .ok (.ifCond .ne off, 3)) (ht : (pc : Int) + off = (tgt : Int)) (h : x = 0) (K2 : GG E X k n (pc + 3) lv st ws) : GG E X k n pc lv (.int x :: st) ws :=
  g_if_ne F tgt d ht (fun z => absurd h z) (fun _ => K2)
theorem g_icmp_ne (F : Fx E X cc own Ts rm L) {x y : Int32} {off : Int} (tgt : Nat) (d : decode cc pc = .ok (.if_icmp .ne off, 3)) (ht : (pc : Int) + off = (tgt : Int)) (K1 : ¬ x = y → GG E X k n tgt lv st ws) (K2 : x = y → GG E X k n (pc + 3) lv st ws) : GG E X k n pc lv (.int y :: .int x :: st) ws := by
  obtain ⟨l, D, cl, tys⟩ := E
  obtain ⟨p, e, R, s, m, args, below, meth, c, Q, A, nL⟩ := X
  obtain ⟨⟨hx, hb, hml, hown, hts⟩, hK, hA, hR, hL⟩ := F
  intro H locs ls hP hD hS hl
  exact lv_icmp_ne hx hb d ht (fun h => K1 h H locs ls hP hD hS hl) (fun h => K2 h H locs ls hP hD hS hl)
theorem g_icmp_ne_t (F : Fx E X cc own Ts rm L) {x y : Int32} {off : Int} (tgt : Nat) (d : decode cc pc = .ok (.if_icmp .ne off, 3)) (ht : (pc : Int) + off = (tgt : Int)) (h : ¬ x = y) (K1 : GG E X k n tgt lv st ws) : GG E X k n pc lv (.int y :: .int x :: st) ws :=
  g_icmp_ne F tgt d ht (fun _ => K1) (fun z => absurd z h)
theorem g_icmp_ne_f (F : Fx E X cc own Ts rm L) {x y : Int32} {off : Int} (tgt : Nat) (d : decode cc pc = .ok (.if_icmp .ne off, 3)) (ht : (pc : Int) + off = (tgt : Int)) (h : x = y) (K2 : GG E X k n (pc + 3) lv st ws) : GG E X k n pc lv (.int y :: .int x :: st) ws :=
  g_icmp_ne F tgt d ht (fun z => absurd h z) (fun _ => K2)
theorem g_if_lt (F : Fx E X cc own Ts rm L) {x : Int32} {off : Int} (tgt : Nat) (d : decode cc pc = .ok (.ifCond .lt off, 3)) (ht : (pc : Int) + off = (tgt : Int)) (K1 : x < 0 → GG E X k n tgt lv st ws) (K2 : ¬ x < 0 → GG E X k n (pc + 3) lv st ws) : GG E X k n pc lv (.int x :: st) ws := by
  obtain ⟨l, D, cl, tys⟩ := E
  obtain ⟨p, e, R, s, m, args, below, meth, c, Q, A, nL⟩ := X
  obtain ⟨⟨hx, hb, hml, hown, hts⟩, hK, hA, hR, hL⟩ := F
  intro H locs ls hP hD hS hl
  exact lv_if_lt hx hb d ht (fun h => K1 h H locs ls hP hD hS hl) (fun h => K2 h H locs ls hP hD hS hl)
theorem g_if_lt_t (F : Fx E X cc own Ts rm L) {x : Int32} {off : Int} (tgt : Nat) (d : decode cc pc = .ok (.ifCond .lt off, 3)) (ht : (pc : Int) + off = (tgt : Int)) (h : x < 0) (K1 : GG E X k n tgt lv st ws) : GG E X k n pc lv (.int x :: st) ws :=
  g_if_lt F tgt d ht (fun _ => K1) (fun z => absurd h z)
theorem g_if_lt_f (F : Fx E X cc own Ts rm L) {x : Int32} {off : Int} (tgt : Nat) (d : decode cc pc = .ok (.ifCond .lt off, 3)) (ht : (pc : Int) + off = (tgt : Int)) (h : ¬ x < 0) (K2 : GG E X k n (pc + 3) lv st ws) : GG E X k n pc lv (.int x :: st) ws :=
  g_if_lt F tgt d ht (fun z => absurd z h) (fun _ => K2)
theorem g_icmp_lt (F : Fx E X cc own Ts rm L) {x y : Int32} {off : Int} (tgt : Nat) (d : decode cc pc = .ok (.if_icmp .lt off, 3)) (ht : (pc : Int) + off = (tgt : Int)) (K1 : x < y → GG E X k n tgt lv st ws) (K2 : ¬ x < y → GG E X k n (pc + 3) lv st ws) : GG E X k n pc lv (.int y :: .int x :: st) ws := by
  obtain ⟨l, D, cl, tys⟩ := E
  obtain ⟨p, e, R, s, m, args, below, meth, c, Q, A, nL⟩ := X
  obtain ⟨⟨hx, hb, hml, hown, hts⟩, hK, hA, hR, hL⟩ := F
  intro H locs ls hP hD hS hl
  exact lv_icmp_lt hx hb d ht (fun h => K1 h H locs ls hP hD hS hl) (fun h => K2 h H locs ls hP hD hS hl)
theorem g_icmp_lt_t (F : Fx E X cc own Ts rm L) {x y : Int32} {off : Int} (tgt : Nat) (d : decode cc pc = .ok (.if_icmp .lt off, 3)) (ht : (pc : Int) + off = (tgt : Int)) (h : x < y) (K1 : GG E X k n tgt lv st ws) : GG E X k n pc lv (.int y :: .int x :: st) ws :=
  g_icmp_lt F tgt d ht (fun _ => K1) (fun z => absurd h z)
theorem g_icmp_lt_f (F : Fx E X cc own Ts rm L) {x y : Int32} {off : Int} (tgt : Nat) (d : decode cc pc = .ok (.if_icmp .lt off, 3)) (ht : (pc : Int) + off = (tgt : Int)) (h : ¬ x < y) (K2 : GG E X k n (pc + 3) lv st ws) : GG E X k n pc lv (.int y :: .int x :: st) ws :=
  g_icmp_lt F tgt d ht (fun z => absurd z h) (fun _ => K2)
theorem g_if_ge (F : Fx E X cc own Ts rm L) {x : Int32} {off : Int} (tgt : Nat) (d : decode cc pc = .ok (.ifCond .ge off, 3)) (ht : (pc : Int) + off = (tgt : Int)) (K1 : 0 ≤ x → GG E X k n tgt lv st ws) (K2 : ¬ 0 ≤ x → GG E X k n (pc + 3) lv st ws) : GG E X k n pc lv (.int x :: st) ws := by
  obtain ⟨l, D, cl, tys⟩ := E
  obtain ⟨p, e, R, s, m, args, below, meth, c, Q, A, nL⟩ := X
  obtain ⟨⟨hx, hb, hml, hown, hts⟩, hK, hA, hR, hL⟩ := F
  intro H locs ls hP hD hS hl
  exact lv_if_ge hx hb d ht (fun h => K1 h H locs ls hP hD hS hl) (fun h => K2 h H locs ls hP hD hS hl)
theorem g_if_ge_t (F : Fx E X cc own Ts rm L) {x : Int32} {off : Int} (tgt : Nat) (d : decode cc pc = .ok (.ifCond .ge off, 3)) (ht : (pc : Int) + off = (tgt : Int)) (h : 0 ≤ x) (K1 : GG E X k n tgt lv st ws) : GG E X k n pc lv (.int x :: st) ws :=
  g_if_ge F tgt d ht (fun _ => K1) (fun z => absurd h z)
theorem g_if_ge_f (F : Fx E X cc own Ts rm L) {x : Int32} {off : Int} (tgt : Nat) (d : decode cc pc = .ok (.ifCond .ge off, 3)) (ht : (pc : Int) + off = (tgt : Int)) (h : ¬ 0 ≤ x) (K2 : GG E X k n (pc + 3) lv st ws) : GG E X k n pc lv (.int x :: st) ws :=
  g_if_ge F tgt d ht (fun z => absurd z h) (fun _ => K2)
theorem g_icmp_ge (F : Fx E X cc own Ts rm L) {x y : Int32} {off : Int} (tgt : Nat) (d : decode cc pc = .ok (.if_icmp .ge off, 3)) (ht : (pc : Int) + off = (tgt : Int)) (K1 : y ≤ x → GG E X k n tgt lv st ws) (K2 : ¬ y ≤ x → GG E X k n (pc + 3) lv st ws) : GG E X k n pc lv (.int y :: .int x :: st) ws := by
  obtain ⟨l, D, cl, tys⟩ := E
  obtain ⟨p, e, R, s, m, args, below, meth, c, Q, A, nL⟩ := X
  obtain ⟨⟨hx, hb, hml, hown, hts⟩, hK, hA, hR, hL⟩ := F
  intro H locs ls hP hD hS hl
  exact lv_icmp_ge hx hb d ht (fun h => K1 h H locs ls hP hD hS hl) (fun h => K2 h H locs ls hP hD hS hl)
theorem g_icmp_ge_t (F : Fx E X cc own Ts rm L) {x y : Int32} {off : Int} (tgt : Nat) (d : decode cc pc = .ok (.if_icmp .ge off, 3)) (ht : (pc : Int) + off = (tgt : Int)) (h : y ≤ x) (K1 : GG E X k n tgt lv st ws) : GG E X k n pc lv (.int y :: .int x :: st) ws :=
  g_icmp_ge F tgt d ht (fun _ => K1) (fun z => absurd h z)
theorem g_icmp_ge_f (F : Fx E X cc own Ts rm L) {x y : Int32} {off : Int} (tgt : Nat) (d : decode cc pc = .ok (.if_icmp .ge off, 3)) (ht : (pc : Int) + off = (tgt : Int)) (h : ¬ y ≤ x) (K2 : GG E X k n (pc + 3) lv st ws) : GG E X k n pc lv (.int y :: .int x :: st) ws :=
  g_icmp_ge F tgt d ht (fun z => absurd z h) (fun _ => K2)
theorem g_if_gt (F : Fx E X cc own Ts rm L) {x : Int32} {off : Int} (tgt : Nat) (d : decode cc pc = .ok (.ifCond .gt off, 3)) (ht : (pc : Int) + off = (tgt : Int)) (K1 : 0 < x → GG E X k n tgt lv st ws) (K2 : ¬ 0 < x → GG E X k n (pc + 3) lv st ws) : GG E X k n pc lv (.int x :: st) ws := by
  obtain ⟨l, D, cl, tys⟩ := E
  obtain ⟨p, e, R, s, m, args, below, meth, c, Q, A, nL⟩ := X
  obtain ⟨⟨hx, hb, hml, hown, hts⟩, hK, hA, hR, hL⟩ := F
  intro H locs ls hP hD hS hl
  exact lv_if_gt hx hb d ht (fun h => K1 h H locs ls hP hD hS hl) (fun h => K2 h H locs ls hP hD hS hl)
theorem g_if_gt_t (F : Fx E X cc own Ts rm L) {x : Int32} {off : Int} (tgt : Nat) (d : decode cc pc = .ok (.ifCond .gt off, 3)) (ht : (pc : Int) + off = (tgt : Int)) (h : 0 < x) (K1 : GG E X k n tgt lv st ws) : GG E X k n pc lv (.int x :: st) ws :=
  g_if_gt F tgt d ht (fun _ => K1) (fun z => absurd h z)
theorem g_if_gt_f (F : Fx E X cc own Ts rm L) {x : Int32} {off : Int} (tgt : Nat) (d : decode cc pc = .ok (.ifCond .gt off, 3)) (ht : (pc : Int) + off = (tgt : Int)) (h : ¬ 0 < x) (K2 : GG E X k n (pc + 3) lv st ws) : GG E X k n pc lv (.int x :: st) ws :=
  g_if_gt F tgt d ht (fun z => absurd z h) (fun _ => K2)
theorem g_icmp_gt (F : Fx E X cc own Ts rm L) {x y : Int32} {off : Int} (tgt : Nat) (d : decode cc pc = .ok (.if_icmp .gt off, 3)) (ht : (pc : Int) + off = (tgt : Int)) (K1 : y < x → GG E X k n tgt lv st ws) (K2 : ¬ y < x → GG E X k n (pc + 3) lv st ws) : GG E X k n pc lv (.int y :: .int x :: st) ws := by
  obtain ⟨l, D, cl, tys⟩ := E
  obtain ⟨p, e, R, s, m, args, below, meth, c, Q, A, nL⟩ := X
  obtain ⟨⟨hx, hb, hml, hown, hts⟩, hK, hA, hR, hL⟩ := F
  intro H locs ls hP hD hS hl
  exact lv_icmp_gt hx hb d ht (fun h => K1 h H locs ls hP hD hS hl) (fun h => K2 h H locs ls hP hD hS hl)
theorem g_icmp_gt_t (F : Fx E X cc own Ts rm L) {x y : Int32} {off : Int} (tgt : Nat) (d : decode cc pc = .ok (.if_icmp .gt off, 3)) (ht : (pc : Int) + off = (tgt : Int)) (h : y < x) (K1 : GG E X k n tgt lv st ws) : GG E X k n pc lv (.int y :: .int x :: st) ws :=
  g_icmp_gt F tgt d ht (fun _ => K1) (fun z => absurd h z)
theorem g_icmp_gt_f (F : Fx E X cc own Ts rm L) {x y : Int32} {off : Int} (tgt : Nat) (d : decode cc pc = .ok (.if_icmp .gt off, 3)) (ht : (pc : Int) + off = (tgt : Int)) (h : ¬ y < x) (K2 : GG E X k n (pc + 3) lv st ws) : GG E X k n pc lv (.int y :: .int x :: st) ws :=
  g_icmp_gt F tgt d ht (fun z => absurd z h) (fun _ => K2)
theorem g_if_le (F : Fx E X cc own Ts rm L) {x : Int32} {off : Int} (tgt : Nat) (d : decode cc pc = .ok (.ifCond .le off, 3)) (ht : (pc : Int) + off = (tgt : Int)) (K1 : x ≤ 0 → GG E X k n tgt lv st ws) (K2 : ¬ x ≤ 0 → GG E X k n (pc + 3) lv st ws) : GG E X k n pc lv (.int x :: st) ws := by
  obtain ⟨l, D, cl, tys⟩ := E
  obtain ⟨p, e, R, s, m, args, below, meth, c, Q, A, nL⟩ := X
  obtain ⟨⟨hx, hb, hml, hown, hts⟩, hK, hA, hR, hL⟩ := F
  intro H locs ls hP hD hS hl
  exact lv_if_le hx hb d ht (fun h => K1 h H locs ls hP hD hS hl) (fun h => K2 h H locs ls hP hD hS hl)
theorem g_if_le_t (F : Fx E X cc own Ts rm L) {x : Int32} {off : Int} (tgt : Nat) (d : decode cc pc = .ok (.ifCond .le off, 3)) (ht : (pc : Int) + off = (tgt : Int)) (h : x ≤ 0) (K1 : GG E X k n tgt lv st ws) : GG E X k n pc lv (.int x :: st) ws :=
  g_if_le F tgt d ht (fun _ => K1) (fun z => absurd h z)
theorem g_if_le_f (F : Fx E X cc own Ts rm L) {x : Int32} {off : Int} (tgt : Nat) (d : decode cc pc = .ok (.ifCond .le off, 3)) (ht : (pc : Int) + off = (tgt : Int)) (h : ¬ x ≤ 0) (K2 : GG E X k n (pc + 3) lv st ws) : GG E X k n pc lv (.int x :: st) ws :=
  g_if_le F tgt d ht (fun z => absurd z h) (fun _ => K2)
theorem g_icmp_le (F : Fx E X cc own Ts rm L) {x y : Int32} {off : Int} (tgt : Nat) (d : decode cc pc = .ok (.if_icmp .le off, 3)) (ht : (pc : Int) + off = (tgt : Int)) (K1 : x ≤ y → GG E X k n tgt lv st ws) (K2 : ¬ x ≤ y → GG E X k n (pc + 3) lv st ws) : GG E X k n pc lv (.int y :: .int x :: st) ws := by
  obtain ⟨l, D, cl, tys⟩ := E
  obtain ⟨p, e, R, s, m, args, below, meth, c, Q, A, nL⟩ := X
  obtain ⟨⟨hx, hb, hml, hown, hts⟩, hK, hA, hR, hL⟩ := F
  intro H locs ls hP hD hS hl
  exact lv_icmp_le hx hb d ht (fun h => K1 h H locs ls hP hD hS hl) (fun h => K2 h H locs ls hP hD hS hl)
theorem g_icmp_le_t (F : Fx E X cc own Ts rm L) {x y : Int32} {off : Int} (tgt : Nat) (d : decode cc pc = .ok (.if_icmp .le off, 3)) (ht : (pc : Int) + off = (tgt : Int)) (h : x ≤ y) (K1 : GG E X k n tgt lv st ws) : GG E X k n pc lv (.int y :: .int x :: st) ws :=
  g_icmp_le F tgt d ht (fun _ => K1) (fun z => absurd h z)
theorem g_icmp_le_f (F : Fx E X cc own Ts rm L) {x y : Int32} {off : Int} (tgt : Nat) (d : decode cc pc = .ok (.if_icmp .le off, 3)) (ht : (pc : Int) + off = (tgt : Int)) (h : ¬ x ≤ y) (K2 : GG E X k n (pc + 3) lv st ws) : GG E X k n pc lv (.int y :: .int x :: st) ws :=
  g_icmp_le F tgt d ht (fun z => absurd z h) (fun _ => K2)
theorem g_lc_eq (F : Fx E X cc own Ts rm L) {x y : Int64} {off : Int} (tgt : Nat) (d1 : decode cc pc = .ok (.lcmp, 1)) (d2 : decode cc (pc + 1) = .ok (.ifCond .eq off, 3)) (ht : ((pc + 1 : Nat) : Int) + off = (tgt : Int)) (K1 : x = y → GG E X k n tgt lv st ws) (K2 : ¬ (x = y) → GG E X k n (pc + 4) lv st ws) : GG E X k n pc lv (.long y :: .long x :: st) ws :=
  g_lcmp F d1 (g_if_eq F tgt d2 ht (fun h => K1 ((lg_cmp_eq x y).mp h)) (fun h => K2 (fun z => h ((lg_cmp_eq x y).mpr z))))
theorem g_lc_lt (F : Fx E X cc own Ts rm L) {x y : Int64} {off : Int} (tgt : Nat) (d1 : decode cc pc = .ok (.lcmp, 1)) (d2 : decode cc (pc + 1) = .ok (.ifCond .lt off, 3)) (ht : ((pc + 1 : Nat) : Int) + off = (tgt : Int)) (K1 : x < y → GG E X k n tgt lv st ws) (K2 : ¬ (x < y) → GG E X k n (pc + 4) lv st ws) : GG E X k n pc lv (.long y :: .long x :: st) ws :=
  g_lcmp F d1 (g_if_lt F tgt d2 ht (fun h => K1 ((lg_cmp_lt x y).mp h)) (fun h => K2 (fun z => h ((lg_cmp_lt x y).mpr z))))
theorem g_lc_ge (F : Fx E X cc own Ts rm L) {x y : Int64} {off : Int} (tgt : Nat) (d1 : decode cc pc = .ok (.lcmp, 1)) (d2 : decode cc (pc + 1) = .ok (.ifCond .ge off, 3)) (ht : ((pc + 1 : Nat) : Int) + off = (tgt : Int)) (K1 : y ≤ x → GG E X k n tgt lv st ws) (K2 : ¬ (y ≤ x) → GG E X k n (pc + 4) lv st ws) : GG E X k n pc lv (.long y :: .long x :: st) ws :=
  g_lcmp F d1 (g_if_ge F tgt d2 ht (fun h => K1 ((lg_cmp_ge x y).mp h)) (fun h => K2 (fun z => h ((lg_cmp_ge x y).mpr z))))
theorem g_lc_gt (F : Fx E X cc own Ts rm L) {x y : Int64} {off : Int} (tgt : Nat) (d1 : decode cc pc = .ok (.lcmp, 1)) (d2 : decode cc (pc + 1) = .ok (.ifCond .gt off, 3)) (ht : ((pc + 1 : Nat) : Int) + off = (tgt : Int)) (K1 : y < x → GG E X k n tgt lv st ws) (K2 : ¬ (y < x) → GG E X k n (pc + 4) lv st ws) : GG E X k n pc lv (.long y :: .long x :: st) ws :=
  g_lcmp F d1 (g_if_gt F tgt d2 ht (fun h => K1 ((lg_cmp_gt x y).mp h)) (fun h => K2 (fun z => h ((lg_cmp_gt x y).mpr z))))
theorem g_lc_le (F : Fx E X cc own Ts rm L) {x y : Int64} {off : Int} (tgt : Nat) (d1 : decode cc pc = .ok (.lcmp, 1)) (d2 : decode cc (pc + 1) = .ok (.ifCond .le off, 3)) (ht : ((pc + 1 : Nat) : Int) + off = (tgt : Int)) (K1 : x ≤ y → GG E X k n tgt lv st ws) (K2 : ¬ (x ≤ y) → GG E X k n (pc + 4) lv st ws) : GG E X k n pc lv (.long y :: .long x :: st) ws :=
  g_lcmp F d1 (g_if_le F tgt d2 ht (fun h => K1 ((lg_cmp_le x y).mp h)) (fun h => K2 (fun z => h ((lg_cmp_le x y).mpr z))))
theorem g_lc_ne (F : Fx E X cc own Ts rm L) {x y : Int64} {off : Int} (tgt : Nat) (d1 : decode cc pc = .ok (.lcmp, 1)) (d2 : decode cc (pc + 1) = .ok (.ifCond .ne off, 3)) (ht : ((pc + 1 : Nat) : Int) + off = (tgt : Int)) (K1 : ¬ x = y → GG E X k n tgt lv st ws) (K2 : x = y → GG E X k n (pc + 4) lv st ws) : GG E X k n pc lv (.long y :: .long x :: st) ws :=
  g_lcmp F d1 (g_if_ne F tgt d2 ht (fun h => K1 (fun z => h ((lg_cmp_eq x y).mpr z))) (fun h => K2 ((lg_cmp_eq x y).mp (by first | exact h | exact Decidable.of_not_not h))))
theorem g_tableIn (F : Fx E X cc own Ts rm L) {dflt lo hi : Int} {offs : Array Int} {len : Nat} {x : Int32} {off : Int} (tgt : Nat) (d : decode cc pc = .ok (.tableswitch dflt lo hi offs, len)) (h1 : ¬ x.toInt < lo) (h2 : ¬ hi < x.toInt) (ho : offs[(x.toInt - lo).toNat]? = some off) (ht : (pc : Int) + off = (tgt : Int)) (K : GG E X k n tgt lv st ws) : GG E X k n pc lv (.int x :: st) ws := by
  obtain ⟨l, D, cl, tys⟩ := E
  obtain ⟨p, e, R, s, m, args, below, meth, c, Q, A, nL⟩ := X
  obtain ⟨⟨hx, hb, hml, hown, hts⟩, hK, hA, hR, hL⟩ := F
  intro H locs ls hP hD hS hl
  exact lv_tableIn hx hb d h1 h2 ho ht (K H locs ls hP hD hS hl)
theorem g_tableOut (F : Fx E X cc own Ts rm L) {dflt lo hi : Int} {offs : Array Int} {len : Nat} {x : Int32} (tgt : Nat) (d : decode cc pc = .ok (.tableswitch dflt lo hi offs, len)) (h : x.toInt < lo ∨ hi < x.toInt) (ht : (pc : Int) + dflt = (tgt : Int)) (K : GG E X k n tgt lv st ws) : GG E X k n pc lv (.int x :: st) ws := by
  obtain ⟨l, D, cl, tys⟩ := E
  obtain ⟨p, e, R, s, m, args, below, meth, c, Q, A, nL⟩ := X
  obtain ⟨⟨hx, hb, hml, hown, hts⟩, hK, hA, hR, hL⟩ := F
  intro H locs ls hP hD hS hl
  exact lv_tableOut hx hb d h ht (K H locs ls hP hD hS hl)
/-- the words that a call of Math asks -/
def wM (own : String) (i : Nat) (y : MethodName) (b : ByteArray) (q : Nat) (t : FieldType) : List Cond := [.methodLink own i y, .static y, .initialized "java/lang/Math", .code y b q (some t)]
theorem g_maxl (F : Fx E X cc own Ts rm L) {i : Nat} {x y : Int64} (d : decode cc pc = .ok (.invokestatic i, 3)) (hw : ∀ w ∈ wM own i Lib.MathLoose.max_long.x Lib.MathLoose.max_long.code 4 .long, w ∈ Ts) (hr : 1 ≤ rm.frames ∧ (st.map fun v => v.category).sum + 15 ≤ rm.locals ∧ k ≤ rm.cells ∧ n ≤ rm.slots) (K : GG E X k n (pc + 3) lv (.long (if y < x then x else y) :: st) ws) : GG E X k n pc lv (.long y :: .long x :: st) ws := by
  obtain ⟨l, D, cl, tys⟩ := E
  obtain ⟨p, e, R, s, m, args, below, meth, c, Q, A, nL⟩ := X
  obtain ⟨⟨hx, hb, hml, hown, hts⟩, hK, hA, hR, hL⟩ := F
  intro H locs ls hP hD hS hl
  subst hR
  have e1 := hw (.methodLink own i Lib.MathLoose.max_long.x) (by simp [wM])
  have e2 := hw (.static Lib.MathLoose.max_long.x) (by simp [wM])
  have e3 := hw (.initialized "java/lang/Math") (by simp [wM])
  have e4 := hw (.code Lib.MathLoose.max_long.x Lib.MathLoose.max_long.code 4 (some .long)) (by simp [wM])
  exact va_mmax_long hx hb (by rw [hml, hl.1]) hown (hts _ e1) (hts _ e2) (hts _ e3) (hts _ e4) hr.1 hr.2.1 hr.2.2.1 hr.2.2.2 d (K H locs ls hP hD hS hl)
theorem g_minl (F : Fx E X cc own Ts rm L) {i : Nat} {x y : Int64} (d : decode cc pc = .ok (.invokestatic i, 3)) (hw : ∀ w ∈ wM own i Lib.MathLoose.min_long.x Lib.MathLoose.min_long.code 4 .long, w ∈ Ts) (hr : 1 ≤ rm.frames ∧ (st.map fun v => v.category).sum + 15 ≤ rm.locals ∧ k ≤ rm.cells ∧ n ≤ rm.slots) (K : GG E X k n (pc + 3) lv (.long (if y < x then y else x) :: st) ws) : GG E X k n pc lv (.long y :: .long x :: st) ws := by
  obtain ⟨l, D, cl, tys⟩ := E
  obtain ⟨p, e, R, s, m, args, below, meth, c, Q, A, nL⟩ := X
  obtain ⟨⟨hx, hb, hml, hown, hts⟩, hK, hA, hR, hL⟩ := F
  intro H locs ls hP hD hS hl
  subst hR
  have e1 := hw (.methodLink own i Lib.MathLoose.min_long.x) (by simp [wM])
  have e2 := hw (.static Lib.MathLoose.min_long.x) (by simp [wM])
  have e3 := hw (.initialized "java/lang/Math") (by simp [wM])
  have e4 := hw (.code Lib.MathLoose.min_long.x Lib.MathLoose.min_long.code 4 (some .long)) (by simp [wM])
  exact va_mmin_long hx hb (by rw [hml, hl.1]) hown (hts _ e1) (hts _ e2) (hts _ e3) (hts _ e4) hr.1 hr.2.1 hr.2.2.1 hr.2.2.2 d (K H locs ls hP hD hS hl)
theorem g_absl (F : Fx E X cc own Ts rm L) {i : Nat} {x : Int64} (d : decode cc pc = .ok (.invokestatic i, 3)) (hw : ∀ w ∈ wM own i Lib.MathLoose.abs_long.x Lib.MathLoose.abs_long.code 2 .long, w ∈ Ts) (hr : 1 ≤ rm.frames ∧ (st.map fun v => v.category).sum + 13 ≤ rm.locals ∧ k ≤ rm.cells ∧ n ≤ rm.slots) (K : GG E X k n (pc + 3) lv (.long (if 0 < x then x else -x) :: st) ws) : GG E X k n pc lv (.long x :: st) ws := by
  obtain ⟨l, D, cl, tys⟩ := E
  obtain ⟨p, e, R, s, m, args, below, meth, c, Q, A, nL⟩ := X
  obtain ⟨⟨hx, hb, hml, hown, hts⟩, hK, hA, hR, hL⟩ := F
  intro H locs ls hP hD hS hl
  subst hR
  have e1 := hw (.methodLink own i Lib.MathLoose.abs_long.x) (by simp [wM])
  have e2 := hw (.static Lib.MathLoose.abs_long.x) (by simp [wM])
  have e3 := hw (.initialized "java/lang/Math") (by simp [wM])
  have e4 := hw (.code Lib.MathLoose.abs_long.x Lib.MathLoose.abs_long.code 2 (some .long)) (by simp [wM])
  exact va_mabs_long hx hb (by rw [hml, hl.1]) hown (hts _ e1) (hts _ e2) (hts _ e3) (hts _ e4) hr.1 hr.2.1 hr.2.2.1 hr.2.2.2 d (K H locs ls hP hD hS hl)
theorem g_maxi (F : Fx E X cc own Ts rm L) {i : Nat} {x y : Int32} (d : decode cc pc = .ok (.invokestatic i, 3)) (hw : ∀ w ∈ wM own i Lib.Math.max.name Lib.Math.max.code 2 .int, w ∈ Ts) (hr : 1 ≤ rm.frames ∧ (st.map fun v => v.category).sum + 13 ≤ rm.locals ∧ k ≤ rm.cells ∧ n ≤ rm.slots) (K : GG E X k n (pc + 3) lv (.int (if x < y then y else x) :: st) ws) : GG E X k n pc lv (.int y :: .int x :: st) ws := by
  obtain ⟨l, D, cl, tys⟩ := E
  obtain ⟨p, e, R, s, m, args, below, meth, c, Q, A, nL⟩ := X
  obtain ⟨⟨hx, hb, hml, hown, hts⟩, hK, hA, hR, hL⟩ := F
  intro H locs ls hP hD hS hl
  subst hR
  have e1 := hw (.methodLink own i Lib.Math.max.name) (by simp [wM])
  have e2 := hw (.static Lib.Math.max.name) (by simp [wM])
  have e3 := hw (.initialized "java/lang/Math") (by simp [wM])
  have e4 := hw (.code Lib.Math.max.name Lib.Math.max.code 2 (some .int)) (by simp [wM])
  exact va_mmax hx hb (by rw [hml, hl.1]) hown (hts _ e1) (hts _ e2) (hts _ e3) (hts _ e4) hr.1 hr.2.1 hr.2.2.1 hr.2.2.2 d (K H locs ls hP hD hS hl)
theorem g_mini (F : Fx E X cc own Ts rm L) {i : Nat} {x y : Int32} (d : decode cc pc = .ok (.invokestatic i, 3)) (hw : ∀ w ∈ wM own i Lib.Math.min.name Lib.Math.min.code 2 .int, w ∈ Ts) (hr : 1 ≤ rm.frames ∧ (st.map fun v => v.category).sum + 13 ≤ rm.locals ∧ k ≤ rm.cells ∧ n ≤ rm.slots) (K : GG E X k n (pc + 3) lv (.int (if y < x then y else x) :: st) ws) : GG E X k n pc lv (.int y :: .int x :: st) ws := by
  obtain ⟨l, D, cl, tys⟩ := E
  obtain ⟨p, e, R, s, m, args, below, meth, c, Q, A, nL⟩ := X
  obtain ⟨⟨hx, hb, hml, hown, hts⟩, hK, hA, hR, hL⟩ := F
  intro H locs ls hP hD hS hl
  subst hR
  have e1 := hw (.methodLink own i Lib.Math.min.name) (by simp [wM])
  have e2 := hw (.static Lib.Math.min.name) (by simp [wM])
  have e3 := hw (.initialized "java/lang/Math") (by simp [wM])
  have e4 := hw (.code Lib.Math.min.name Lib.Math.min.code 2 (some .int)) (by simp [wM])
  exact va_mmin hx hb (by rw [hml, hl.1]) hown (hts _ e1) (hts _ e2) (hts _ e3) (hts _ e4) hr.1 hr.2.1 hr.2.2.1 hr.2.2.2 d (K H locs ls hP hD hS hl)
theorem g_absi (F : Fx E X cc own Ts rm L) {i : Nat} {x : Int32} (d : decode cc pc = .ok (.invokestatic i, 3)) (hw : ∀ w ∈ wM own i Lib.Math.abs.name Lib.Math.abs.code 1 .int, w ∈ Ts) (hr : 1 ≤ rm.frames ∧ (st.map fun v => v.category).sum + 13 ≤ rm.locals ∧ k ≤ rm.cells ∧ n ≤ rm.slots) (K : GG E X k n (pc + 3) lv (.int (if 0 ≤ x then x else 0 - x) :: st) ws) : GG E X k n pc lv (.int x :: st) ws := by
  obtain ⟨l, D, cl, tys⟩ := E
  obtain ⟨p, e, R, s, m, args, below, meth, c, Q, A, nL⟩ := X
  obtain ⟨⟨hx, hb, hml, hown, hts⟩, hK, hA, hR, hL⟩ := F
  intro H locs ls hP hD hS hl
  subst hR
  have e1 := hw (.methodLink own i Lib.Math.abs.name) (by simp [wM])
  have e2 := hw (.static Lib.Math.abs.name) (by simp [wM])
  have e3 := hw (.initialized "java/lang/Math") (by simp [wM])
  have e4 := hw (.code Lib.Math.abs.name Lib.Math.abs.code 1 (some .int)) (by simp [wM])
  exact va_mabs hx hb (by rw [hml, hl.1]) hown (hts _ e1) (hts _ e2) (hts _ e3) (hts _ e4) hr.1 hr.2.1 hr.2.2.1 hr.2.2.2 d (K H locs ls hP hD hS hl)
end GR
section GW
variable {E : En} {X : Cx} {k n pc L : Nat} {lv : List (Nat × Value)} {st : List Value} {ws : va_W} {cc : ByteArray} {own : String} {Ts : List Cond} {rm : Room}
def tysOf (E : En) : List (ClassId × FieldType) := E.2.2.2
def clOf (E : En) : List vw_C := E.2.2.1
theorem g_get (F : Fx E X cc own Ts rm L) (q0 : Nat) (kf : Nat) {C ref : String} {T : u_T} {N ci i a : Nat} {fs : List Value} {v : Value} (hin : ∀ w ∈ u_ws C T N, w ∈ Ts) (he : ws[q0]? = some (a, .inr (ci, fs))) (hc : (clOf E)[ci]? = some (C, T, N)) (hk : kf < N) (hl1 : Cond.fieldLink own i ref (T kf).2.1 (T kf).2.2.1 ∈ Ts) (href : (T kf).1 = ref) (hv : fs[kf]? = some v) (d : decode cc pc = .ok (.getfield i, 3)) (K : GG E X k n (pc + 3) lv (v :: st) ws) : GG E X k n pc lv (.ref a :: st) ws := by
  obtain ⟨l, D, cl, tys⟩ := E
  obtain ⟨p, e, R, s, m, args, below, meth, c, Q, A, nL⟩ := X
  obtain ⟨⟨hx, hb, hml, hown, hts⟩, hK, hA, hR, hL⟩ := F
  intro H locs ls hP hD hS hl
  subst href
  exact va_get hx hb hts hin hown hK hP q0 he hc kf hk (hts _ hl1) (fun _ h9 => h9) hv d (K H locs ls hP hD hS hl)
theorem g_put (F : Fx E X cc own Ts rm L) (q0 : Nat) (kf : Nat) {C ref : String} {T : u_T} {N ci i a : Nat} {fs : List Value} {v : Value} {ty : FieldType} {ws2 : va_W} (hin : ∀ w ∈ u_ws C T N, w ∈ Ts) (ty0 : Nat → FieldType) (hty : ∀ k, k < N → parseFieldDescriptor (T k).2.2.1 = some (ty0 k)) (hnm : ∀ a, a < N → ∀ b, b < N → a ≠ b → (T a).2.1 ≠ (T b).2.1) (he : ws[q0]? = some (a, .inr (ci, fs))) (hc : (clOf E)[ci]? = some (C, T, N)) (hk : kf < N) (hl1 : Cond.fieldLink own i ref (T kf).2.1 (T kf).2.2.1 ∈ Ts) (href : (T kf).1 = ref) (hfin : (T kf).2.2.2 = false) (hd2 : parseFieldDescriptor (T kf).2.2.1 = some ty) (hn : narrow ty v = v) (hfit : fits ty v = true) (hlen : kf < fs.length) (d : decode cc pc = .ok (.putfield i, 3)) (hw : ws.set q0 (a, .inr (ci, fs.set kf v)) = ws2) (K : GG E X k n (pc + 3) lv st ws2) : GG E X k n pc lv (v :: .ref a :: st) ws := by
  obtain ⟨l, D, cl, tys⟩ := E
  obtain ⟨p, e, R, s, m, args, below, meth, c, Q, A, nL⟩ := X
  obtain ⟨⟨hx, hb, hml, hown, hts⟩, hK, hA, hR, hL⟩ := F
  intro H locs ls hP hD hS hl
  subst href hw
  exact va_put hx hb hts hin ty0 hty hnm hown hK hP hD hS q0 he hc kf hk (hts _ hl1) (fun _ h9 => h9) hfin hd2 hn hfit hlen d (fun H locs hP hD hS => K H locs ls hP hD hS hl)
theorem g_iald (F : Fx E X cc own Ts rm L) (q0 t0 : Nat) {a : Nat} {cA : ClassId} {N : Nat} {f : Nat → Int32} (ha : ws[q0]? = some (a, .inl (cA, N, .inl f))) (ht : (tysOf E)[t0]? = some (cA, .int)) {j : Nat} (hj : j < N) (hN : N < 2 ^ 31) (d : decode cc pc = .ok (.iaload, 1)) (K : GG E X k n (pc + 1) lv (.int (f j) :: st) ws) : GG E X k n pc lv (.int (nI j) :: .ref a :: st) ws := by
  obtain ⟨l, D, cl, tys⟩ := E
  obtain ⟨p, e, R, s, m, args, below, meth, c, Q, A, nL⟩ := X
  obtain ⟨⟨hx, hb, hml, hown, hts⟩, hK, hA, hR, hL⟩ := F
  intro H locs ls hP hD hS hl
  have e := nI_clamp (n := j) (by omega)
  have h1 := K H locs ls hP hD hS hl
  rw [← e] at h1
  exact va_iald hx hb hK hP q0 t0 ha ht (vp_in_nI hj hN) d h1
theorem g_iast (F : Fx E X cc own Ts rm L) (q0 t0 : Nat) {a : Nat} {cA : ClassId} {N : Nat} {f : Nat → Int32} (ha : ws[q0]? = some (a, .inl (cA, N, .inl f))) (ht : (tysOf E)[t0]? = some (cA, .int)) {j : Nat} {x : Int32} (hj : j < N) (hN : N < 2 ^ 31) (d : decode cc pc = .ok (.iastore, 1)) {ws2 : va_W} (hw : ws.set q0 (a, .inl (cA, N, .inl (upd f j x))) = ws2) (K : GG E X k n (pc + 1) lv st ws2) : GG E X k n pc lv (.int x :: .int (nI j) :: .ref a :: st) ws := by
  obtain ⟨l, D, cl, tys⟩ := E
  obtain ⟨p, e, R, s, m, args, below, meth, c, Q, A, nL⟩ := X
  obtain ⟨⟨hx, hb, hml, hown, hts⟩, hK, hA, hR, hL⟩ := F
  intro H locs ls hP hD hS hl
  have e := nI_clamp (n := j) (by omega)
  subst hw
  rw [← e] at K
  exact va_iast hx hb hK hP hD hS q0 t0 ha ht (vp_in_nI hj hN) d (fun H locs hP hD hS => K H locs ls hP hD hS hl)
theorem g_zald (F : Fx E X cc own Ts rm L) (q0 t0 : Nat) {a : Nat} {cA : ClassId} {N : Nat} {f : Nat → Int32} (ha : ws[q0]? = some (a, .inl (cA, N, .inl f))) (ht : (tysOf E)[t0]? = some (cA, .boolean)) {j : Nat} (hj : j < N) (hN : N < 2 ^ 31) (d : decode cc pc = .ok (.baload, 1)) (K : GG E X k n (pc + 1) lv (.int (f j) :: st) ws) : GG E X k n pc lv (.int (nI j) :: .ref a :: st) ws := by
  obtain ⟨l, D, cl, tys⟩ := E
  obtain ⟨p, e, R, s, m, args, below, meth, c, Q, A, nL⟩ := X
  obtain ⟨⟨hx, hb, hml, hown, hts⟩, hK, hA, hR, hL⟩ := F
  intro H locs ls hP hD hS hl
  have e := nI_clamp (n := j) (by omega)
  have h1 := K H locs ls hP hD hS hl
  rw [← e] at h1
  exact va_zald hx hb hK hP q0 t0 ha ht (vp_in_nI hj hN) d h1
theorem g_zast (F : Fx E X cc own Ts rm L) (q0 t0 : Nat) {a : Nat} {cA : ClassId} {N : Nat} {f : Nat → Int32} (ha : ws[q0]? = some (a, .inl (cA, N, .inl f))) (ht : (tysOf E)[t0]? = some (cA, .boolean)) {j : Nat} {x : Int32} (hj : j < N) (hN : N < 2 ^ 31) (d : decode cc pc = .ok (.bastore, 1)) {ws2 : va_W} (hw : ws.set q0 (a, .inl (cA, N, .inl (upd f j (vp_nar .boolean x)))) = ws2) (K : GG E X k n (pc + 1) lv st ws2) : GG E X k n pc lv (.int x :: .int (nI j) :: .ref a :: st) ws := by
  obtain ⟨l, D, cl, tys⟩ := E
  obtain ⟨p, e, R, s, m, args, below, meth, c, Q, A, nL⟩ := X
  obtain ⟨⟨hx, hb, hml, hown, hts⟩, hK, hA, hR, hL⟩ := F
  intro H locs ls hP hD hS hl
  have e := nI_clamp (n := j) (by omega)
  subst hw
  rw [← e] at K
  exact va_zast hx hb hK hP hD hS q0 t0 ha ht (vp_in_nI hj hN) d (fun H locs hP hD hS => K H locs ls hP hD hS hl)
theorem g_lald (F : Fx E X cc own Ts rm L) (q0 t0 : Nat) {a : Nat} {cA : ClassId} {N : Nat} {f : Nat → Int64} (ha : ws[q0]? = some (a, .inl (cA, N, .inr (.inl f)))) (ht : (tysOf E)[t0]? = some (cA, .long)) {j : Nat} (hj : j < N) (hN : N < 2 ^ 31) (d : decode cc pc = .ok (.laload, 1)) (K : GG E X k n (pc + 1) lv (.long (f j) :: st) ws) : GG E X k n pc lv (.int (nI j) :: .ref a :: st) ws := by
  obtain ⟨l, D, cl, tys⟩ := E
  obtain ⟨p, e, R, s, m, args, below, meth, c, Q, A, nL⟩ := X
  obtain ⟨⟨hx, hb, hml, hown, hts⟩, hK, hA, hR, hL⟩ := F
  intro H locs ls hP hD hS hl
  have e := nI_clamp (n := j) (by omega)
  have h1 := K H locs ls hP hD hS hl
  rw [← e] at h1
  exact va_lald hx hb hK hP q0 t0 ha ht (vp_in_nI hj hN) d h1
theorem g_last (F : Fx E X cc own Ts rm L) (q0 t0 : Nat) {a : Nat} {cA : ClassId} {N : Nat} {f : Nat → Int64} (ha : ws[q0]? = some (a, .inl (cA, N, .inr (.inl f)))) (ht : (tysOf E)[t0]? = some (cA, .long)) {j : Nat} {x : Int64} (hj : j < N) (hN : N < 2 ^ 31) (d : decode cc pc = .ok (.lastore, 1)) {ws2 : va_W} (hw : ws.set q0 (a, .inl (cA, N, .inr (.inl (vp_updL f j x)))) = ws2) (K : GG E X k n (pc + 1) lv st ws2) : GG E X k n pc lv (.long x :: .int (nI j) :: .ref a :: st) ws := by
  obtain ⟨l, D, cl, tys⟩ := E
  obtain ⟨p, e, R, s, m, args, below, meth, c, Q, A, nL⟩ := X
  obtain ⟨⟨hx, hb, hml, hown, hts⟩, hK, hA, hR, hL⟩ := F
  intro H locs ls hP hD hS hl
  have e := nI_clamp (n := j) (by omega)
  subst hw
  rw [← e] at K
  exact va_last hx hb hK hP hD hS q0 t0 ha ht (vp_in_nI hj hN) d (fun H locs hP hD hS => K H locs ls hP hD hS hl)
theorem g_alen (F : Fx E X cc own Ts rm L) (q0 t0 : Nat) {a : Nat} {cA : ClassId} {x : vp_A} (ha : ws[q0]? = some (a, .inl (cA, x))) {ty : FieldType} (ht : (tysOf E)[t0]? = some (cA, ty)) (d : decode cc pc = .ok (.arraylength, 1)) (K : GG E X k n (pc + 1) lv (.int (nI x.1) :: st) ws) : GG E X k n pc lv (.ref a :: st) ws := by
  obtain ⟨l, D, cl, tys⟩ := E
  obtain ⟨p, e, R, s, m, args, below, meth, c, Q, A, nL⟩ := X
  obtain ⟨⟨hx, hb, hml, hown, hts⟩, hK, hA, hR, hL⟩ := F
  intro H locs ls hP hD hS hl
  exact va_alen hx hb hK hP q0 t0 ha ht rfl d (K H locs ls hP hD hS hl)
end GW
/-! contracts over worlds -/
abbrev cPc (E : En) (As : List Value) (w0 : va_W) (sz : Nat) : Array Value → State → Prop := va_Pc As (fun U => U.heap.size = sz ∧ va_P E.2.1 E.2.2.1 w0 U.heap ∧ va_K E.2.1 E.2.2.1 E.2.2.2 U ∧ va_D (fun _ => True) w0)
abbrev cB (E : En) (w0 : va_W) (sz : Nat) (u : va_W) (t : State) : Prop := va_P E.2.1 E.2.2.1 u t.heap ∧ va_K E.2.1 E.2.2.1 E.2.2.2 t ∧ va_D (va_A w0 sz) u
def CtI (E : En) (y : MethodName) (Ts : List Cond) (rm : Room) (As : List Value) (w0 : va_W) (mc ms : Nat) (post : Int32 → va_W → Prop) : Prop := ∀ sz, Met E.1 y Ts rm (cPc E As w0 sz) (va_Qi post (cB E w0 sz) (va_A w0 sz)) mc ms (va_A w0 sz)
def CtL (E : En) (y : MethodName) (Ts : List Cond) (rm : Room) (As : List Value) (w0 : va_W) (mc ms : Nat) (post : Int64 → va_W → Prop) : Prop := ∀ sz, Met E.1 y Ts rm (cPc E As w0 sz) (va_Ql post (cB E w0 sz) (va_A w0 sz)) mc ms (va_A w0 sz)
def CtV (E : En) (y : MethodName) (Ts : List Cond) (rm : Room) (As : List Value) (w0 : va_W) (mc ms : Nat) (post : va_W → Prop) : Prop := ∀ sz, Met E.1 y Ts rm (cPc E As w0 sz) (va_Qv post (cB E w0 sz) (va_A w0 sz)) mc ms (va_A w0 sz)
/-- the method's end -/
def RtI (E : En) (X : Cx) (k n : Nat) (cc : ByteArray) (post : Int32 → va_W → Prop) : Prop := ∀ (pc : Nat) (lv : List (Nat × Value)) (v : Int32) (ws : va_W), decode cc pc = .ok (.ireturn, 1) → post v ws → GG E X k n pc lv [.int v] ws
def RtL (E : En) (X : Cx) (k n : Nat) (cc : ByteArray) (post : Int64 → va_W → Prop) : Prop := ∀ (pc : Nat) (lv : List (Nat × Value)) (v : Int64) (ws : va_W), decode cc pc = .ok (.lreturn, 1) → post v ws → GG E X k n pc lv [.long v] ws
def RtV (E : En) (X : Cx) (k n : Nat) (cc : ByteArray) (post : va_W → Prop) : Prop := ∀ (pc : Nat) (lv : List (Nat × Value)) (ws : va_W), decode cc pc = .ok (.return_, 1) → post ws → GG E X k n pc lv [] ws

theorem CtI.of {E : En} {y : MethodName} {Ts Ts' : List Cond} {rm : Room} {As : List Value} {w0 : va_W} {mc ms : Nat} {post : Int32 → va_W → Prop} {cc : ByteArray} {L : Nat} (hy : plainName y.cls = true) (hw : Ts = Cond.code y cc L (some .int) :: Ts') (hlen : (lg_sl As).length ≤ L) 
    (body : ∀ X : Cx, Fx E X cc y.cls Ts rm L → RtI E X mc ms cc post →  GG E X 0 0 0 (lv_args 0 As) [] w0) : CtI E y Ts rm As w0 mc ms post := by
  intro sz
  obtain ⟨l, D, cl, tys⟩ := E
  refine Met.ofW (cc := cc) (maxL := L) (ret := (some .int)) hy hw ?_
  intro p e s m args below meth c s₁ B hml hv
  obtain ⟨rfl, hsz, hP, hK, hD0⟩ := hv
  have hx := B.exec
  have hb := B.bytes
  have hr := B.returns
  have hts := atoms_spec (ws := Ts) B.pre
  have hown : s.vm.findClass y.cls = some m.cls := findClass_of_methodNamed B.named
  have hlocks := B.notSynchronized
  subst hsz
  have hD := hD0.self (sz := s.heap.size)
  have hA : ∀ q : Nat, s.heap.size ≤ q → va_A w0 s.heap.size q := fun q h => Or.inr h
  have hl := lv_entry As (n := L) hlen
  rw [lg_entry_eq]
  refine body (p, e, (headSpec Ts rm).room, s, m, As.toArray, below, meth, c, _, va_A w0 s.heap.size, L) ⟨⟨hx, hb, hml, hown, hts⟩, hK, hA, rfl, rfl⟩ ?_ s.heap [] _ hP hD va_S.rf hl
  intro pc lv v ws d hp H locs ls hP hD hS hl
  exact W.iret hx hb hr (fun t ht hW => ⟨⟨v, ws, rfl, hp, by rw [ht]; exact hP, va_K.moved hW.alike hK, hD⟩, hS.F ht⟩) hS.2.2 d
theorem CtL.of {E : En} {y : MethodName} {Ts Ts' : List Cond} {rm : Room} {As : List Value} {w0 : va_W} {mc ms : Nat} {post : Int64 → va_W → Prop} {cc : ByteArray} {L : Nat} (hy : plainName y.cls = true) (hw : Ts = Cond.code y cc L (some .long) :: Ts') (hlen : (lg_sl As).length ≤ L) 
    (body : ∀ X : Cx, Fx E X cc y.cls Ts rm L → RtL E X mc ms cc post →  GG E X 0 0 0 (lv_args 0 As) [] w0) : CtL E y Ts rm As w0 mc ms post := by
  intro sz
  obtain ⟨l, D, cl, tys⟩ := E
  refine Met.ofW (cc := cc) (maxL := L) (ret := (some .long)) hy hw ?_
  intro p e s m args below meth c s₁ B hml hv
  obtain ⟨rfl, hsz, hP, hK, hD0⟩ := hv
  have hx := B.exec
  have hb := B.bytes
  have hr := B.returns
  have hts := atoms_spec (ws := Ts) B.pre
  have hown : s.vm.findClass y.cls = some m.cls := findClass_of_methodNamed B.named
  have hlocks := B.notSynchronized
  subst hsz
  have hD := hD0.self (sz := s.heap.size)
  have hA : ∀ q : Nat, s.heap.size ≤ q → va_A w0 s.heap.size q := fun q h => Or.inr h
  have hl := lv_entry As (n := L) hlen
  rw [lg_entry_eq]
  refine body (p, e, (headSpec Ts rm).room, s, m, As.toArray, below, meth, c, _, va_A w0 s.heap.size, L) ⟨⟨hx, hb, hml, hown, hts⟩, hK, hA, rfl, rfl⟩ ?_ s.heap [] _ hP hD va_S.rf hl
  intro pc lv v ws d hp H locs ls hP hD hS hl
  exact W.lret hx hb hr (fun t ht hW => ⟨⟨v, ws, rfl, hp, by rw [ht]; exact hP, va_K.moved hW.alike hK, hD⟩, hS.F ht⟩) hS.2.2 d
theorem CtV.of {E : En} {y : MethodName} {Ts Ts' : List Cond} {rm : Room} {As : List Value} {w0 : va_W} {mc ms : Nat} {post : va_W → Prop} {cc : ByteArray} {L : Nat} (hy : plainName y.cls = true) (hw : Ts = Cond.code y cc L none :: Ts') (hlen : (lg_sl As).length ≤ L) 
    (body : ∀ X : Cx, Fx E X cc y.cls Ts rm L → RtV E X mc ms cc post →  GG E X 0 0 0 (lv_args 0 As) [] w0) : CtV E y Ts rm As w0 mc ms post := by
  intro sz
  obtain ⟨l, D, cl, tys⟩ := E
  refine Met.ofW (cc := cc) (maxL := L) (ret := none) hy hw ?_
  intro p e s m args below meth c s₁ B hml hv
  obtain ⟨rfl, hsz, hP, hK, hD0⟩ := hv
  have hx := B.exec
  have hb := B.bytes
  have hr := B.returns
  have hts := atoms_spec (ws := Ts) B.pre
  have hown : s.vm.findClass y.cls = some m.cls := findClass_of_methodNamed B.named
  have hlocks := B.notSynchronized
  subst hsz
  have hD := hD0.self (sz := s.heap.size)
  have hA : ∀ q : Nat, s.heap.size ≤ q → va_A w0 s.heap.size q := fun q h => Or.inr h
  have hl := lv_entry As (n := L) hlen
  rw [lg_entry_eq]
  refine body (p, e, (headSpec Ts rm).room, s, m, As.toArray, below, meth, c, _, va_A w0 s.heap.size, L) ⟨⟨hx, hb, hml, hown, hts⟩, hK, hA, rfl, rfl⟩ ?_ s.heap [] _ hP hD va_S.rf hl
  intro pc lv ws d hp H locs ls hP hD hS hl
  exact W.vret hx hb hr (fun t ht hW => ⟨⟨ws, rfl, hp, by rw [ht]; exact hP, va_K.moved hW.alike hK, hD⟩, hS.F ht⟩) hS.2.2 d
theorem CtZ.of {E : En} {y : MethodName} {Ts Ts' : List Cond} {rm : Room} {As : List Value} {w0 : va_W} {mc ms : Nat} {post : Int32 → va_W → Prop} {cc : ByteArray} {L : Nat} (hy : plainName y.cls = true) (hw : Ts = Cond.code y cc L (some .boolean) :: Ts') (hlen : (lg_sl As).length ≤ L) (hz : ∀ v ws, post v ws → narrow .boolean (.int v) = .int v)
    (body : ∀ X : Cx, Fx E X cc y.cls Ts rm L → RtI E X mc ms cc post →  GG E X 0 0 0 (lv_args 0 As) [] w0) : CtI E y Ts rm As w0 mc ms post := by
  intro sz
  obtain ⟨l, D, cl, tys⟩ := E
  refine Met.ofW (cc := cc) (maxL := L) (ret := (some .boolean)) hy hw ?_
  intro p e s m args below meth c s₁ B hml hv
  obtain ⟨rfl, hsz, hP, hK, hD0⟩ := hv
  have hx := B.exec
  have hb := B.bytes
  have hr := B.returns
  have hts := atoms_spec (ws := Ts) B.pre
  have hown : s.vm.findClass y.cls = some m.cls := findClass_of_methodNamed B.named
  have hlocks := B.notSynchronized
  subst hsz
  have hD := hD0.self (sz := s.heap.size)
  have hA : ∀ q : Nat, s.heap.size ≤ q → va_A w0 s.heap.size q := fun q h => Or.inr h
  have hl := lv_entry As (n := L) hlen
  rw [lg_entry_eq]
  refine body (p, e, (headSpec Ts rm).room, s, m, As.toArray, below, meth, c, _, va_A w0 s.heap.size, L) ⟨⟨hx, hb, hml, hown, hts⟩, hK, hA, rfl, rfl⟩ ?_ s.heap [] _ hP hD va_S.rf hl
  intro pc lv v ws d hp H locs ls hP hD hS hl
  exact W.zret hx hb hr (hz v ws hp) (fun t ht hW => ⟨⟨v, ws, rfl, hp, by rw [ht]; exact hP, va_K.moved hW.alike hK, hD⟩, hS.F ht⟩) hS.2.2 d
theorem app_idx (wr wc : va_W) : (List.range' wr.length wc.length).map (fun i => (wr ++ wc)[i]?) = wc.map some := by
  apply List.ext_getElem?
  intro i
  rw [List.getElem?_map, List.getElem?_map]
  by_cases h : i < wc.length
  · rw [List.getElem?_range' h]
    simp [List.getElem?_append_right, h]
  · rw [List.getElem?_eq_none (by simp; omega), List.getElem?_eq_none (by omega)]
    rfl
theorem app_idx2 (wr wc : va_W) : (List.range wr.length).map (fun i => (wr ++ wc)[i]?) = wr.map some := by
  apply List.ext_getElem?
  intro i
  rw [List.getElem?_map, List.getElem?_map]
  by_cases h : i < wr.length
  · rw [List.getElem?_range h]
    simp [List.getElem?_append_left, h]
  · rw [List.getElem?_eq_none (by simp; omega), List.getElem?_eq_none (by omega)]
    rfl
theorem nd_notin : ∀ (l : List Nat) (a : Nat), (∀ x ∈ l, x ≠ a) → l.all (fun x => !(x == a)) = true := fun l a h => List.all_eq_true.mpr (fun x hx => by simp [h x hx])
section GC
variable {E : En} {X : Cx} {k n pc L : Nat} {lv : List (Nat × Value)} {cc : ByteArray} {own : String} {Ts : List Cond} {rm : Room}
theorem P_right {D : va_G} {cl : List vw_C} {wr wc : va_W} {H : Heap} (h : va_P D cl (wr ++ wc) H) : va_P D cl wc H := fun k q hq => h (wr.length + k) q (by rw [List.getElem?_append_right (by omega)]; simpa using hq)
theorem D_right {A : Nat → Prop} {wr wc : va_W} (h : va_D A (wr ++ wc)) : va_D A wc := ⟨fun i j p q hi hj e => by
    have := h.1 (wr.length + i) (wr.length + j) p q (by rw [List.getElem?_append_right (by omega)]; simpa using hi) (by rw [List.getElem?_append_right (by omega)]; simpa using hj) e
    omega, fun k q hq => h.2 (wr.length + k) q (by rw [List.getElem?_append_right (by omega)]; simpa using hq)⟩
theorem D_left {A : Nat → Prop} {wr wc : va_W} (h : va_D A (wr ++ wc)) : va_D A wr := ⟨fun i j p q hi hj e => by
    have a1 := (List.getElem?_eq_some_iff.mp hi).1
    have a2 := (List.getElem?_eq_some_iff.mp hj).1
    exact h.1 i j p q (by rw [List.getElem?_append_left a1]; exact hi) (by rw [List.getElem?_append_left a2]; exact hj) e, fun k q hq => by
    have a1 := (List.getElem?_eq_some_iff.mp hq).1
    exact h.2 k q (by rw [List.getElem?_append_left a1]; exact hq)⟩
/-- behind a call: the rest, and what came back -/
theorem w_join {A0 : Nat → Prop} {D : va_G} {cl : List vw_C} {wr wc w1 : va_W} {H H1 : Heap} (hP : va_P D cl (wr ++ wc) H) (hD : va_D A0 (wr ++ wc)) (hk : ∀ q : Nat, q < H.size → ¬ va_A wc H.size q → H1[q]? = H[q]?) (hF : ∀ q, va_A wc H.size q → A0 q) (hP1 : va_P D cl w1 H1) (hD1 : va_D (va_A wc H.size) w1) : va_P D cl (wr ++ w1) H1 ∧ va_D A0 (wr ++ w1) := by
  have apart : ∀ (i : Nat) (q : Nat × va_E), wr[i]? = some q → q.1 < H.size ∧ ¬ va_A wc H.size q.1 := by
    intro i q hq
    have a1 := (List.getElem?_eq_some_iff.mp hq).1
    have hq' : (wr ++ wc)[i]? = some q := by rw [List.getElem?_append_left a1]; exact hq
    have hl := (hP i q hq').lt
    refine ⟨hl, fun h => ?_⟩
    rcases h with ⟨k2, e, h⟩ | h
    · have h2 : (wr ++ wc)[wr.length + k2]? = some (q.1, e) := by rw [List.getElem?_append_right (by omega)]; simpa using h
      have := hD.1 i (wr.length + k2) q (q.1, e) hq' h2 rfl
      omega
    · omega
  refine ⟨va_P.app (fun k q hq => ?_) hP1, va_D.app (D_left hD) (hD1.weaken (fun k q _ h => hF q.1 h)) (fun i j x y hx hy hxy => ?_)⟩
  · have a1 := (List.getElem?_eq_some_iff.mp hq).1
    obtain ⟨g1, g2⟩ := apart k q hq
    exact (hP k q (by rw [List.getElem?_append_left a1]; exact hq)).kept (hk q.1 g1 g2)
  · exact (apart i x hx).2 (by rw [hxy]; exact hD1.2 j y hy)
theorem w_free {A0 : Nat → Prop} {wr wc : va_W} {H0 H : Heap} {locs : List Loc} (hD : va_D A0 (wr ++ wc)) (hS : va_S A0 H0 H locs) (hA : ∀ q, H0.size ≤ q → A0 q) : ∀ q, va_A wc H.size q → A0 q := by
  intro q h
  rcases h with ⟨k, e, h⟩ | h
  · exact (D_right hD).2 k (q, e) h
  · exact hA q (Nat.le_trans hS.1 h)
/-- what a call of an instance method asks of the words -/
def cwOk (own : String) (i : Nat) (C : String) (y : MethodName) (ws Ts : List Cond) (bytes : ByteArray) (maxL np : Nat) (ret : Option FieldType) (rm2 rm : Room) : Prop :=
  GoodIn Ts (wsV own i C y ws) ∧ (∃ ws', ws = Cond.code y bytes maxL ret :: ws') ∧ (y.cls = C ∧ y.cls ≠ "java/lang/invoke/MethodHandle" ∧ y.cls ≠ "java/lang/invoke/VarHandle" ∧ (parseMethodDescriptor y.desc).map (fun d => d.parameters.length) = some np) ∧ (rm2.frames + 1 ≤ rm.frames ∧ 8 + (maxL + 11) + rm2.locals ≤ rm.locals)
def cwOkS (own : String) (i : Nat) (y : MethodName) (ws Ts : List Cond) (bytes : ByteArray) (maxL np : Nat) (ret : Option FieldType) (rm2 rm : Room) : Prop :=
  GoodIn Ts (wsS own i y ws) ∧ (∃ ws', ws = Cond.code y bytes maxL ret :: ws') ∧ (y.cls = own ∧ y.cls ≠ "java/lang/invoke/MethodHandle" ∧ y.cls ≠ "java/lang/invoke/VarHandle" ∧ (parseMethodDescriptor y.desc).map (fun d => d.parameters.length) = some np) ∧ (rm2.frames + 1 ≤ rm.frames ∧ 8 + (maxL + 11) + rm2.locals ≤ rm.locals)

theorem g_callVI (F : Fx E X cc own Ts rm L) {y : MethodName} {ws : List Cond} {rm2 : Room} {b : Nat} {As rest st : List Value} {wr w0 : va_W} {mc ms : Nat} {post : Int32 → va_W → Prop} (hM : CtI E y ws rm2 (.ref b :: As) w0 mc ms post) {i : Nat} {C : String} {bytes : ByteArray} {maxL : Nat} {ret : Option FieldType} (cw : cwOk own i C y ws Ts bytes maxL As.length ret rm2 rm) (q0 : Nat) {ci : Nat} {fs : List Value} {T : u_T} {N : Nat} (he : w0[q0]? = some (b, .inr (ci, fs))) (hc : (clOf E)[ci]? = some (C, T, N)) (hst : st = As.reverse ++ .ref b :: rest) (hroom : (rest.map fun v => v.category).sum ≤ 8) (hms : rm2.cells = mc ∧ rm2.slots = ms) (hf : k + mc ≤ rm.cells ∧ n + ms ≤ rm.slots) (d : decode cc pc = .ok (.invokevirtual i, 3)) (K : ∀ (r : Int32) (u : va_W), post r u → GG E X (k + mc) (n + ms) (pc + 3) lv (.int r :: rest) (wr ++ u)) : GG E X k n pc lv st (wr ++ w0) := by
  obtain ⟨l, D, cl, tys⟩ := E
  obtain ⟨p, e, R, s, m, args, below, meth, c, Q, A, nL⟩ := X
  obtain ⟨⟨hx, hb, hml, hown, hts⟩, hK, hA, hR, hL⟩ := F
  intro H locs ls hP hD hS hl
  subst hst hR
  obtain ⟨c1, ⟨ws', c2⟩, c3, c4⟩ := cw
  have hFr := w_free hD hS hA
  refine va_calli (va_runV (As := As) (rest := rest) ⟨hx, hb, hml, hown, hts⟩ (hM H.size) (cwV As.length hts c1 c2 hms.1 hms.2 c3 c4) ⟨fun a U g mk q => by obtain ⟨q0, q1, qP, qK, qD⟩ := q; exact ⟨q0, q1, qP, va_K.moved (u := U) (U := U.calling g mk a) (Vm.Alike.refl U.vm) qK, qD⟩, va_recv hK (P_right hP) (ci := ci) (q0 := q0) hc he, fun U hU hW => ⟨rfl, by rw [hU], by rw [hU]; exact P_right hP, va_K.moved hW.alike hK, (D_right hD).weaken (fun _ _ _ _ => trivial)⟩⟩ rfl rfl hl.1 rfl (lv_room hroom) d hf) hS (fun q _ h => w_free hD hS hA q h) (w_free hD hS hA) (fun r u t H1 locs ht hvm hw hB hz1 hk1 hS => ?_)
  obtain ⟨hP1, hK1, hD1⟩ := hB
  rw [ht] at hP1
  obtain ⟨hP2, hD2⟩ := w_join hP hD hk1 hFr hP1 hD1
  exact K r u hw H1 locs ls hP2 hD2 hS hl
theorem g_callSI (F : Fx E X cc own Ts rm L) {y : MethodName} {ws : List Cond} {rm2 : Room} {As rest st : List Value} {wr w0 : va_W} {mc ms : Nat} {post : Int32 → va_W → Prop} (hM : CtI E y ws rm2 As w0 mc ms post) {i : Nat} {bytes : ByteArray} {maxL : Nat} {ret : Option FieldType} (cw : cwOkS own i y ws Ts bytes maxL As.length ret rm2 rm) (hst : st = As.reverse ++ rest) (hroom : (rest.map fun v => v.category).sum ≤ 8) (hms : rm2.cells = mc ∧ rm2.slots = ms) (hf : k + mc ≤ rm.cells ∧ n + ms ≤ rm.slots) (d : decode cc pc = .ok (.invokestatic i, 3)) (K : ∀ (r : Int32) (u : va_W), post r u → GG E X (k + mc) (n + ms) (pc + 3) lv (.int r :: rest) (wr ++ u)) : GG E X k n pc lv st (wr ++ w0) := by
  obtain ⟨l, D, cl, tys⟩ := E
  obtain ⟨p, e, R, s, m, args, below, meth, c, Q, A, nL⟩ := X
  obtain ⟨⟨hx, hb, hml, hown, hts⟩, hK, hA, hR, hL⟩ := F
  intro H locs ls hP hD hS hl
  subst hst hR
  obtain ⟨c1, ⟨ws', c2⟩, c3, c4⟩ := cw
  have hFr := w_free hD hS hA
  refine va_calli (va_runS (As := As) (rest := rest) ⟨hx, hb, hml, hown, hts⟩ (hM H.size) (cwS As.length hts c1 c2 hms.1 hms.2 c3 c4) ⟨fun a U g mk q => by obtain ⟨q0, q1, qP, qK, qD⟩ := q; exact ⟨q0, q1, qP, va_K.moved (u := U) (U := U.calling g mk a) (Vm.Alike.refl U.vm) qK, qD⟩, fun U hU hW => ⟨rfl, by rw [hU], by rw [hU]; exact P_right hP, va_K.moved hW.alike hK, (D_right hD).weaken (fun _ _ _ _ => trivial)⟩⟩ rfl rfl hl.1 rfl (lv_room hroom) d hf) hS (fun q _ h => w_free hD hS hA q h) (w_free hD hS hA) (fun r u t H1 locs ht hvm hw hB hz1 hk1 hS => ?_)
  obtain ⟨hP1, hK1, hD1⟩ := hB
  rw [ht] at hP1
  obtain ⟨hP2, hD2⟩ := w_join hP hD hk1 hFr hP1 hD1
  exact K r u hw H1 locs ls hP2 hD2 hS hl
theorem g_callVL (F : Fx E X cc own Ts rm L) {y : MethodName} {ws : List Cond} {rm2 : Room} {b : Nat} {As rest st : List Value} {wr w0 : va_W} {mc ms : Nat} {post : Int64 → va_W → Prop} (hM : CtL E y ws rm2 (.ref b :: As) w0 mc ms post) {i : Nat} {C : String} {bytes : ByteArray} {maxL : Nat} {ret : Option FieldType} (cw : cwOk own i C y ws Ts bytes maxL As.length ret rm2 rm) (q0 : Nat) {ci : Nat} {fs : List Value} {T : u_T} {N : Nat} (he : w0[q0]? = some (b, .inr (ci, fs))) (hc : (clOf E)[ci]? = some (C, T, N)) (hst : st = As.reverse ++ .ref b :: rest) (hroom : (rest.map fun v => v.category).sum ≤ 8) (hms : rm2.cells = mc ∧ rm2.slots = ms) (hf : k + mc ≤ rm.cells ∧ n + ms ≤ rm.slots) (d : decode cc pc = .ok (.invokevirtual i, 3)) (K : ∀ (r : Int64) (u : va_W), post r u → GG E X (k + mc) (n + ms) (pc + 3) lv (.long r :: rest) (wr ++ u)) : GG E X k n pc lv st (wr ++ w0) := by
  obtain ⟨l, D, cl, tys⟩ := E
  obtain ⟨p, e, R, s, m, args, below, meth, c, Q, A, nL⟩ := X
  obtain ⟨⟨hx, hb, hml, hown, hts⟩, hK, hA, hR, hL⟩ := F
  intro H locs ls hP hD hS hl
  subst hst hR
  obtain ⟨c1, ⟨ws', c2⟩, c3, c4⟩ := cw
  have hFr := w_free hD hS hA
  refine va_calll (va_runV (As := As) (rest := rest) ⟨hx, hb, hml, hown, hts⟩ (hM H.size) (cwV As.length hts c1 c2 hms.1 hms.2 c3 c4) ⟨fun a U g mk q => by obtain ⟨q0, q1, qP, qK, qD⟩ := q; exact ⟨q0, q1, qP, va_K.moved (u := U) (U := U.calling g mk a) (Vm.Alike.refl U.vm) qK, qD⟩, va_recv hK (P_right hP) (ci := ci) (q0 := q0) hc he, fun U hU hW => ⟨rfl, by rw [hU], by rw [hU]; exact P_right hP, va_K.moved hW.alike hK, (D_right hD).weaken (fun _ _ _ _ => trivial)⟩⟩ rfl rfl hl.1 rfl (lv_room hroom) d hf) hS (fun q _ h => w_free hD hS hA q h) (w_free hD hS hA) (fun r u t H1 locs ht hvm hw hB hz1 hk1 hS => ?_)
  obtain ⟨hP1, hK1, hD1⟩ := hB
  rw [ht] at hP1
  obtain ⟨hP2, hD2⟩ := w_join hP hD hk1 hFr hP1 hD1
  exact K r u hw H1 locs ls hP2 hD2 hS hl
theorem g_callSL (F : Fx E X cc own Ts rm L) {y : MethodName} {ws : List Cond} {rm2 : Room} {As rest st : List Value} {wr w0 : va_W} {mc ms : Nat} {post : Int64 → va_W → Prop} (hM : CtL E y ws rm2 As w0 mc ms post) {i : Nat} {bytes : ByteArray} {maxL : Nat} {ret : Option FieldType} (cw : cwOkS own i y ws Ts bytes maxL As.length ret rm2 rm) (hst : st = As.reverse ++ rest) (hroom : (rest.map fun v => v.category).sum ≤ 8) (hms : rm2.cells = mc ∧ rm2.slots = ms) (hf : k + mc ≤ rm.cells ∧ n + ms ≤ rm.slots) (d : decode cc pc = .ok (.invokestatic i, 3)) (K : ∀ (r : Int64) (u : va_W), post r u → GG E X (k + mc) (n + ms) (pc + 3) lv (.long r :: rest) (wr ++ u)) : GG E X k n pc lv st (wr ++ w0) := by
  obtain ⟨l, D, cl, tys⟩ := E
  obtain ⟨p, e, R, s, m, args, below, meth, c, Q, A, nL⟩ := X
  obtain ⟨⟨hx, hb, hml, hown, hts⟩, hK, hA, hR, hL⟩ := F
  intro H locs ls hP hD hS hl
  subst hst hR
  obtain ⟨c1, ⟨ws', c2⟩, c3, c4⟩ := cw
  have hFr := w_free hD hS hA
  refine va_calll (va_runS (As := As) (rest := rest) ⟨hx, hb, hml, hown, hts⟩ (hM H.size) (cwS As.length hts c1 c2 hms.1 hms.2 c3 c4) ⟨fun a U g mk q => by obtain ⟨q0, q1, qP, qK, qD⟩ := q; exact ⟨q0, q1, qP, va_K.moved (u := U) (U := U.calling g mk a) (Vm.Alike.refl U.vm) qK, qD⟩, fun U hU hW => ⟨rfl, by rw [hU], by rw [hU]; exact P_right hP, va_K.moved hW.alike hK, (D_right hD).weaken (fun _ _ _ _ => trivial)⟩⟩ rfl rfl hl.1 rfl (lv_room hroom) d hf) hS (fun q _ h => w_free hD hS hA q h) (w_free hD hS hA) (fun r u t H1 locs ht hvm hw hB hz1 hk1 hS => ?_)
  obtain ⟨hP1, hK1, hD1⟩ := hB
  rw [ht] at hP1
  obtain ⟨hP2, hD2⟩ := w_join hP hD hk1 hFr hP1 hD1
  exact K r u hw H1 locs ls hP2 hD2 hS hl
theorem g_callVV (F : Fx E X cc own Ts rm L) {y : MethodName} {ws : List Cond} {rm2 : Room} {b : Nat} {As rest st : List Value} {wr w0 : va_W} {mc ms : Nat} {post : va_W → Prop} (hM : CtV E y ws rm2 (.ref b :: As) w0 mc ms post) {i : Nat} {C : String} {bytes : ByteArray} {maxL : Nat} {ret : Option FieldType} (cw : cwOk own i C y ws Ts bytes maxL As.length ret rm2 rm) (q0 : Nat) {ci : Nat} {fs : List Value} {T : u_T} {N : Nat} (he : w0[q0]? = some (b, .inr (ci, fs))) (hc : (clOf E)[ci]? = some (C, T, N)) (hst : st = As.reverse ++ .ref b :: rest) (hroom : (rest.map fun v => v.category).sum ≤ 8) (hms : rm2.cells = mc ∧ rm2.slots = ms) (hf : k + mc ≤ rm.cells ∧ n + ms ≤ rm.slots) (d : decode cc pc = .ok (.invokevirtual i, 3)) (K : ∀ (u : va_W), post u → GG E X (k + mc) (n + ms) (pc + 3) lv (rest) (wr ++ u)) : GG E X k n pc lv st (wr ++ w0) := by
  obtain ⟨l, D, cl, tys⟩ := E
  obtain ⟨p, e, R, s, m, args, below, meth, c, Q, A, nL⟩ := X
  obtain ⟨⟨hx, hb, hml, hown, hts⟩, hK, hA, hR, hL⟩ := F
  intro H locs ls hP hD hS hl
  subst hst hR
  obtain ⟨c1, ⟨ws', c2⟩, c3, c4⟩ := cw
  have hFr := w_free hD hS hA
  refine va_callv (va_runV (As := As) (rest := rest) ⟨hx, hb, hml, hown, hts⟩ (hM H.size) (cwV As.length hts c1 c2 hms.1 hms.2 c3 c4) ⟨fun a U g mk q => by obtain ⟨q0, q1, qP, qK, qD⟩ := q; exact ⟨q0, q1, qP, va_K.moved (u := U) (U := U.calling g mk a) (Vm.Alike.refl U.vm) qK, qD⟩, va_recv hK (P_right hP) (ci := ci) (q0 := q0) hc he, fun U hU hW => ⟨rfl, by rw [hU], by rw [hU]; exact P_right hP, va_K.moved hW.alike hK, (D_right hD).weaken (fun _ _ _ _ => trivial)⟩⟩ rfl rfl hl.1 rfl (lv_room hroom) d hf) hS (fun q _ h => w_free hD hS hA q h) (w_free hD hS hA) (fun u t H1 locs ht hvm hw hB hz1 hk1 hS => ?_)
  obtain ⟨hP1, hK1, hD1⟩ := hB
  rw [ht] at hP1
  obtain ⟨hP2, hD2⟩ := w_join hP hD hk1 hFr hP1 hD1
  exact K u hw H1 locs ls hP2 hD2 hS hl
theorem g_callSV (F : Fx E X cc own Ts rm L) {y : MethodName} {ws : List Cond} {rm2 : Room} {As rest st : List Value} {wr w0 : va_W} {mc ms : Nat} {post : va_W → Prop} (hM : CtV E y ws rm2 As w0 mc ms post) {i : Nat} {bytes : ByteArray} {maxL : Nat} {ret : Option FieldType} (cw : cwOkS own i y ws Ts bytes maxL As.length ret rm2 rm) (hst : st = As.reverse ++ rest) (hroom : (rest.map fun v => v.category).sum ≤ 8) (hms : rm2.cells = mc ∧ rm2.slots = ms) (hf : k + mc ≤ rm.cells ∧ n + ms ≤ rm.slots) (d : decode cc pc = .ok (.invokestatic i, 3)) (K : ∀ (u : va_W), post u → GG E X (k + mc) (n + ms) (pc + 3) lv (rest) (wr ++ u)) : GG E X k n pc lv st (wr ++ w0) := by
  obtain ⟨l, D, cl, tys⟩ := E
  obtain ⟨p, e, R, s, m, args, below, meth, c, Q, A, nL⟩ := X
  obtain ⟨⟨hx, hb, hml, hown, hts⟩, hK, hA, hR, hL⟩ := F
  intro H locs ls hP hD hS hl
  subst hst hR
  obtain ⟨c1, ⟨ws', c2⟩, c3, c4⟩ := cw
  have hFr := w_free hD hS hA
  refine va_callv (va_runS (As := As) (rest := rest) ⟨hx, hb, hml, hown, hts⟩ (hM H.size) (cwS As.length hts c1 c2 hms.1 hms.2 c3 c4) ⟨fun a U g mk q => by obtain ⟨q0, q1, qP, qK, qD⟩ := q; exact ⟨q0, q1, qP, va_K.moved (u := U) (U := U.calling g mk a) (Vm.Alike.refl U.vm) qK, qD⟩, fun U hU hW => ⟨rfl, by rw [hU], by rw [hU]; exact P_right hP, va_K.moved hW.alike hK, (D_right hD).weaken (fun _ _ _ _ => trivial)⟩⟩ rfl rfl hl.1 rfl (lv_room hroom) d hf) hS (fun q _ h => w_free hD hS hA q h) (w_free hD hS hA) (fun u t H1 locs ht hvm hw hB hz1 hk1 hS => ?_)
  obtain ⟨hP1, hK1, hD1⟩ := hB
  rw [ht] at hP1
  obtain ⟨hP2, hD2⟩ := w_join hP hD hk1 hFr hP1 hD1
  exact K u hw H1 locs ls hP2 hD2 hS hl
end GC
theorem up_loop {P : Nat → Prop} (N : Nat) (hx : P N) (hs : ∀ i, i < N → P (i + 1) → P i) : P 0 := by
  have h : ∀ j, j ≤ N → P (N - j) := by
    intro j
    induction j with
    | zero => intro _; exact hx
    | succ j ih =>
      intro h
      have h1 := ih (by omega)
      have e : N - j = (N - (j + 1)) + 1 := by omega
      rw [e] at h1
      exact hs _ (by omega) h1
  have := h N (Nat.le_refl N)
  rwa [Nat.sub_self] at this
theorem up_loopI {I P : Nat → Prop} (N : Nat) (h0 : I 0) (hx : I N → P N) (hs : ∀ i, i < N → I i → (I (i + 1) → P (i + 1)) → P i) : P 0 :=
  up_loop (P := fun i => I i → P i) N hx (fun i hi ih hI => hs i hi hI ih) h0

