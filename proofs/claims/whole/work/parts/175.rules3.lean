/-! Rules for what is made, and for the law. -/
def mname (X : Cx) : String := match X with
  | (_, _, _, _, _, _, _, meth, _, _, _, _) => meth.name
section GN
variable {E : En} {X : Cx} {k n pc L : Nat} {lv : List (Nat × Value)} {st : List Value} {ws : va_W} {cc : ByteArray} {own : String} {Ts : List Cond} {rm : Room}
theorem g_objInit (F : Fx E X cc own Ts rm L) {i a : Nat} (h1 : Cond.methodLink own i objectInit ∈ Ts) (h2 : Cond.instanceMethod objectInit ∈ Ts) (h3 : Cond.code objectInit ⟨#[0xb1]⟩ 1 none ∈ Ts) (d : decode cc pc = .ok (.invokespecial i, 3)) (hr : 1 ≤ rm.frames ∧ (st.map fun v => v.category).sum + 12 ≤ rm.locals) (K : GG E X k n (pc + 3) lv st ws) : GG E X k n pc lv (.ref a :: st) ws := by
  obtain ⟨l, D, cl, tys⟩ := E
  obtain ⟨p, e, R, s, m, args, below, meth, c, Q, A, nL⟩ := X
  obtain ⟨⟨hx, hb, hml, hown, hts⟩, hK, hA, hR, hL⟩ := F
  intro H locs ls hP hD hS hl
  subst hR
  exact W.objInit hx hb hown (hts _ h1) (hts _ h2) (hts _ h3) rfl (by rw [hml]; exact hl.1) rfl d hr.1 (by show 2 * 0 + _ + 12 ≤ _; omega) (K H locs ls hP hD hS hl)
theorem g_putF (F : Fx E X cc own Ts rm L) (hin2 : mname X = "<init>") (q0 : Nat) (kf : Nat) {C ref : String} {T : u_T} {N ci i a : Nat} {fs : List Value} {v : Value} {ty : FieldType} {ws2 : va_W} (hin : ∀ w ∈ u_ws C T N, w ∈ Ts) (ty0 : Nat → FieldType) (hty : ∀ k, k < N → parseFieldDescriptor (T k).2.2.1 = some (ty0 k)) (hnm : ∀ a, a < N → ∀ b, b < N → a ≠ b → (T a).2.1 ≠ (T b).2.1) (he : ws[q0]? = some (a, .inr (ci, fs))) (hc : (clOf E)[ci]? = some (C, T, N)) (hk : kf < N) (hl1 : Cond.fieldLink own i ref (T kf).2.1 (T kf).2.2.1 ∈ Ts) (href : (T kf).1 = ref) (hfin : (T kf).2.2.2 = true) (hdecl : (T kf).1 = own) (hd2 : parseFieldDescriptor (T kf).2.2.1 = some ty) (hn : narrow ty v = v) (hfit : fits ty v = true) (hlen : kf < fs.length) (d : decode cc pc = .ok (.putfield i, 3)) (hw : ws.set q0 (a, .inr (ci, fs.set kf v)) = ws2) (K : GG E X k n (pc + 3) lv st ws2) : GG E X k n pc lv (v :: .ref a :: st) ws := by
  obtain ⟨l, D, cl, tys⟩ := E
  obtain ⟨p, e, R, s, m, args, below, meth, c, Q, A, nL⟩ := X
  obtain ⟨⟨hx, hb, hml, hown, hts⟩, hK, hA, hR, hL⟩ := F
  intro H locs ls hP hD hS hl
  subst href hw
  exact va_putF hx hb hts hin ty0 hty hnm hown hK hP hD hS q0 he hc kf hk (hts _ hl1) (fun _ h9 => h9) hfin hin2 hdecl hd2 hn hfit hlen d (fun H locs hP hD hS => K H locs ls hP hD hS hl)
theorem g_newa (F : Fx E X cc own Ts rm L) {atype : ArrayType} {ty : FieldType} (hty : newarray.typeOf atype = ty) (harr : Cond.arrayClass ty ∈ Ts) (t0 : Nat) {cA : ClassId} (ht : (tysOf E)[t0]? = some (cA, ty)) (hprim : ∀ (U : State) (c : ClassId), va_RA U c ty → U.vm.findClass ("[" ++ ty.toString) = some c) {N' : Nat} (hN : N' < 2 ^ 31) (a0 : vp_A) (ha : ∀ cA : ClassId, vp_cell cA a0 = arrV cA N' (fun _ => defaultValue ty)) (hbytes : N' * componentBytes ty ≤ 536870912) (hcells : k + 1 ≤ rm.cells) (hslots : n + N' ≤ rm.slots) (d : decode cc pc = .ok (.newarray atype, 2)) (K : ∀ q : Nat, GG E X (k + 1) (n + N') (pc + 2) lv (.ref q :: st) (ws ++ [(q, .inl (cA, a0))])) : GG E X k n pc lv (.int (nI N') :: st) ws := by
  obtain ⟨l, D, cl, tys⟩ := E
  obtain ⟨p, e, R, s, m, args, below, meth, c, Q, A, nL⟩ := X
  obtain ⟨⟨hx, hb, hml, hown, hts⟩, hK, hA, hR, hL⟩ := F
  intro H locs ls hP hD hS hl
  subst hR
  refine va_newa hx hb (by rw [hty]; exact hts _ harr) hty hK hP hD hS hA ha (nI_pos hN) (nI_clamp hN) hbytes hcells hslots d (fun q cB H1 hK2 hP hD hS => ?_)
  have e1 := hprim s cB (hK2.2 tys.length (cB, ty) (by simp)).2
  have e2 := hprim s cA (hK.2 t0 (cA, ty) ht).2
  have e3 : cB = cA := Option.some.inj (e1.symm.trans e2)
  subst e3
  exact K q H1 locs ls hP hD hS hl
theorem g_new (F : Fx E X cc own Ts rm L) {C : String} {T : u_T} {N ci i : Nat} (hin : ∀ w ∈ u_ws C T N, w ∈ Ts) (ty : Nat → FieldType) (hty : ∀ k, k < N → parseFieldDescriptor (T k).2.2.1 = some (ty k)) (h1 : Cond.classLink own i C ∈ Ts) (h2 : Cond.instantiable C N ∈ Ts) (h3 : Cond.initialized C ∈ Ts) (hc : (clOf E)[ci]? = some (C, T, N)) (fs : List Value) (hfs : ∀ j, j < N → defaultValue (ty j) = vp_V fs j) (hcells : k + 1 ≤ rm.cells) (hslots : n + N ≤ rm.slots) (d : decode cc pc = .ok (.new i, 3)) (K : ∀ q : Nat, GG E X (k + 1) (n + N) (pc + 3) lv (.ref q :: st) (ws ++ [(q, .inr (ci, fs))])) : GG E X k n pc lv st ws := by
  obtain ⟨l, D, cl, tys⟩ := E
  obtain ⟨p, e, R, s, m, args, below, meth, c, Q, A, nL⟩ := X
  obtain ⟨⟨hx, hb, hml, hown, hts⟩, hK, hA, hR, hL⟩ := F
  intro H locs ls hP hD hS hl
  subst hR
  exact va_new hx hb hts hin ty hty hown (hts _ h1) (hts _ h2) (hts _ h3) hK hP hD hS hA hc hfs hcells hslots d (fun q H1 hP hD hS => K q H1 locs ls hP hD hS hl)
/-- two worlds side by side change places -/
theorem g_swap {w1 w2 : va_W} (K : GG E X k n pc lv st (w2 ++ w1)) : GG E X k n pc lv st (w1 ++ w2) := by
  obtain ⟨l, D, cl, tys⟩ := E
  obtain ⟨p, e, R, s, m, args, below, meth, c, Q, A, nL⟩ := X
  intro H locs ls hP hD hS hl
  have hP1 : va_P D cl w1 H := fun k q hq => hP k q (by rw [List.getElem?_append_left (List.getElem?_eq_some_iff.mp hq).1]; exact hq)
  refine K H locs ls (va_P.app (P_right hP) hP1) (va_D.app (D_right hD) (D_left hD) (fun i j x y hx hy hxy => ?_)) hS hl
  have a1 := (List.getElem?_eq_some_iff.mp hy).1
  have := hD.1 j (w1.length + i) y x (by rw [List.getElem?_append_left a1]; exact hy) (by rw [List.getElem?_append_right (by omega)]; simpa using hx) hxy.symm
  omega
/-- a constructor's call -/
theorem g_callI (F : Fx E X cc own Ts rm L) {y : MethodName} {wsc ws' : List Cond} {rm2 : Room} {b : Nat} {rest : List Value} {wr w0 : va_W} {mc ms : Nat} {post : va_W → Prop} (hM : CtV E y wsc rm2 [.ref b] w0 mc ms post) {i : Nat} {bytes : ByteArray} {maxL : Nat} (hG : GoodIn Ts wsc) (hw : wsc = Cond.code y bytes maxL none :: ws') (h1 : Cond.initialized y.cls ∈ Ts) (h2 : Cond.methodLink own i y ∈ Ts) (h3 : Cond.instanceMethod y ∈ Ts) (hy : y.name = "<init>") (hd : y.cls ≠ "java/lang/invoke/MethodHandle" ∧ y.cls ≠ "java/lang/invoke/VarHandle" ∧ (parseMethodDescriptor y.desc).map (fun d => d.parameters.length) = some 0) (ho : rm2.frames + 1 ≤ rm.frames ∧ 8 + (maxL + 11) + rm2.locals ≤ rm.locals) (hroom : (rest.map fun v => v.category).sum ≤ 8) (hms : rm2.cells = mc ∧ rm2.slots = ms) (hf : k + mc ≤ rm.cells ∧ n + ms ≤ rm.slots) (d : decode cc pc = .ok (.invokespecial i, 3)) (K : ∀ u : va_W, post u → GG E X (k + mc) (n + ms) (pc + 3) lv rest (wr ++ u)) : GG E X k n pc lv (.ref b :: rest) (wr ++ w0) := by
  obtain ⟨l, D, cl, tys⟩ := E
  obtain ⟨p, e, R, s, m, args, below, meth, c, Q, A, nL⟩ := X
  obtain ⟨⟨hx, hb, hml, hown, hts⟩, hK, hA, hR, hL⟩ := F
  intro H locs ls hP hD hS hl
  subst hR
  have hFr := w_free hD hS hA
  refine va_callv (va_runI (As := []) (rest := rest) ⟨hx, hb, hml, hown, hts⟩ (hM H.size) (cwI 0 hts hG hw hms.1 hms.2 (hts _ h1) (hts _ h2) (hts _ h3) hy hd ho) ⟨fun a U g mk q => by obtain ⟨q0, q1, qP, qK, qD⟩ := q; exact ⟨q0, q1, qP, va_K.moved (u := U) (U := U.calling g mk a) (Vm.Alike.refl U.vm) qK, qD⟩, fun U hU hW => ⟨rfl, by rw [hU], by rw [hU]; exact P_right hP, va_K.moved hW.alike hK, (D_right hD).weaken (fun _ _ _ _ => trivial)⟩⟩ rfl rfl hl.1 rfl (lv_room hroom) d hf) hS (fun q _ h => w_free hD hS hA q h) (w_free hD hS hA) (fun u t H1 locs ht hvm hw hB hz1 hk1 hS => ?_)
  obtain ⟨hP1, hK1, hD1⟩ := hB
  rw [ht] at hP1
  obtain ⟨hP2, hD2⟩ := w_join hP hD hk1 hFr hP1 hD1
  exact K u hw H1 locs ls hP2 hD2 hS hl
/-- the script -/
def Scr (X : Cx) (b L : Nat) (xs : Nat → Int32) : Prop := match X with
  | (_, _, _, s, _, _, _, _, _, _, A, _) => va_X b L xs s s.heap ∧ b < s.heap.size ∧ ¬ A b
theorem g_sld (F : Fx E X cc own Ts rm L) {b N : Nat} {xs : Nat → Int32} (hX : Scr X b N xs) {j : Nat} (hj : j < N) (hN : N < 2 ^ 31) (d : decode cc pc = .ok (.iaload, 1)) (K : GG E X k n (pc + 1) lv (.int (xs j) :: st) ws) : GG E X k n pc lv (.int (nI j) :: .ref b :: st) ws := by
  obtain ⟨l, D, cl, tys⟩ := E
  obtain ⟨p, e, R, s, m, args, below, meth, c, Q, A, nL⟩ := X
  obtain ⟨⟨hx, hb, hml, hown, hts⟩, hK, hA, hR, hL⟩ := F
  intro H locs ls hP hD hS hl
  have e1 := nI_clamp (n := j) (by omega)
  have h1 := K H locs ls hP hD hS hl
  rw [← e1] at h1
  exact va_sld hx hb hX.1 hX.2.1 hX.2.2 hS (vp_in_nI hj hN) d h1
theorem g_slen (F : Fx E X cc own Ts rm L) {b N : Nat} {xs : Nat → Int32} (hX : Scr X b N xs) (d : decode cc pc = .ok (.arraylength, 1)) (K : GG E X k n (pc + 1) lv (.int (nI N) :: st) ws) : GG E X k n pc lv (.ref b :: st) ws := by
  obtain ⟨l, D, cl, tys⟩ := E
  obtain ⟨p, e, R, s, m, args, below, meth, c, Q, A, nL⟩ := X
  obtain ⟨⟨hx, hb, hml, hown, hts⟩, hK, hA, hR, hL⟩ := F
  intro H locs ls hP hD hS hl
  exact va_slen hx hb hX.1 hX.2.1 hX.2.2 hS d (K H locs ls hP hD hS hl)
end GN
theorem CtV.ofI {E : En} {y : MethodName} {Ts Ts' : List Cond} {rm : Room} {As : List Value} {w0 : va_W} {mc ms : Nat} {post : va_W → Prop} {cc : ByteArray} {L : Nat} (hy : plainName y.cls = true) (hn : y.name = "<init>") (hw : Ts = Cond.code y cc L none :: Ts') (hlen : (lg_sl As).length ≤ L)
    (body : ∀ X : Cx, Fx E X cc y.cls Ts rm L → mname X = "<init>" → RtV E X mc ms cc post → GG E X 0 0 0 (lv_args 0 As) [] w0) : CtV E y Ts rm As w0 mc ms post := by
  intro sz
  obtain ⟨l, D, cl, tys⟩ := E
  refine Met.ofW (cc := cc) (maxL := L) (ret := none) hy hw ?_
  intro p e s m args below meth c s₁ B hml hv
  obtain ⟨rfl, hsz, hP, hK, hD0⟩ := hv
  have hx := B.exec
  have hb := B.bytes
  have hr := B.returns
  have hts := atoms_spec (ws := Ts) B.pre
  have hown : s.vm.findClass y.cls = some m.cls := findClass_of_methodNamed B.named
  have hlocks := B.notSynchronized
  have hin : meth.name = "<init>" := (name_of_methodNamed B.named B.method).1.trans hn
  subst hsz
  have hD := hD0.self (sz := s.heap.size)
  have hA : ∀ q : Nat, s.heap.size ≤ q → va_A w0 s.heap.size q := fun q h => Or.inr h
  have hl := lv_entry As (n := L) hlen
  rw [lg_entry_eq]
  refine body (p, e, (headSpec Ts rm).room, s, m, As.toArray, below, meth, c, _, va_A w0 s.heap.size, L) ⟨⟨hx, hb, hml, hown, hts⟩, hK, hA, rfl, rfl⟩ hin ?_ s.heap [] _ hP hD va_S.rf hl
  intro pc lv ws d hp H locs ls hP hD hS hl
  exact W.vret hx hb hr (fun t ht hW => ⟨⟨ws, rfl, hp, by rw [ht]; exact hP, va_K.moved hW.alike hK, hD⟩, hS.F ht⟩) hS.2.2 d
