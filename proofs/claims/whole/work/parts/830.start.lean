theorem arrK {args : Array Value} {s : State} {ty : FieldType} (h : (Cond.arrayClass ty).before args s = true) (hp : ∀ (c : ClassId), s.vm.findClass ("[" ++ ty.toString) = some c → va_RA s c ty) : ∃ cA : ClassId, ArrOfT s cA ty ∧ va_RA s cA ty := by
  obtain ⟨c, k, comp, h1, h2, h3⟩ := Cond.arrayClass_spec h
  exact ⟨c, fun n z => ⟨fun k h => (by cases h), k, h2, comp, h3⟩, hp c h1⟩
theorem goodI {c0 : Cond} {y : MethodName} {b : ByteArray} {L : Nat} {r : Option FieldType} (h5 : Cond.code y b L r ∈ wsL_law) : GoodIn (c0 :: wsL_law) (Cond.code y b L r :: wsL_law) := fun w hw => by
  have key : w ∈ wsL_law := by
    rcases List.mem_cons.mp hw with rfl | hw
    · exact h5
    · exact hw
  exact ⟨List.mem_cons_of_mem _ key, allGood w key⟩
set_option maxHeartbeats 8000000 in
set_option maxRecDepth 100000 in
theorem law_start {l : Launch} {D : va_G} {t : Ty3} {X : Cx} {b L : Nat} {xs : Nat → Int32} (hL : L ≤ 2048) (F : Fx (EE l D t) X cL_law RL (cw0 :: wsL_law) room_1 4) (hS : Scr X b L xs) (hret : ∀ (pc : Nat) (lv : List (Nat × Value)) (ws : va_W), decode cL_law pc = .ok (.ireturn, 1) → GG (EE l D t) X 21 2310 pc lv [.int 1] ws) : GG (EE l D t) X 0 0 0 [(0, .ref b)] [] [] := by
  refine g_new F (ci := 0) (C := RX0) (T := TX0) (N := 17) (fun w h => List.mem_cons_of_mem _ (inlX0 w h)) tyX0 tyX0_ok (List.mem_cons_of_mem _ mw1_0) (List.mem_cons_of_mem _ mw1_1) (List.mem_cons_of_mem _ mw1_2) rfl [.null, .null, .null, .int 0, .long 0, .int 0, .null, .null, .int 0, .long 0, .int 0, .null, .int 0, .null, .null, .null, .null] (fun j hj => by rcases (show j = 0 ∨ j = 1 ∨ j = 2 ∨ j = 3 ∨ j = 4 ∨ j = 5 ∨ j = 6 ∨ j = 7 ∨ j = 8 ∨ j = 9 ∨ j = 10 ∨ j = 11 ∨ j = 12 ∨ j = 13 ∨ j = 14 ∨ j = 15 ∨ j = 16 by omega) with rfl | rfl | rfl | rfl | rfl | rfl | rfl | rfl | rfl | rfl | rfl | rfl | rfl | rfl | rfl | rfl | rfl <;> rfl) (by decide) (by decide) dL_law_0 (fun q0 => ?_)
  show GG (EE l D t) X 1 17 3 [(0, .ref b)] [.ref q0] ([] ++ [(q0, .inr (0, [.null, .null, .null, .int 0, .long 0, .int 0, .null, .null, .int 0, .long 0, .int 0, .null, .int 0, .null, .null, .null, .null]))])
  refine g_dup F dL_law_3 rfl ?_
  refine g_callI F (wr := []) (cX_init q0) (bytes := cX0_init) (maxL := 1) (goodI mw1_9) rfl (List.mem_cons_of_mem _ mw1_2) (List.mem_cons_of_mem _ mw1_7) (List.mem_cons_of_mem _ mw1_8) rfl (by decide +kernel) ⟨by decide, by decide⟩ (Nat.le_of_ble_eq_true rfl) ⟨rfl, rfl⟩ ⟨by decide, by decide⟩ dL_law_4 (fun u1 hu1 => ?_)
  obtain ⟨a1, rfl, hX⟩ := hu1
  show GG (EE l D t) X 11 1217 7 [(0, .ref b)] [.ref (a1 0)] u1
  refine g_astore_n (lv2 := [(0, .ref b), (1, .ref (a1 0))]) F dL_law_7 rfl (by decide) rfl ?_
  refine g_new F (ci := 1) (C := RX1) (T := TX1) (N := 13) (fun w h => List.mem_cons_of_mem _ (inlX1 w h)) tyX1 tyX1_ok (List.mem_cons_of_mem _ mw1_3) (List.mem_cons_of_mem _ mw1_4) (List.mem_cons_of_mem _ mw1_5) rfl [.null, .null, .null, .null, .int 0, .long 0, .int 0, .null, .null, .int 0, .null, .null, .null] (fun j hj => by rcases (show j = 0 ∨ j = 1 ∨ j = 2 ∨ j = 3 ∨ j = 4 ∨ j = 5 ∨ j = 6 ∨ j = 7 ∨ j = 8 ∨ j = 9 ∨ j = 10 ∨ j = 11 ∨ j = 12 by omega) with rfl | rfl | rfl | rfl | rfl | rfl | rfl | rfl | rfl | rfl | rfl | rfl | rfl <;> rfl) (by decide) (by decide) dL_law_8 (fun q1 => ?_)
  show GG (EE l D t) X 12 1230 11 [(0, .ref b), (1, .ref (a1 0))] [.ref q1] (u1 ++ [(q1, .inr (1, [.null, .null, .null, .null, .int 0, .long 0, .int 0, .null, .null, .int 0, .null, .null, .null]))])
  refine g_dup F dL_law_11 rfl ?_
  refine g_callI F (wr := u1) (cM_init q1) (bytes := cX1_init) (maxL := 1) (goodI mw2_11) rfl (List.mem_cons_of_mem _ mw1_5) (List.mem_cons_of_mem _ mw2_9) (List.mem_cons_of_mem _ mw2_10) rfl (by decide +kernel) ⟨by decide, by decide⟩ (Nat.le_of_ble_eq_true rfl) ⟨rfl, rfl⟩ ⟨by decide, by decide⟩ dL_law_12 (fun u2 hu2 => ?_)
  obtain ⟨a2, rfl, hM⟩ := hu2
  show GG (EE l D t) X 21 2310 15 [(0, .ref b), (1, .ref (a1 0))] [.ref (a2 0)] (u1 ++ u2)
  refine g_astore_n (lv2 := [(0, .ref b), (1, .ref (a1 0)), (2, .ref (a2 0))]) F dL_law_15 rfl (by decide) rfl ?_
  refine g_iconst F (nI 0) dL_law_16 (by decide) ?_
  refine g_istore_n (lv2 := [(0, .ref b), (1, .ref (a1 0)), (2, .ref (a2 0)), (3, .int (nI 0))]) F dL_law_17 rfl (by decide) rfl ?_
  exact law_loop hL F hS hret (L + 8) 0 V0 u1 u2 (by omega) (by omega) hX hM
set_option maxHeartbeats 4000000 in
set_option maxRecDepth 100000 in
/-- THE LAW, from its entry -/
theorem whole_start {p : Program} {e : Env} {s : State} {m : MethodId} {below : List Frame} {meth : Method} {c : Code} (l : Launch) {b L : Nat} {xs : Nat → Int32} (hL : L ≤ 2048) (C0 : lw_At p s m meth c b L xs) : W p l e room_1 s m #[Value.ref b] below meth c s.heap [] 0 0 (lw_Z below #[Value.ref b] s) (entryFrame m ([Value.ref b] : List Value).toArray 4) := by
  obtain ⟨hx, hb, hr, hml, hown, hts, hX, hbl, hlocks, hgv⟩ := C0
  have htw : ∀ w ∈ wsL_law, w.before #[Value.ref b] s = true := fun w h => hts w (wsL_law_in w h)
  obtain ⟨c0, iS0, hKn0⟩ := u_known (C := RX0) (T := TX0) (N := 17) (n := 17) htw inlX0 (htw _ mw1_1)
  obtain ⟨c1, iS1, hKn1⟩ := u_known (C := RX1) (T := TX1) (N := 13) (n := 13) htw inlX1 (htw _ mw1_4)
  obtain ⟨cI, hI1, hI2⟩ := arrK (htw _ mw1_13) (fun _ h => h)
  obtain ⟨cL, hL1, hL2⟩ := arrK (htw _ mw2_2) (fun _ h => h)
  obtain ⟨cZ, hZ1, hZ2⟩ := arrK (htw _ mw1_20) (fun _ h => h)
  obtain ⟨dC, dI0, hKc⟩ : ∃ (dC : Nat → ClassId) (dI0 : Nat → Nat → Nat), ∀ (k : Nat) (q : vw_C), vwCl[k]? = some q → u_Kn s q.1 q.2.1 q.2.2 (dC k) (dI0 k) := by
    refine ⟨fun k => if k = 0 then c0 else c1, fun k => if k = 0 then iS0 else iS1, ?_⟩
    intro k q hq
    match k, hq with
    | 0, hq => cases hq; exact hKn0
    | 1, hq => cases hq; exact hKn1
    | k + 2, hq => simp [vwCl] at hq
  have hK : va_K (dC, dI0) vwCl [(cI, .int), (cL, .long), (cZ, .boolean)] s := ⟨hKc, fun k q h => by
    match k, h with
    | 0, h => cases h; exact ⟨hI1, hI2⟩
    | 1, h => cases h; exact ⟨hL1, hL2⟩
    | 2, h => cases h; exact ⟨hZ1, hZ2⟩
    | k + 3, h => simp at h⟩
  have hl := lv_entry ([.ref b]) (n := 4) (Nat.le_of_ble_eq_true rfl)
  rw [lg_entry_eq]
  refine law_start (l := l) (D := (dC, dI0)) (t := (cI, cL, cZ)) (X := (p, e, room_1, s, m, #[Value.ref b], below, meth, c, lw_Z below #[Value.ref b] s, fun q => s.heap.size ≤ q, 4)) (b := b) (L := L) (xs := xs) hL ⟨⟨hx, hb, hml, hown, fun w h => ?_⟩, hK, fun _ h => h, rfl, rfl⟩ ⟨hX, hbl, Nat.not_le.mpr hbl⟩ ?_ s.heap [] _ (fun k q h => by simp at h) ⟨fun i j p q h => by simp at h, fun k q h => by simp at h⟩ va_S.rf hl
  · rcases List.mem_cons.mp h with rfl | h
    · exact htw _ mw1_2
    · exact htw w h
  · intro pc lv ws d H locs ls hP hD hS hl
    refine va_forget (fun q hq => hS.2.2 q hq) ?_
    exact lw_ret hx hb hr hlocks d
