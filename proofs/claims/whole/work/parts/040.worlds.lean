/-! The worlds: an object and its rows, in numbers. -/
def b2 : Bool → Int32
  | true => 1
  | false => 0
def oI : Option Nat → Int32
  | none => -1
  | some k => nI k
def oL : Option Nat → Int64
  | none => -1
  | some k => lN k
def up {α : Type} (f : Nat → α) (k : Nat) (v : α) : Nat → α := fun j => if j = k then v else f j
theorem up_s {α : Type} {f : Nat → α} {k : Nat} {v : α} : up f k v k = v := if_pos rfl
theorem up_n {α : Type} {f : Nat → α} {k j : Nat} {v : α} (h : j ≠ k) : up f k v j = f j := if_neg h
theorem upd_up {α : Type} (g : α → Int32) (f : Nat → α) (k : Nat) (v : α) : upd (fun j => g (f j)) k (g v) = fun j => g (up f k v j) := by
  funext j
  unfold upd up
  by_cases h : j = k
  · rw [if_pos h, if_pos h]
  · rw [if_neg h, if_neg h]
theorem upd_upR (f : Nat → Int32) (k : Nat) (v : Int32) : upd f k v = up f k v := rfl
theorem updL_up {α : Type} (g : α → Int64) (f : Nat → α) (k : Nat) (v : α) : vp_updL (fun j => g (f j)) k (g v) = fun j => g (up f k v j) := by
  funext j
  unfold vp_updL up
  by_cases h : j = k
  · rw [if_pos h, if_pos h]
  · rw [if_neg h, if_neg h]
theorem nar_b2 (b : Bool) : vp_nar .boolean (b2 b) = b2 b := by cases b <;> decide
theorem narrow_b2 (b : Bool) : narrow .boolean (.int (b2 b)) = .int (b2 b) := by cases b <;> rfl
theorem fits_b2 (b : Bool) : fits .boolean (.int (b2 b)) = true := by cases b <;> decide
abbrev Ty3 : Type := ClassId × ClassId × ClassId
abbrev EE (l : Launch) (D : va_G) (t : Ty3) : En := (l, D, vwCl, [(t.1, .int), (t.2.1, .long), (t.2.2, .boolean)])
def WX (a : Nat → Nat) (t : Ty3) (w : Nat → Nat) (x : Nat → Int32) (y : Nat → Int32) (wy : Nat) (re : Nat) (de : Nat) (co : Nat → Bool) (cr : Nat → Option Nat) (cc : Nat) (sr : Nat) (so : Bool) (cf : Nat → Option Nat) (ck : Bool) (ng : Nat → Nat) (nw : Nat → Nat) (cs : Nat → Nat) (se : Nat → Bool) : va_W := [(a 0, .inr (0, [.ref (a 1), .ref (a 2), .ref (a 3), .int (nI wy), .long (lN re), .int (nI de), .ref (a 4), .ref (a 5), .int (nI cc), .long (lN sr), .int (b2 so), .ref (a 6), .int (b2 ck), .ref (a 7), .ref (a 8), .ref (a 9), .ref (a 10)])), (a 1, .inl (t.1, 120, .inl (fun i => nI (w i)))), (a 2, .inl (t.1, 120, .inl (x))), (a 3, .inl (t.1, 120, .inl (y))), (a 4, .inl (t.2.2, 120, .inl (fun i => b2 (co i)))), (a 5, .inl (t.1, 120, .inl (fun i => oI (cr i)))), (a 6, .inl (t.2.1, 120, .inr (.inl (fun i => oL (cf i))))), (a 7, .inl (t.2.1, 120, .inr (.inl (fun i => lN (ng i))))), (a 8, .inl (t.1, 120, .inl (fun i => nI (nw i)))), (a 9, .inl (t.2.1, 120, .inr (.inl (fun i => lN (cs i))))), (a 10, .inl (t.2.2, 120, .inl (fun i => b2 (se i))))]
section GX
variable {l : Launch} {D : va_G} {X : Cx} {k n pc L : Nat} {lv : List (Nat × Value)} {st : List Value} {cc0 : ByteArray} {c0 : Cond} {rm : Room}
variable {a : Nat → Nat} {t : Ty3} {w : Nat → Nat} {x : Nat → Int32} {y : Nat → Int32} {wy : Nat} {re : Nat} {de : Nat} {co : Nat → Bool} {cr : Nat → Option Nat} {cc : Nat} {sr : Nat} {so : Bool} {cf : Nat → Option Nat} {ck : Bool} {ng : Nat → Nat} {nw : Nat → Nat} {cs : Nat → Nat} {se : Nat → Bool}
theorem gX_get_weights (F : Fx (EE l D t) X cc0 RX0 (c0 :: wsL_law) rm L) (d : decode cc0 pc = .ok (.getfield 9, 3)) (K : GG (EE l D t) X k n (pc + 3) lv (.ref (a 1) :: st) (WX a t w x y wy re de co cr cc sr so cf ck ng nw cs se)) : GG (EE l D t) X k n pc lv (.ref (a 0) :: st) (WX a t w x y wy re de co cr cc sr so cf ck ng nw cs se) :=
  g_get F 0 0 (C := RX0) (T := TX0) (N := 17) (fun w h => List.mem_cons_of_mem _ (inlX0 w h)) rfl rfl (by decide) (List.mem_cons_of_mem _ mw1_14) rfl rfl d K
theorem gX_ld_weights (F : Fx (EE l D t) X cc0 RX0 (c0 :: wsL_law) rm L) {j : Nat} (hj : j < 120) (d : decode cc0 pc = .ok (.iaload, 1)) (K : GG (EE l D t) X k n (pc + 1) lv (.int (nI (w j)) :: st) (WX a t w x y wy re de co cr cc sr so cf ck ng nw cs se)) : GG (EE l D t) X k n pc lv (.int (nI j) :: .ref (a 1) :: st) (WX a t w x y wy re de co cr cc sr so cf ck ng nw cs se) :=
  g_iald F 1 0 (f := fun i => nI (w i)) rfl rfl hj (by decide) d K
theorem gX_st_weights (F : Fx (EE l D t) X cc0 RX0 (c0 :: wsL_law) rm L) {j : Nat} {e : Nat} (hj : j < 120) (d : decode cc0 pc = .ok (.iastore, 1)) (K : GG (EE l D t) X k n (pc + 1) lv st (WX a t (up w j e) x y wy re de co cr cc sr so cf ck ng nw cs se)) : GG (EE l D t) X k n pc lv (.int (nI e) :: .int (nI j) :: .ref (a 1) :: st) (WX a t w x y wy re de co cr cc sr so cf ck ng nw cs se) := by
  refine g_iast F 1 0 (f := fun i => nI (w i)) rfl rfl hj (by decide) d (ws2 := WX a t (up w j e) x y wy re de co cr cc sr so cf ck ng nw cs se) ?_ K
  have h : upd (fun i => nI (w i)) j (nI e) = fun i => nI (up w j e i) := upd_up nI w j e
  unfold WX
  exact congrArg (fun z => List.set (WX a t w x y wy re de co cr cc sr so cf ck ng nw cs se) 1 (a 1, .inl (t.1, 120, .inl z))) h
theorem gX_get_xs (F : Fx (EE l D t) X cc0 RX0 (c0 :: wsL_law) rm L) (d : decode cc0 pc = .ok (.getfield 13, 3)) (K : GG (EE l D t) X k n (pc + 3) lv (.ref (a 2) :: st) (WX a t w x y wy re de co cr cc sr so cf ck ng nw cs se)) : GG (EE l D t) X k n pc lv (.ref (a 0) :: st) (WX a t w x y wy re de co cr cc sr so cf ck ng nw cs se) :=
  g_get F 0 1 (C := RX0) (T := TX0) (N := 17) (fun w h => List.mem_cons_of_mem _ (inlX0 w h)) rfl rfl (by decide) (List.mem_cons_of_mem _ mw1_15) rfl rfl d K
theorem gX_ld_xs (F : Fx (EE l D t) X cc0 RX0 (c0 :: wsL_law) rm L) {j : Nat} (hj : j < 120) (d : decode cc0 pc = .ok (.iaload, 1)) (K : GG (EE l D t) X k n (pc + 1) lv (.int (x j) :: st) (WX a t w x y wy re de co cr cc sr so cf ck ng nw cs se)) : GG (EE l D t) X k n pc lv (.int (nI j) :: .ref (a 2) :: st) (WX a t w x y wy re de co cr cc sr so cf ck ng nw cs se) :=
  g_iald F 2 0 (f := x) rfl rfl hj (by decide) d K
theorem gX_st_xs (F : Fx (EE l D t) X cc0 RX0 (c0 :: wsL_law) rm L) {j : Nat} {e : Int32} (hj : j < 120) (d : decode cc0 pc = .ok (.iastore, 1)) (K : GG (EE l D t) X k n (pc + 1) lv st (WX a t w (up x j e) y wy re de co cr cc sr so cf ck ng nw cs se)) : GG (EE l D t) X k n pc lv (.int e :: .int (nI j) :: .ref (a 2) :: st) (WX a t w x y wy re de co cr cc sr so cf ck ng nw cs se) := by
  refine g_iast F 2 0 (f := x) rfl rfl hj (by decide) d (ws2 := WX a t w (up x j e) y wy re de co cr cc sr so cf ck ng nw cs se) ?_ K
  have h : upd (x) j e = up x j e := upd_upR _ _ _
  unfold WX
  exact congrArg (fun z => List.set (WX a t w x y wy re de co cr cc sr so cf ck ng nw cs se) 2 (a 2, .inl (t.1, 120, .inl z))) h
theorem gX_get_ys (F : Fx (EE l D t) X cc0 RX0 (c0 :: wsL_law) rm L) (d : decode cc0 pc = .ok (.getfield 16, 3)) (K : GG (EE l D t) X k n (pc + 3) lv (.ref (a 3) :: st) (WX a t w x y wy re de co cr cc sr so cf ck ng nw cs se)) : GG (EE l D t) X k n pc lv (.ref (a 0) :: st) (WX a t w x y wy re de co cr cc sr so cf ck ng nw cs se) :=
  g_get F 0 2 (C := RX0) (T := TX0) (N := 17) (fun w h => List.mem_cons_of_mem _ (inlX0 w h)) rfl rfl (by decide) (List.mem_cons_of_mem _ mw1_16) rfl rfl d K
theorem gX_ld_ys (F : Fx (EE l D t) X cc0 RX0 (c0 :: wsL_law) rm L) {j : Nat} (hj : j < 120) (d : decode cc0 pc = .ok (.iaload, 1)) (K : GG (EE l D t) X k n (pc + 1) lv (.int (y j) :: st) (WX a t w x y wy re de co cr cc sr so cf ck ng nw cs se)) : GG (EE l D t) X k n pc lv (.int (nI j) :: .ref (a 3) :: st) (WX a t w x y wy re de co cr cc sr so cf ck ng nw cs se) :=
  g_iald F 3 0 (f := y) rfl rfl hj (by decide) d K
theorem gX_st_ys (F : Fx (EE l D t) X cc0 RX0 (c0 :: wsL_law) rm L) {j : Nat} {e : Int32} (hj : j < 120) (d : decode cc0 pc = .ok (.iastore, 1)) (K : GG (EE l D t) X k n (pc + 1) lv st (WX a t w x (up y j e) wy re de co cr cc sr so cf ck ng nw cs se)) : GG (EE l D t) X k n pc lv (.int e :: .int (nI j) :: .ref (a 3) :: st) (WX a t w x y wy re de co cr cc sr so cf ck ng nw cs se) := by
  refine g_iast F 3 0 (f := y) rfl rfl hj (by decide) d (ws2 := WX a t w x (up y j e) wy re de co cr cc sr so cf ck ng nw cs se) ?_ K
  have h : upd (y) j e = up y j e := upd_upR _ _ _
  unfold WX
  exact congrArg (fun z => List.set (WX a t w x y wy re de co cr cc sr so cf ck ng nw cs se) 3 (a 3, .inl (t.1, 120, .inl z))) h
theorem gX_get_wayNow (F : Fx (EE l D t) X cc0 RX0 (c0 :: wsL_law) rm L) (d : decode cc0 pc = .ok (.getfield 19, 3)) (K : GG (EE l D t) X k n (pc + 3) lv (.int (nI wy) :: st) (WX a t w x y wy re de co cr cc sr so cf ck ng nw cs se)) : GG (EE l D t) X k n pc lv (.ref (a 0) :: st) (WX a t w x y wy re de co cr cc sr so cf ck ng nw cs se) :=
  g_get F 0 3 (C := RX0) (T := TX0) (N := 17) (fun w h => List.mem_cons_of_mem _ (inlX0 w h)) rfl rfl (by decide) (List.mem_cons_of_mem _ mw1_17) rfl rfl d K
theorem gX_put_wayNow (F : Fx (EE l D t) X cc0 RX0 (c0 :: wsL_law) rm L) {wy2 : Nat} (d : decode cc0 pc = .ok (.putfield 19, 3)) (K : GG (EE l D t) X k n (pc + 3) lv st (WX a t w x y wy2 re de co cr cc sr so cf ck ng nw cs se)) : GG (EE l D t) X k n pc lv (.int (nI wy2) :: .ref (a 0) :: st) (WX a t w x y wy re de co cr cc sr so cf ck ng nw cs se) :=
  g_put F 0 3 (C := RX0) (T := TX0) (N := 17) (ty := .int) (fun w h => List.mem_cons_of_mem _ (inlX0 w h)) tyX0 tyX0_ok nmX0 rfl rfl (by decide) (List.mem_cons_of_mem _ mw1_17) rfl rfl (by decide +kernel) rfl rfl (by simp) d rfl K
theorem gX_get_reachNow (F : Fx (EE l D t) X cc0 RX0 (c0 :: wsL_law) rm L) (d : decode cc0 pc = .ok (.getfield 23, 3)) (K : GG (EE l D t) X k n (pc + 3) lv (.long (lN re) :: st) (WX a t w x y wy re de co cr cc sr so cf ck ng nw cs se)) : GG (EE l D t) X k n pc lv (.ref (a 0) :: st) (WX a t w x y wy re de co cr cc sr so cf ck ng nw cs se) :=
  g_get F 0 4 (C := RX0) (T := TX0) (N := 17) (fun w h => List.mem_cons_of_mem _ (inlX0 w h)) rfl rfl (by decide) (List.mem_cons_of_mem _ mw1_18) rfl rfl d K
theorem gX_put_reachNow (F : Fx (EE l D t) X cc0 RX0 (c0 :: wsL_law) rm L) {re2 : Nat} (d : decode cc0 pc = .ok (.putfield 23, 3)) (K : GG (EE l D t) X k n (pc + 3) lv st (WX a t w x y wy re2 de co cr cc sr so cf ck ng nw cs se)) : GG (EE l D t) X k n pc lv (.long (lN re2) :: .ref (a 0) :: st) (WX a t w x y wy re de co cr cc sr so cf ck ng nw cs se) :=
  g_put F 0 4 (C := RX0) (T := TX0) (N := 17) (ty := .long) (fun w h => List.mem_cons_of_mem _ (inlX0 w h)) tyX0 tyX0_ok nmX0 rfl rfl (by decide) (List.mem_cons_of_mem _ mw1_18) rfl rfl (by decide +kernel) rfl rfl (by simp) d rfl K
theorem gX_get_demandNow (F : Fx (EE l D t) X cc0 RX0 (c0 :: wsL_law) rm L) (d : decode cc0 pc = .ok (.getfield 27, 3)) (K : GG (EE l D t) X k n (pc + 3) lv (.int (nI de) :: st) (WX a t w x y wy re de co cr cc sr so cf ck ng nw cs se)) : GG (EE l D t) X k n pc lv (.ref (a 0) :: st) (WX a t w x y wy re de co cr cc sr so cf ck ng nw cs se) :=
  g_get F 0 5 (C := RX0) (T := TX0) (N := 17) (fun w h => List.mem_cons_of_mem _ (inlX0 w h)) rfl rfl (by decide) (List.mem_cons_of_mem _ mw1_19) rfl rfl d K
theorem gX_put_demandNow (F : Fx (EE l D t) X cc0 RX0 (c0 :: wsL_law) rm L) {de2 : Nat} (d : decode cc0 pc = .ok (.putfield 27, 3)) (K : GG (EE l D t) X k n (pc + 3) lv st (WX a t w x y wy re de2 co cr cc sr so cf ck ng nw cs se)) : GG (EE l D t) X k n pc lv (.int (nI de2) :: .ref (a 0) :: st) (WX a t w x y wy re de co cr cc sr so cf ck ng nw cs se) :=
  g_put F 0 5 (C := RX0) (T := TX0) (N := 17) (ty := .int) (fun w h => List.mem_cons_of_mem _ (inlX0 w h)) tyX0 tyX0_ok nmX0 rfl rfl (by decide) (List.mem_cons_of_mem _ mw1_19) rfl rfl (by decide +kernel) rfl rfl (by simp) d rfl K
theorem gX_get_core (F : Fx (EE l D t) X cc0 RX0 (c0 :: wsL_law) rm L) (d : decode cc0 pc = .ok (.getfield 30, 3)) (K : GG (EE l D t) X k n (pc + 3) lv (.ref (a 4) :: st) (WX a t w x y wy re de co cr cc sr so cf ck ng nw cs se)) : GG (EE l D t) X k n pc lv (.ref (a 0) :: st) (WX a t w x y wy re de co cr cc sr so cf ck ng nw cs se) :=
  g_get F 0 6 (C := RX0) (T := TX0) (N := 17) (fun w h => List.mem_cons_of_mem _ (inlX0 w h)) rfl rfl (by decide) (List.mem_cons_of_mem _ mw1_21) rfl rfl d K
theorem gX_ld_core (F : Fx (EE l D t) X cc0 RX0 (c0 :: wsL_law) rm L) {j : Nat} (hj : j < 120) (d : decode cc0 pc = .ok (.baload, 1)) (K : GG (EE l D t) X k n (pc + 1) lv (.int (b2 (co j)) :: st) (WX a t w x y wy re de co cr cc sr so cf ck ng nw cs se)) : GG (EE l D t) X k n pc lv (.int (nI j) :: .ref (a 4) :: st) (WX a t w x y wy re de co cr cc sr so cf ck ng nw cs se) :=
  g_zald F 4 2 (f := fun i => b2 (co i)) rfl rfl hj (by decide) d K
theorem gX_st_core (F : Fx (EE l D t) X cc0 RX0 (c0 :: wsL_law) rm L) {j : Nat} {e : Bool} (hj : j < 120) (d : decode cc0 pc = .ok (.bastore, 1)) (K : GG (EE l D t) X k n (pc + 1) lv st (WX a t w x y wy re de (up co j e) cr cc sr so cf ck ng nw cs se)) : GG (EE l D t) X k n pc lv (.int (b2 e) :: .int (nI j) :: .ref (a 4) :: st) (WX a t w x y wy re de co cr cc sr so cf ck ng nw cs se) := by
  refine g_zast F 4 2 (f := fun i => b2 (co i)) rfl rfl hj (by decide) d (ws2 := WX a t w x y wy re de (up co j e) cr cc sr so cf ck ng nw cs se) ?_ K
  have h : upd (fun i => b2 (co i)) j (vp_nar .boolean (b2 e)) = fun i => b2 (up co j e i) := (by rw [nar_b2]; exact upd_up b2 co j e)
  unfold WX
  exact congrArg (fun z => List.set (WX a t w x y wy re de co cr cc sr so cf ck ng nw cs se) 4 (a 4, .inl (t.2.2, 120, .inl z))) h
theorem gX_get_crowdOf (F : Fx (EE l D t) X cc0 RX0 (c0 :: wsL_law) rm L) (d : decode cc0 pc = .ok (.getfield 34, 3)) (K : GG (EE l D t) X k n (pc + 3) lv (.ref (a 5) :: st) (WX a t w x y wy re de co cr cc sr so cf ck ng nw cs se)) : GG (EE l D t) X k n pc lv (.ref (a 0) :: st) (WX a t w x y wy re de co cr cc sr so cf ck ng nw cs se) :=
  g_get F 0 7 (C := RX0) (T := TX0) (N := 17) (fun w h => List.mem_cons_of_mem _ (inlX0 w h)) rfl rfl (by decide) (List.mem_cons_of_mem _ mw1_22) rfl rfl d K
theorem gX_ld_crowdOf (F : Fx (EE l D t) X cc0 RX0 (c0 :: wsL_law) rm L) {j : Nat} (hj : j < 120) (d : decode cc0 pc = .ok (.iaload, 1)) (K : GG (EE l D t) X k n (pc + 1) lv (.int (oI (cr j)) :: st) (WX a t w x y wy re de co cr cc sr so cf ck ng nw cs se)) : GG (EE l D t) X k n pc lv (.int (nI j) :: .ref (a 5) :: st) (WX a t w x y wy re de co cr cc sr so cf ck ng nw cs se) :=
  g_iald F 5 0 (f := fun i => oI (cr i)) rfl rfl hj (by decide) d K
theorem gX_st_crowdOf (F : Fx (EE l D t) X cc0 RX0 (c0 :: wsL_law) rm L) {j : Nat} {e : Option Nat} (hj : j < 120) (d : decode cc0 pc = .ok (.iastore, 1)) (K : GG (EE l D t) X k n (pc + 1) lv st (WX a t w x y wy re de co (up cr j e) cc sr so cf ck ng nw cs se)) : GG (EE l D t) X k n pc lv (.int (oI e) :: .int (nI j) :: .ref (a 5) :: st) (WX a t w x y wy re de co cr cc sr so cf ck ng nw cs se) := by
  refine g_iast F 5 0 (f := fun i => oI (cr i)) rfl rfl hj (by decide) d (ws2 := WX a t w x y wy re de co (up cr j e) cc sr so cf ck ng nw cs se) ?_ K
  have h : upd (fun i => oI (cr i)) j (oI e) = fun i => oI (up cr j e i) := upd_up oI cr j e
  unfold WX
  exact congrArg (fun z => List.set (WX a t w x y wy re de co cr cc sr so cf ck ng nw cs se) 5 (a 5, .inl (t.1, 120, .inl z))) h
theorem gX_get_crowdCount (F : Fx (EE l D t) X cc0 RX0 (c0 :: wsL_law) rm L) (d : decode cc0 pc = .ok (.getfield 37, 3)) (K : GG (EE l D t) X k n (pc + 3) lv (.int (nI cc) :: st) (WX a t w x y wy re de co cr cc sr so cf ck ng nw cs se)) : GG (EE l D t) X k n pc lv (.ref (a 0) :: st) (WX a t w x y wy re de co cr cc sr so cf ck ng nw cs se) :=
  g_get F 0 8 (C := RX0) (T := TX0) (N := 17) (fun w h => List.mem_cons_of_mem _ (inlX0 w h)) rfl rfl (by decide) (List.mem_cons_of_mem _ mw1_23) rfl rfl d K
theorem gX_put_crowdCount (F : Fx (EE l D t) X cc0 RX0 (c0 :: wsL_law) rm L) {cc2 : Nat} (d : decode cc0 pc = .ok (.putfield 37, 3)) (K : GG (EE l D t) X k n (pc + 3) lv st (WX a t w x y wy re de co cr cc2 sr so cf ck ng nw cs se)) : GG (EE l D t) X k n pc lv (.int (nI cc2) :: .ref (a 0) :: st) (WX a t w x y wy re de co cr cc sr so cf ck ng nw cs se) :=
  g_put F 0 8 (C := RX0) (T := TX0) (N := 17) (ty := .int) (fun w h => List.mem_cons_of_mem _ (inlX0 w h)) tyX0 tyX0_ok nmX0 rfl rfl (by decide) (List.mem_cons_of_mem _ mw1_23) rfl rfl (by decide +kernel) rfl rfl (by simp) d rfl K
theorem gX_get_sortedReach (F : Fx (EE l D t) X cc0 RX0 (c0 :: wsL_law) rm L) (d : decode cc0 pc = .ok (.getfield 40, 3)) (K : GG (EE l D t) X k n (pc + 3) lv (.long (lN sr) :: st) (WX a t w x y wy re de co cr cc sr so cf ck ng nw cs se)) : GG (EE l D t) X k n pc lv (.ref (a 0) :: st) (WX a t w x y wy re de co cr cc sr so cf ck ng nw cs se) :=
  g_get F 0 9 (C := RX0) (T := TX0) (N := 17) (fun w h => List.mem_cons_of_mem _ (inlX0 w h)) rfl rfl (by decide) (List.mem_cons_of_mem _ mw2_0) rfl rfl d K
theorem gX_put_sortedReach (F : Fx (EE l D t) X cc0 RX0 (c0 :: wsL_law) rm L) {sr2 : Nat} (d : decode cc0 pc = .ok (.putfield 40, 3)) (K : GG (EE l D t) X k n (pc + 3) lv st (WX a t w x y wy re de co cr cc sr2 so cf ck ng nw cs se)) : GG (EE l D t) X k n pc lv (.long (lN sr2) :: .ref (a 0) :: st) (WX a t w x y wy re de co cr cc sr so cf ck ng nw cs se) :=
  g_put F 0 9 (C := RX0) (T := TX0) (N := 17) (ty := .long) (fun w h => List.mem_cons_of_mem _ (inlX0 w h)) tyX0 tyX0_ok nmX0 rfl rfl (by decide) (List.mem_cons_of_mem _ mw2_0) rfl rfl (by decide +kernel) rfl rfl (by simp) d rfl K
theorem gX_get_sorted (F : Fx (EE l D t) X cc0 RX0 (c0 :: wsL_law) rm L) (d : decode cc0 pc = .ok (.getfield 43, 3)) (K : GG (EE l D t) X k n (pc + 3) lv (.int (b2 so) :: st) (WX a t w x y wy re de co cr cc sr so cf ck ng nw cs se)) : GG (EE l D t) X k n pc lv (.ref (a 0) :: st) (WX a t w x y wy re de co cr cc sr so cf ck ng nw cs se) :=
  g_get F 0 10 (C := RX0) (T := TX0) (N := 17) (fun w h => List.mem_cons_of_mem _ (inlX0 w h)) rfl rfl (by decide) (List.mem_cons_of_mem _ mw2_1) rfl rfl d K
theorem gX_put_sorted (F : Fx (EE l D t) X cc0 RX0 (c0 :: wsL_law) rm L) {so2 : Bool} (d : decode cc0 pc = .ok (.putfield 43, 3)) (K : GG (EE l D t) X k n (pc + 3) lv st (WX a t w x y wy re de co cr cc sr so2 cf ck ng nw cs se)) : GG (EE l D t) X k n pc lv (.int (b2 so2) :: .ref (a 0) :: st) (WX a t w x y wy re de co cr cc sr so cf ck ng nw cs se) :=
  g_put F 0 10 (C := RX0) (T := TX0) (N := 17) (ty := .boolean) (fun w h => List.mem_cons_of_mem _ (inlX0 w h)) tyX0 tyX0_ok nmX0 rfl rfl (by decide) (List.mem_cons_of_mem _ mw2_1) rfl rfl (by decide +kernel) (narrow_b2 so2) (fits_b2 so2) (by simp) d rfl K
theorem gX_get_coreFrom (F : Fx (EE l D t) X cc0 RX0 (c0 :: wsL_law) rm L) (d : decode cc0 pc = .ok (.getfield 47, 3)) (K : GG (EE l D t) X k n (pc + 3) lv (.ref (a 6) :: st) (WX a t w x y wy re de co cr cc sr so cf ck ng nw cs se)) : GG (EE l D t) X k n pc lv (.ref (a 0) :: st) (WX a t w x y wy re de co cr cc sr so cf ck ng nw cs se) :=
  g_get F 0 11 (C := RX0) (T := TX0) (N := 17) (fun w h => List.mem_cons_of_mem _ (inlX0 w h)) rfl rfl (by decide) (List.mem_cons_of_mem _ mw2_3) rfl rfl d K
theorem gX_ld_coreFrom (F : Fx (EE l D t) X cc0 RX0 (c0 :: wsL_law) rm L) {j : Nat} (hj : j < 120) (d : decode cc0 pc = .ok (.laload, 1)) (K : GG (EE l D t) X k n (pc + 1) lv (.long (oL (cf j)) :: st) (WX a t w x y wy re de co cr cc sr so cf ck ng nw cs se)) : GG (EE l D t) X k n pc lv (.int (nI j) :: .ref (a 6) :: st) (WX a t w x y wy re de co cr cc sr so cf ck ng nw cs se) :=
  g_lald F 6 1 (f := fun i => oL (cf i)) rfl rfl hj (by decide) d K
theorem gX_st_coreFrom (F : Fx (EE l D t) X cc0 RX0 (c0 :: wsL_law) rm L) {j : Nat} {e : Option Nat} (hj : j < 120) (d : decode cc0 pc = .ok (.lastore, 1)) (K : GG (EE l D t) X k n (pc + 1) lv st (WX a t w x y wy re de co cr cc sr so (up cf j e) ck ng nw cs se)) : GG (EE l D t) X k n pc lv (.long (oL e) :: .int (nI j) :: .ref (a 6) :: st) (WX a t w x y wy re de co cr cc sr so cf ck ng nw cs se) := by
  refine g_last F 6 1 (f := fun i => oL (cf i)) rfl rfl hj (by decide) d (ws2 := WX a t w x y wy re de co cr cc sr so (up cf j e) ck ng nw cs se) ?_ K
  have h : vp_updL (fun i => oL (cf i)) j (oL e) = fun i => oL (up cf j e i) := updL_up oL cf j e
  unfold WX
  exact congrArg (fun z => List.set (WX a t w x y wy re de co cr cc sr so cf ck ng nw cs se) 6 (a 6, .inl (t.2.1, 120, .inr (.inl z)))) h
theorem gX_get_coreFromKnown (F : Fx (EE l D t) X cc0 RX0 (c0 :: wsL_law) rm L) (d : decode cc0 pc = .ok (.getfield 51, 3)) (K : GG (EE l D t) X k n (pc + 3) lv (.int (b2 ck) :: st) (WX a t w x y wy re de co cr cc sr so cf ck ng nw cs se)) : GG (EE l D t) X k n pc lv (.ref (a 0) :: st) (WX a t w x y wy re de co cr cc sr so cf ck ng nw cs se) :=
  g_get F 0 12 (C := RX0) (T := TX0) (N := 17) (fun w h => List.mem_cons_of_mem _ (inlX0 w h)) rfl rfl (by decide) (List.mem_cons_of_mem _ mw2_4) rfl rfl d K
theorem gX_put_coreFromKnown (F : Fx (EE l D t) X cc0 RX0 (c0 :: wsL_law) rm L) {ck2 : Bool} (d : decode cc0 pc = .ok (.putfield 51, 3)) (K : GG (EE l D t) X k n (pc + 3) lv st (WX a t w x y wy re de co cr cc sr so cf ck2 ng nw cs se)) : GG (EE l D t) X k n pc lv (.int (b2 ck2) :: .ref (a 0) :: st) (WX a t w x y wy re de co cr cc sr so cf ck ng nw cs se) :=
  g_put F 0 12 (C := RX0) (T := TX0) (N := 17) (ty := .boolean) (fun w h => List.mem_cons_of_mem _ (inlX0 w h)) tyX0 tyX0_ok nmX0 rfl rfl (by decide) (List.mem_cons_of_mem _ mw2_4) rfl rfl (by decide +kernel) (narrow_b2 ck2) (fits_b2 ck2) (by simp) d rfl K
theorem gX_get_nearGap (F : Fx (EE l D t) X cc0 RX0 (c0 :: wsL_law) rm L) (d : decode cc0 pc = .ok (.getfield 54, 3)) (K : GG (EE l D t) X k n (pc + 3) lv (.ref (a 7) :: st) (WX a t w x y wy re de co cr cc sr so cf ck ng nw cs se)) : GG (EE l D t) X k n pc lv (.ref (a 0) :: st) (WX a t w x y wy re de co cr cc sr so cf ck ng nw cs se) :=
  g_get F 0 13 (C := RX0) (T := TX0) (N := 17) (fun w h => List.mem_cons_of_mem _ (inlX0 w h)) rfl rfl (by decide) (List.mem_cons_of_mem _ mw2_5) rfl rfl d K
theorem gX_ld_nearGap (F : Fx (EE l D t) X cc0 RX0 (c0 :: wsL_law) rm L) {j : Nat} (hj : j < 120) (d : decode cc0 pc = .ok (.laload, 1)) (K : GG (EE l D t) X k n (pc + 1) lv (.long (lN (ng j)) :: st) (WX a t w x y wy re de co cr cc sr so cf ck ng nw cs se)) : GG (EE l D t) X k n pc lv (.int (nI j) :: .ref (a 7) :: st) (WX a t w x y wy re de co cr cc sr so cf ck ng nw cs se) :=
  g_lald F 7 1 (f := fun i => lN (ng i)) rfl rfl hj (by decide) d K
theorem gX_st_nearGap (F : Fx (EE l D t) X cc0 RX0 (c0 :: wsL_law) rm L) {j : Nat} {e : Nat} (hj : j < 120) (d : decode cc0 pc = .ok (.lastore, 1)) (K : GG (EE l D t) X k n (pc + 1) lv st (WX a t w x y wy re de co cr cc sr so cf ck (up ng j e) nw cs se)) : GG (EE l D t) X k n pc lv (.long (lN e) :: .int (nI j) :: .ref (a 7) :: st) (WX a t w x y wy re de co cr cc sr so cf ck ng nw cs se) := by
  refine g_last F 7 1 (f := fun i => lN (ng i)) rfl rfl hj (by decide) d (ws2 := WX a t w x y wy re de co cr cc sr so cf ck (up ng j e) nw cs se) ?_ K
  have h : vp_updL (fun i => lN (ng i)) j (lN e) = fun i => lN (up ng j e i) := updL_up lN ng j e
  unfold WX
  exact congrArg (fun z => List.set (WX a t w x y wy re de co cr cc sr so cf ck ng nw cs se) 7 (a 7, .inl (t.2.1, 120, .inr (.inl z)))) h
theorem gX_get_nearWeight (F : Fx (EE l D t) X cc0 RX0 (c0 :: wsL_law) rm L) (d : decode cc0 pc = .ok (.getfield 57, 3)) (K : GG (EE l D t) X k n (pc + 3) lv (.ref (a 8) :: st) (WX a t w x y wy re de co cr cc sr so cf ck ng nw cs se)) : GG (EE l D t) X k n pc lv (.ref (a 0) :: st) (WX a t w x y wy re de co cr cc sr so cf ck ng nw cs se) :=
  g_get F 0 14 (C := RX0) (T := TX0) (N := 17) (fun w h => List.mem_cons_of_mem _ (inlX0 w h)) rfl rfl (by decide) (List.mem_cons_of_mem _ mw2_6) rfl rfl d K
theorem gX_ld_nearWeight (F : Fx (EE l D t) X cc0 RX0 (c0 :: wsL_law) rm L) {j : Nat} (hj : j < 120) (d : decode cc0 pc = .ok (.iaload, 1)) (K : GG (EE l D t) X k n (pc + 1) lv (.int (nI (nw j)) :: st) (WX a t w x y wy re de co cr cc sr so cf ck ng nw cs se)) : GG (EE l D t) X k n pc lv (.int (nI j) :: .ref (a 8) :: st) (WX a t w x y wy re de co cr cc sr so cf ck ng nw cs se) :=
  g_iald F 8 0 (f := fun i => nI (nw i)) rfl rfl hj (by decide) d K
theorem gX_st_nearWeight (F : Fx (EE l D t) X cc0 RX0 (c0 :: wsL_law) rm L) {j : Nat} {e : Nat} (hj : j < 120) (d : decode cc0 pc = .ok (.iastore, 1)) (K : GG (EE l D t) X k n (pc + 1) lv st (WX a t w x y wy re de co cr cc sr so cf ck ng (up nw j e) cs se)) : GG (EE l D t) X k n pc lv (.int (nI e) :: .int (nI j) :: .ref (a 8) :: st) (WX a t w x y wy re de co cr cc sr so cf ck ng nw cs se) := by
  refine g_iast F 8 0 (f := fun i => nI (nw i)) rfl rfl hj (by decide) d (ws2 := WX a t w x y wy re de co cr cc sr so cf ck ng (up nw j e) cs se) ?_ K
  have h : upd (fun i => nI (nw i)) j (nI e) = fun i => nI (up nw j e i) := upd_up nI nw j e
  unfold WX
  exact congrArg (fun z => List.set (WX a t w x y wy re de co cr cc sr so cf ck ng nw cs se) 8 (a 8, .inl (t.1, 120, .inl z))) h
theorem gX_get_cost (F : Fx (EE l D t) X cc0 RX0 (c0 :: wsL_law) rm L) (d : decode cc0 pc = .ok (.getfield 60, 3)) (K : GG (EE l D t) X k n (pc + 3) lv (.ref (a 9) :: st) (WX a t w x y wy re de co cr cc sr so cf ck ng nw cs se)) : GG (EE l D t) X k n pc lv (.ref (a 0) :: st) (WX a t w x y wy re de co cr cc sr so cf ck ng nw cs se) :=
  g_get F 0 15 (C := RX0) (T := TX0) (N := 17) (fun w h => List.mem_cons_of_mem _ (inlX0 w h)) rfl rfl (by decide) (List.mem_cons_of_mem _ mw2_7) rfl rfl d K
theorem gX_ld_cost (F : Fx (EE l D t) X cc0 RX0 (c0 :: wsL_law) rm L) {j : Nat} (hj : j < 120) (d : decode cc0 pc = .ok (.laload, 1)) (K : GG (EE l D t) X k n (pc + 1) lv (.long (lN (cs j)) :: st) (WX a t w x y wy re de co cr cc sr so cf ck ng nw cs se)) : GG (EE l D t) X k n pc lv (.int (nI j) :: .ref (a 9) :: st) (WX a t w x y wy re de co cr cc sr so cf ck ng nw cs se) :=
  g_lald F 9 1 (f := fun i => lN (cs i)) rfl rfl hj (by decide) d K
theorem gX_st_cost (F : Fx (EE l D t) X cc0 RX0 (c0 :: wsL_law) rm L) {j : Nat} {e : Nat} (hj : j < 120) (d : decode cc0 pc = .ok (.lastore, 1)) (K : GG (EE l D t) X k n (pc + 1) lv st (WX a t w x y wy re de co cr cc sr so cf ck ng nw (up cs j e) se)) : GG (EE l D t) X k n pc lv (.long (lN e) :: .int (nI j) :: .ref (a 9) :: st) (WX a t w x y wy re de co cr cc sr so cf ck ng nw cs se) := by
  refine g_last F 9 1 (f := fun i => lN (cs i)) rfl rfl hj (by decide) d (ws2 := WX a t w x y wy re de co cr cc sr so cf ck ng nw (up cs j e) se) ?_ K
  have h : vp_updL (fun i => lN (cs i)) j (lN e) = fun i => lN (up cs j e i) := updL_up lN cs j e
  unfold WX
  exact congrArg (fun z => List.set (WX a t w x y wy re de co cr cc sr so cf ck ng nw cs se) 9 (a 9, .inl (t.2.1, 120, .inr (.inl z)))) h
theorem gX_get_settled (F : Fx (EE l D t) X cc0 RX0 (c0 :: wsL_law) rm L) (d : decode cc0 pc = .ok (.getfield 63, 3)) (K : GG (EE l D t) X k n (pc + 3) lv (.ref (a 10) :: st) (WX a t w x y wy re de co cr cc sr so cf ck ng nw cs se)) : GG (EE l D t) X k n pc lv (.ref (a 0) :: st) (WX a t w x y wy re de co cr cc sr so cf ck ng nw cs se) :=
  g_get F 0 16 (C := RX0) (T := TX0) (N := 17) (fun w h => List.mem_cons_of_mem _ (inlX0 w h)) rfl rfl (by decide) (List.mem_cons_of_mem _ mw2_8) rfl rfl d K
theorem gX_ld_settled (F : Fx (EE l D t) X cc0 RX0 (c0 :: wsL_law) rm L) {j : Nat} (hj : j < 120) (d : decode cc0 pc = .ok (.baload, 1)) (K : GG (EE l D t) X k n (pc + 1) lv (.int (b2 (se j)) :: st) (WX a t w x y wy re de co cr cc sr so cf ck ng nw cs se)) : GG (EE l D t) X k n pc lv (.int (nI j) :: .ref (a 10) :: st) (WX a t w x y wy re de co cr cc sr so cf ck ng nw cs se) :=
  g_zald F 10 2 (f := fun i => b2 (se i)) rfl rfl hj (by decide) d K
theorem gX_st_settled (F : Fx (EE l D t) X cc0 RX0 (c0 :: wsL_law) rm L) {j : Nat} {e : Bool} (hj : j < 120) (d : decode cc0 pc = .ok (.bastore, 1)) (K : GG (EE l D t) X k n (pc + 1) lv st (WX a t w x y wy re de co cr cc sr so cf ck ng nw cs (up se j e))) : GG (EE l D t) X k n pc lv (.int (b2 e) :: .int (nI j) :: .ref (a 10) :: st) (WX a t w x y wy re de co cr cc sr so cf ck ng nw cs se) := by
  refine g_zast F 10 2 (f := fun i => b2 (se i)) rfl rfl hj (by decide) d (ws2 := WX a t w x y wy re de co cr cc sr so cf ck ng nw cs (up se j e)) ?_ K
  have h : upd (fun i => b2 (se i)) j (vp_nar .boolean (b2 e)) = fun i => b2 (up se j e i) := (by rw [nar_b2]; exact upd_up b2 se j e)
  unfold WX
  exact congrArg (fun z => List.set (WX a t w x y wy re de co cr cc sr so cf ck ng nw cs se) 10 (a 10, .inl (t.2.2, 120, .inl z))) h
end GX
def WM (a : Nat → Nat) (t : Ty3) (is : Nat → Bool) (x : Nat → Int32) (y : Nat → Int32) (w : Nat → Nat) (wy : Nat) (re : Nat) (de : Nat) (co : Nat → Bool) (cr : Nat → Option Nat) (cc : Nat) (dn : Nat → Bool) (cs : Nat → Option Nat) (df : Nat → Option Nat) : va_W := [(a 0, .inr (1, [.ref (a 1), .ref (a 2), .ref (a 3), .ref (a 4), .int (nI wy), .long (lN re), .int (nI de), .ref (a 5), .ref (a 6), .int (nI cc), .ref (a 7), .ref (a 8), .ref (a 9)])), (a 1, .inl (t.2.2, 120, .inl (fun i => b2 (is i)))), (a 2, .inl (t.1, 120, .inl (x))), (a 3, .inl (t.1, 120, .inl (y))), (a 4, .inl (t.1, 120, .inl (fun i => nI (w i)))), (a 5, .inl (t.2.2, 120, .inl (fun i => b2 (co i)))), (a 6, .inl (t.1, 120, .inl (fun i => oI (cr i)))), (a 7, .inl (t.2.2, 120, .inl (fun i => b2 (dn i)))), (a 8, .inl (t.2.1, 120, .inr (.inl (fun i => oL (cs i))))), (a 9, .inl (t.2.1, 120, .inr (.inl (fun i => oL (df i)))))]
section GM
variable {l : Launch} {D : va_G} {X : Cx} {k n pc L : Nat} {lv : List (Nat × Value)} {st : List Value} {cc0 : ByteArray} {c0 : Cond} {rm : Room}
variable {a : Nat → Nat} {t : Ty3} {is : Nat → Bool} {x : Nat → Int32} {y : Nat → Int32} {w : Nat → Nat} {wy : Nat} {re : Nat} {de : Nat} {co : Nat → Bool} {cr : Nat → Option Nat} {cc : Nat} {dn : Nat → Bool} {cs : Nat → Option Nat} {df : Nat → Option Nat}
theorem gM_get_is (F : Fx (EE l D t) X cc0 RX1 (c0 :: wsL_law) rm L) (d : decode cc0 pc = .ok (.getfield 7, 3)) (K : GG (EE l D t) X k n (pc + 3) lv (.ref (a 1) :: st) (WM a t is x y w wy re de co cr cc dn cs df)) : GG (EE l D t) X k n pc lv (.ref (a 0) :: st) (WM a t is x y w wy re de co cr cc dn cs df) :=
  g_get F 0 0 (C := RX1) (T := TX1) (N := 13) (fun w h => List.mem_cons_of_mem _ (inlX1 w h)) rfl rfl (by decide) (List.mem_cons_of_mem _ mw2_13) rfl rfl d K
theorem gM_ld_is (F : Fx (EE l D t) X cc0 RX1 (c0 :: wsL_law) rm L) {j : Nat} (hj : j < 120) (d : decode cc0 pc = .ok (.baload, 1)) (K : GG (EE l D t) X k n (pc + 1) lv (.int (b2 (is j)) :: st) (WM a t is x y w wy re de co cr cc dn cs df)) : GG (EE l D t) X k n pc lv (.int (nI j) :: .ref (a 1) :: st) (WM a t is x y w wy re de co cr cc dn cs df) :=
  g_zald F 1 2 (f := fun i => b2 (is i)) rfl rfl hj (by decide) d K
theorem gM_st_is (F : Fx (EE l D t) X cc0 RX1 (c0 :: wsL_law) rm L) {j : Nat} {e : Bool} (hj : j < 120) (d : decode cc0 pc = .ok (.bastore, 1)) (K : GG (EE l D t) X k n (pc + 1) lv st (WM a t (up is j e) x y w wy re de co cr cc dn cs df)) : GG (EE l D t) X k n pc lv (.int (b2 e) :: .int (nI j) :: .ref (a 1) :: st) (WM a t is x y w wy re de co cr cc dn cs df) := by
  refine g_zast F 1 2 (f := fun i => b2 (is i)) rfl rfl hj (by decide) d (ws2 := WM a t (up is j e) x y w wy re de co cr cc dn cs df) ?_ K
  have h : upd (fun i => b2 (is i)) j (vp_nar .boolean (b2 e)) = fun i => b2 (up is j e i) := (by rw [nar_b2]; exact upd_up b2 is j e)
  unfold WM
  exact congrArg (fun z => List.set (WM a t is x y w wy re de co cr cc dn cs df) 1 (a 1, .inl (t.2.2, 120, .inl z))) h
theorem gM_get_xs (F : Fx (EE l D t) X cc0 RX1 (c0 :: wsL_law) rm L) (d : decode cc0 pc = .ok (.getfield 13, 3)) (K : GG (EE l D t) X k n (pc + 3) lv (.ref (a 2) :: st) (WM a t is x y w wy re de co cr cc dn cs df)) : GG (EE l D t) X k n pc lv (.ref (a 0) :: st) (WM a t is x y w wy re de co cr cc dn cs df) :=
  g_get F 0 1 (C := RX1) (T := TX1) (N := 13) (fun w h => List.mem_cons_of_mem _ (inlX1 w h)) rfl rfl (by decide) (List.mem_cons_of_mem _ mw2_14) rfl rfl d K
theorem gM_ld_xs (F : Fx (EE l D t) X cc0 RX1 (c0 :: wsL_law) rm L) {j : Nat} (hj : j < 120) (d : decode cc0 pc = .ok (.iaload, 1)) (K : GG (EE l D t) X k n (pc + 1) lv (.int (x j) :: st) (WM a t is x y w wy re de co cr cc dn cs df)) : GG (EE l D t) X k n pc lv (.int (nI j) :: .ref (a 2) :: st) (WM a t is x y w wy re de co cr cc dn cs df) :=
  g_iald F 2 0 (f := x) rfl rfl hj (by decide) d K
theorem gM_st_xs (F : Fx (EE l D t) X cc0 RX1 (c0 :: wsL_law) rm L) {j : Nat} {e : Int32} (hj : j < 120) (d : decode cc0 pc = .ok (.iastore, 1)) (K : GG (EE l D t) X k n (pc + 1) lv st (WM a t is (up x j e) y w wy re de co cr cc dn cs df)) : GG (EE l D t) X k n pc lv (.int e :: .int (nI j) :: .ref (a 2) :: st) (WM a t is x y w wy re de co cr cc dn cs df) := by
  refine g_iast F 2 0 (f := x) rfl rfl hj (by decide) d (ws2 := WM a t is (up x j e) y w wy re de co cr cc dn cs df) ?_ K
  have h : upd (x) j e = up x j e := upd_upR _ _ _
  unfold WM
  exact congrArg (fun z => List.set (WM a t is x y w wy re de co cr cc dn cs df) 2 (a 2, .inl (t.1, 120, .inl z))) h
theorem gM_get_ys (F : Fx (EE l D t) X cc0 RX1 (c0 :: wsL_law) rm L) (d : decode cc0 pc = .ok (.getfield 17, 3)) (K : GG (EE l D t) X k n (pc + 3) lv (.ref (a 3) :: st) (WM a t is x y w wy re de co cr cc dn cs df)) : GG (EE l D t) X k n pc lv (.ref (a 0) :: st) (WM a t is x y w wy re de co cr cc dn cs df) :=
  g_get F 0 2 (C := RX1) (T := TX1) (N := 13) (fun w h => List.mem_cons_of_mem _ (inlX1 w h)) rfl rfl (by decide) (List.mem_cons_of_mem _ mw2_15) rfl rfl d K
theorem gM_ld_ys (F : Fx (EE l D t) X cc0 RX1 (c0 :: wsL_law) rm L) {j : Nat} (hj : j < 120) (d : decode cc0 pc = .ok (.iaload, 1)) (K : GG (EE l D t) X k n (pc + 1) lv (.int (y j) :: st) (WM a t is x y w wy re de co cr cc dn cs df)) : GG (EE l D t) X k n pc lv (.int (nI j) :: .ref (a 3) :: st) (WM a t is x y w wy re de co cr cc dn cs df) :=
  g_iald F 3 0 (f := y) rfl rfl hj (by decide) d K
theorem gM_st_ys (F : Fx (EE l D t) X cc0 RX1 (c0 :: wsL_law) rm L) {j : Nat} {e : Int32} (hj : j < 120) (d : decode cc0 pc = .ok (.iastore, 1)) (K : GG (EE l D t) X k n (pc + 1) lv st (WM a t is x (up y j e) w wy re de co cr cc dn cs df)) : GG (EE l D t) X k n pc lv (.int e :: .int (nI j) :: .ref (a 3) :: st) (WM a t is x y w wy re de co cr cc dn cs df) := by
  refine g_iast F 3 0 (f := y) rfl rfl hj (by decide) d (ws2 := WM a t is x (up y j e) w wy re de co cr cc dn cs df) ?_ K
  have h : upd (y) j e = up y j e := upd_upR _ _ _
  unfold WM
  exact congrArg (fun z => List.set (WM a t is x y w wy re de co cr cc dn cs df) 3 (a 3, .inl (t.1, 120, .inl z))) h
theorem gM_get_weights (F : Fx (EE l D t) X cc0 RX1 (c0 :: wsL_law) rm L) (d : decode cc0 pc = .ok (.getfield 20, 3)) (K : GG (EE l D t) X k n (pc + 3) lv (.ref (a 4) :: st) (WM a t is x y w wy re de co cr cc dn cs df)) : GG (EE l D t) X k n pc lv (.ref (a 0) :: st) (WM a t is x y w wy re de co cr cc dn cs df) :=
  g_get F 0 3 (C := RX1) (T := TX1) (N := 13) (fun w h => List.mem_cons_of_mem _ (inlX1 w h)) rfl rfl (by decide) (List.mem_cons_of_mem _ mw2_16) rfl rfl d K
theorem gM_ld_weights (F : Fx (EE l D t) X cc0 RX1 (c0 :: wsL_law) rm L) {j : Nat} (hj : j < 120) (d : decode cc0 pc = .ok (.iaload, 1)) (K : GG (EE l D t) X k n (pc + 1) lv (.int (nI (w j)) :: st) (WM a t is x y w wy re de co cr cc dn cs df)) : GG (EE l D t) X k n pc lv (.int (nI j) :: .ref (a 4) :: st) (WM a t is x y w wy re de co cr cc dn cs df) :=
  g_iald F 4 0 (f := fun i => nI (w i)) rfl rfl hj (by decide) d K
theorem gM_st_weights (F : Fx (EE l D t) X cc0 RX1 (c0 :: wsL_law) rm L) {j : Nat} {e : Nat} (hj : j < 120) (d : decode cc0 pc = .ok (.iastore, 1)) (K : GG (EE l D t) X k n (pc + 1) lv st (WM a t is x y (up w j e) wy re de co cr cc dn cs df)) : GG (EE l D t) X k n pc lv (.int (nI e) :: .int (nI j) :: .ref (a 4) :: st) (WM a t is x y w wy re de co cr cc dn cs df) := by
  refine g_iast F 4 0 (f := fun i => nI (w i)) rfl rfl hj (by decide) d (ws2 := WM a t is x y (up w j e) wy re de co cr cc dn cs df) ?_ K
  have h : upd (fun i => nI (w i)) j (nI e) = fun i => nI (up w j e i) := upd_up nI w j e
  unfold WM
  exact congrArg (fun z => List.set (WM a t is x y w wy re de co cr cc dn cs df) 4 (a 4, .inl (t.1, 120, .inl z))) h
theorem gM_get_way (F : Fx (EE l D t) X cc0 RX1 (c0 :: wsL_law) rm L) (d : decode cc0 pc = .ok (.getfield 57, 3)) (K : GG (EE l D t) X k n (pc + 3) lv (.int (nI wy) :: st) (WM a t is x y w wy re de co cr cc dn cs df)) : GG (EE l D t) X k n pc lv (.ref (a 0) :: st) (WM a t is x y w wy re de co cr cc dn cs df) :=
  g_get F 0 4 (C := RX1) (T := TX1) (N := 13) (fun w h => List.mem_cons_of_mem _ (inlX1 w h)) rfl rfl (by decide) (List.mem_cons_of_mem _ mw5_21) rfl rfl d K
theorem gM_put_way (F : Fx (EE l D t) X cc0 RX1 (c0 :: wsL_law) rm L) {wy2 : Nat} (d : decode cc0 pc = .ok (.putfield 57, 3)) (K : GG (EE l D t) X k n (pc + 3) lv st (WM a t is x y w wy2 re de co cr cc dn cs df)) : GG (EE l D t) X k n pc lv (.int (nI wy2) :: .ref (a 0) :: st) (WM a t is x y w wy re de co cr cc dn cs df) :=
  g_put F 0 4 (C := RX1) (T := TX1) (N := 13) (ty := .int) (fun w h => List.mem_cons_of_mem _ (inlX1 w h)) tyX1 tyX1_ok nmX1 rfl rfl (by decide) (List.mem_cons_of_mem _ mw5_21) rfl rfl (by decide +kernel) rfl rfl (by simp) d rfl K
theorem gM_get_reach (F : Fx (EE l D t) X cc0 RX1 (c0 :: wsL_law) rm L) (d : decode cc0 pc = .ok (.getfield 60, 3)) (K : GG (EE l D t) X k n (pc + 3) lv (.long (lN re) :: st) (WM a t is x y w wy re de co cr cc dn cs df)) : GG (EE l D t) X k n pc lv (.ref (a 0) :: st) (WM a t is x y w wy re de co cr cc dn cs df) :=
  g_get F 0 5 (C := RX1) (T := TX1) (N := 13) (fun w h => List.mem_cons_of_mem _ (inlX1 w h)) rfl rfl (by decide) (List.mem_cons_of_mem _ mw6_6) rfl rfl d K
theorem gM_put_reach (F : Fx (EE l D t) X cc0 RX1 (c0 :: wsL_law) rm L) {re2 : Nat} (d : decode cc0 pc = .ok (.putfield 60, 3)) (K : GG (EE l D t) X k n (pc + 3) lv st (WM a t is x y w wy re2 de co cr cc dn cs df)) : GG (EE l D t) X k n pc lv (.long (lN re2) :: .ref (a 0) :: st) (WM a t is x y w wy re de co cr cc dn cs df) :=
  g_put F 0 5 (C := RX1) (T := TX1) (N := 13) (ty := .long) (fun w h => List.mem_cons_of_mem _ (inlX1 w h)) tyX1 tyX1_ok nmX1 rfl rfl (by decide) (List.mem_cons_of_mem _ mw6_6) rfl rfl (by decide +kernel) rfl rfl (by simp) d rfl K
theorem gM_get_demand (F : Fx (EE l D t) X cc0 RX1 (c0 :: wsL_law) rm L) (d : decode cc0 pc = .ok (.getfield 23, 3)) (K : GG (EE l D t) X k n (pc + 3) lv (.int (nI de) :: st) (WM a t is x y w wy re de co cr cc dn cs df)) : GG (EE l D t) X k n pc lv (.ref (a 0) :: st) (WM a t is x y w wy re de co cr cc dn cs df) :=
  g_get F 0 6 (C := RX1) (T := TX1) (N := 13) (fun w h => List.mem_cons_of_mem _ (inlX1 w h)) rfl rfl (by decide) (List.mem_cons_of_mem _ mw2_17) rfl rfl d K
theorem gM_put_demand (F : Fx (EE l D t) X cc0 RX1 (c0 :: wsL_law) rm L) {de2 : Nat} (d : decode cc0 pc = .ok (.putfield 23, 3)) (K : GG (EE l D t) X k n (pc + 3) lv st (WM a t is x y w wy re de2 co cr cc dn cs df)) : GG (EE l D t) X k n pc lv (.int (nI de2) :: .ref (a 0) :: st) (WM a t is x y w wy re de co cr cc dn cs df) :=
  g_put F 0 6 (C := RX1) (T := TX1) (N := 13) (ty := .int) (fun w h => List.mem_cons_of_mem _ (inlX1 w h)) tyX1 tyX1_ok nmX1 rfl rfl (by decide) (List.mem_cons_of_mem _ mw2_17) rfl rfl (by decide +kernel) rfl rfl (by simp) d rfl K
theorem gM_get_core (F : Fx (EE l D t) X cc0 RX1 (c0 :: wsL_law) rm L) (d : decode cc0 pc = .ok (.getfield 27, 3)) (K : GG (EE l D t) X k n (pc + 3) lv (.ref (a 5) :: st) (WM a t is x y w wy re de co cr cc dn cs df)) : GG (EE l D t) X k n pc lv (.ref (a 0) :: st) (WM a t is x y w wy re de co cr cc dn cs df) :=
  g_get F 0 7 (C := RX1) (T := TX1) (N := 13) (fun w h => List.mem_cons_of_mem _ (inlX1 w h)) rfl rfl (by decide) (List.mem_cons_of_mem _ mw2_18) rfl rfl d K
theorem gM_ld_core (F : Fx (EE l D t) X cc0 RX1 (c0 :: wsL_law) rm L) {j : Nat} (hj : j < 120) (d : decode cc0 pc = .ok (.baload, 1)) (K : GG (EE l D t) X k n (pc + 1) lv (.int (b2 (co j)) :: st) (WM a t is x y w wy re de co cr cc dn cs df)) : GG (EE l D t) X k n pc lv (.int (nI j) :: .ref (a 5) :: st) (WM a t is x y w wy re de co cr cc dn cs df) :=
  g_zald F 5 2 (f := fun i => b2 (co i)) rfl rfl hj (by decide) d K
theorem gM_st_core (F : Fx (EE l D t) X cc0 RX1 (c0 :: wsL_law) rm L) {j : Nat} {e : Bool} (hj : j < 120) (d : decode cc0 pc = .ok (.bastore, 1)) (K : GG (EE l D t) X k n (pc + 1) lv st (WM a t is x y w wy re de (up co j e) cr cc dn cs df)) : GG (EE l D t) X k n pc lv (.int (b2 e) :: .int (nI j) :: .ref (a 5) :: st) (WM a t is x y w wy re de co cr cc dn cs df) := by
  refine g_zast F 5 2 (f := fun i => b2 (co i)) rfl rfl hj (by decide) d (ws2 := WM a t is x y w wy re de (up co j e) cr cc dn cs df) ?_ K
  have h : upd (fun i => b2 (co i)) j (vp_nar .boolean (b2 e)) = fun i => b2 (up co j e i) := (by rw [nar_b2]; exact upd_up b2 co j e)
  unfold WM
  exact congrArg (fun z => List.set (WM a t is x y w wy re de co cr cc dn cs df) 5 (a 5, .inl (t.2.2, 120, .inl z))) h
theorem gM_get_crowdOf (F : Fx (EE l D t) X cc0 RX1 (c0 :: wsL_law) rm L) (d : decode cc0 pc = .ok (.getfield 30, 3)) (K : GG (EE l D t) X k n (pc + 3) lv (.ref (a 6) :: st) (WM a t is x y w wy re de co cr cc dn cs df)) : GG (EE l D t) X k n pc lv (.ref (a 0) :: st) (WM a t is x y w wy re de co cr cc dn cs df) :=
  g_get F 0 8 (C := RX1) (T := TX1) (N := 13) (fun w h => List.mem_cons_of_mem _ (inlX1 w h)) rfl rfl (by decide) (List.mem_cons_of_mem _ mw2_19) rfl rfl d K
theorem gM_ld_crowdOf (F : Fx (EE l D t) X cc0 RX1 (c0 :: wsL_law) rm L) {j : Nat} (hj : j < 120) (d : decode cc0 pc = .ok (.iaload, 1)) (K : GG (EE l D t) X k n (pc + 1) lv (.int (oI (cr j)) :: st) (WM a t is x y w wy re de co cr cc dn cs df)) : GG (EE l D t) X k n pc lv (.int (nI j) :: .ref (a 6) :: st) (WM a t is x y w wy re de co cr cc dn cs df) :=
  g_iald F 6 0 (f := fun i => oI (cr i)) rfl rfl hj (by decide) d K
theorem gM_st_crowdOf (F : Fx (EE l D t) X cc0 RX1 (c0 :: wsL_law) rm L) {j : Nat} {e : Option Nat} (hj : j < 120) (d : decode cc0 pc = .ok (.iastore, 1)) (K : GG (EE l D t) X k n (pc + 1) lv st (WM a t is x y w wy re de co (up cr j e) cc dn cs df)) : GG (EE l D t) X k n pc lv (.int (oI e) :: .int (nI j) :: .ref (a 6) :: st) (WM a t is x y w wy re de co cr cc dn cs df) := by
  refine g_iast F 6 0 (f := fun i => oI (cr i)) rfl rfl hj (by decide) d (ws2 := WM a t is x y w wy re de co (up cr j e) cc dn cs df) ?_ K
  have h : upd (fun i => oI (cr i)) j (oI e) = fun i => oI (up cr j e i) := upd_up oI cr j e
  unfold WM
  exact congrArg (fun z => List.set (WM a t is x y w wy re de co cr cc dn cs df) 6 (a 6, .inl (t.1, 120, .inl z))) h
theorem gM_get_crowds (F : Fx (EE l D t) X cc0 RX1 (c0 :: wsL_law) rm L) (d : decode cc0 pc = .ok (.getfield 70, 3)) (K : GG (EE l D t) X k n (pc + 3) lv (.int (nI cc) :: st) (WM a t is x y w wy re de co cr cc dn cs df)) : GG (EE l D t) X k n pc lv (.ref (a 0) :: st) (WM a t is x y w wy re de co cr cc dn cs df) :=
  g_get F 0 9 (C := RX1) (T := TX1) (N := 13) (fun w h => List.mem_cons_of_mem _ (inlX1 w h)) rfl rfl (by decide) (List.mem_cons_of_mem _ mw10_0) rfl rfl d K
theorem gM_put_crowds (F : Fx (EE l D t) X cc0 RX1 (c0 :: wsL_law) rm L) {cc2 : Nat} (d : decode cc0 pc = .ok (.putfield 70, 3)) (K : GG (EE l D t) X k n (pc + 3) lv st (WM a t is x y w wy re de co cr cc2 dn cs df)) : GG (EE l D t) X k n pc lv (.int (nI cc2) :: .ref (a 0) :: st) (WM a t is x y w wy re de co cr cc dn cs df) :=
  g_put F 0 9 (C := RX1) (T := TX1) (N := 13) (ty := .int) (fun w h => List.mem_cons_of_mem _ (inlX1 w h)) tyX1 tyX1_ok nmX1 rfl rfl (by decide) (List.mem_cons_of_mem _ mw10_0) rfl rfl (by decide +kernel) rfl rfl (by simp) d rfl K
theorem gM_get_done (F : Fx (EE l D t) X cc0 RX1 (c0 :: wsL_law) rm L) (d : decode cc0 pc = .ok (.getfield 33, 3)) (K : GG (EE l D t) X k n (pc + 3) lv (.ref (a 7) :: st) (WM a t is x y w wy re de co cr cc dn cs df)) : GG (EE l D t) X k n pc lv (.ref (a 0) :: st) (WM a t is x y w wy re de co cr cc dn cs df) :=
  g_get F 0 10 (C := RX1) (T := TX1) (N := 13) (fun w h => List.mem_cons_of_mem _ (inlX1 w h)) rfl rfl (by decide) (List.mem_cons_of_mem _ mw2_20) rfl rfl d K
theorem gM_ld_done (F : Fx (EE l D t) X cc0 RX1 (c0 :: wsL_law) rm L) {j : Nat} (hj : j < 120) (d : decode cc0 pc = .ok (.baload, 1)) (K : GG (EE l D t) X k n (pc + 1) lv (.int (b2 (dn j)) :: st) (WM a t is x y w wy re de co cr cc dn cs df)) : GG (EE l D t) X k n pc lv (.int (nI j) :: .ref (a 7) :: st) (WM a t is x y w wy re de co cr cc dn cs df) :=
  g_zald F 7 2 (f := fun i => b2 (dn i)) rfl rfl hj (by decide) d K
theorem gM_st_done (F : Fx (EE l D t) X cc0 RX1 (c0 :: wsL_law) rm L) {j : Nat} {e : Bool} (hj : j < 120) (d : decode cc0 pc = .ok (.bastore, 1)) (K : GG (EE l D t) X k n (pc + 1) lv st (WM a t is x y w wy re de co cr cc (up dn j e) cs df)) : GG (EE l D t) X k n pc lv (.int (b2 e) :: .int (nI j) :: .ref (a 7) :: st) (WM a t is x y w wy re de co cr cc dn cs df) := by
  refine g_zast F 7 2 (f := fun i => b2 (dn i)) rfl rfl hj (by decide) d (ws2 := WM a t is x y w wy re de co cr cc (up dn j e) cs df) ?_ K
  have h : upd (fun i => b2 (dn i)) j (vp_nar .boolean (b2 e)) = fun i => b2 (up dn j e i) := (by rw [nar_b2]; exact upd_up b2 dn j e)
  unfold WM
  exact congrArg (fun z => List.set (WM a t is x y w wy re de co cr cc dn cs df) 7 (a 7, .inl (t.2.2, 120, .inl z))) h
theorem gM_get_cost (F : Fx (EE l D t) X cc0 RX1 (c0 :: wsL_law) rm L) (d : decode cc0 pc = .ok (.getfield 36, 3)) (K : GG (EE l D t) X k n (pc + 3) lv (.ref (a 8) :: st) (WM a t is x y w wy re de co cr cc dn cs df)) : GG (EE l D t) X k n pc lv (.ref (a 0) :: st) (WM a t is x y w wy re de co cr cc dn cs df) :=
  g_get F 0 11 (C := RX1) (T := TX1) (N := 13) (fun w h => List.mem_cons_of_mem _ (inlX1 w h)) rfl rfl (by decide) (List.mem_cons_of_mem _ mw2_21) rfl rfl d K
theorem gM_ld_cost (F : Fx (EE l D t) X cc0 RX1 (c0 :: wsL_law) rm L) {j : Nat} (hj : j < 120) (d : decode cc0 pc = .ok (.laload, 1)) (K : GG (EE l D t) X k n (pc + 1) lv (.long (oL (cs j)) :: st) (WM a t is x y w wy re de co cr cc dn cs df)) : GG (EE l D t) X k n pc lv (.int (nI j) :: .ref (a 8) :: st) (WM a t is x y w wy re de co cr cc dn cs df) :=
  g_lald F 8 1 (f := fun i => oL (cs i)) rfl rfl hj (by decide) d K
theorem gM_st_cost (F : Fx (EE l D t) X cc0 RX1 (c0 :: wsL_law) rm L) {j : Nat} {e : Option Nat} (hj : j < 120) (d : decode cc0 pc = .ok (.lastore, 1)) (K : GG (EE l D t) X k n (pc + 1) lv st (WM a t is x y w wy re de co cr cc dn (up cs j e) df)) : GG (EE l D t) X k n pc lv (.long (oL e) :: .int (nI j) :: .ref (a 8) :: st) (WM a t is x y w wy re de co cr cc dn cs df) := by
  refine g_last F 8 1 (f := fun i => oL (cs i)) rfl rfl hj (by decide) d (ws2 := WM a t is x y w wy re de co cr cc dn (up cs j e) df) ?_ K
  have h : vp_updL (fun i => oL (cs i)) j (oL e) = fun i => oL (up cs j e i) := updL_up oL cs j e
  unfold WM
  exact congrArg (fun z => List.set (WM a t is x y w wy re de co cr cc dn cs df) 8 (a 8, .inl (t.2.1, 120, .inr (.inl z)))) h
theorem gM_get_denseOf (F : Fx (EE l D t) X cc0 RX1 (c0 :: wsL_law) rm L) (d : decode cc0 pc = .ok (.getfield 40, 3)) (K : GG (EE l D t) X k n (pc + 3) lv (.ref (a 9) :: st) (WM a t is x y w wy re de co cr cc dn cs df)) : GG (EE l D t) X k n pc lv (.ref (a 0) :: st) (WM a t is x y w wy re de co cr cc dn cs df) :=
  g_get F 0 12 (C := RX1) (T := TX1) (N := 13) (fun w h => List.mem_cons_of_mem _ (inlX1 w h)) rfl rfl (by decide) (List.mem_cons_of_mem _ mw2_22) rfl rfl d K
theorem gM_ld_denseOf (F : Fx (EE l D t) X cc0 RX1 (c0 :: wsL_law) rm L) {j : Nat} (hj : j < 120) (d : decode cc0 pc = .ok (.laload, 1)) (K : GG (EE l D t) X k n (pc + 1) lv (.long (oL (df j)) :: st) (WM a t is x y w wy re de co cr cc dn cs df)) : GG (EE l D t) X k n pc lv (.int (nI j) :: .ref (a 9) :: st) (WM a t is x y w wy re de co cr cc dn cs df) :=
  g_lald F 9 1 (f := fun i => oL (df i)) rfl rfl hj (by decide) d K
theorem gM_st_denseOf (F : Fx (EE l D t) X cc0 RX1 (c0 :: wsL_law) rm L) {j : Nat} {e : Option Nat} (hj : j < 120) (d : decode cc0 pc = .ok (.lastore, 1)) (K : GG (EE l D t) X k n (pc + 1) lv st (WM a t is x y w wy re de co cr cc dn cs (up df j e))) : GG (EE l D t) X k n pc lv (.long (oL e) :: .int (nI j) :: .ref (a 9) :: st) (WM a t is x y w wy re de co cr cc dn cs df) := by
  refine g_last F 9 1 (f := fun i => oL (df i)) rfl rfl hj (by decide) d (ws2 := WM a t is x y w wy re de co cr cc dn cs (up df j e)) ?_ K
  have h : vp_updL (fun i => oL (df i)) j (oL e) = fun i => oL (up df j e i) := updL_up oL df j e
  unfold WM
  exact congrArg (fun z => List.set (WM a t is x y w wy re de co cr cc dn cs df) 9 (a 9, .inl (t.2.1, 120, .inr (.inl z)))) h
end GM
