def q_lk : List (Nat × Value) → Nat → Option Value
  | [], _ => none
  | q :: l, i => cond (Nat.beq q.1 i) (some q.2) (q_lk l i)
theorem q_lk_mem : ∀ {l : List (Nat × Value)} {i : Nat} {v : Value}, q_lk l i = some v → (i, v) ∈ l := by
  intro l
  induction l with
  | nil => intro i v h; cases h
  | cons q l ih =>
    intro i v h
    unfold q_lk at h
    cases hb : Nat.beq q.1 i with
    | true =>
      rw [hb] at h
      have e := Nat.eq_of_beq_eq_true hb
      have h : some q.2 = some v := h
      cases h
      subst e
      exact List.mem_cons_self
    | false =>
      rw [hb] at h
      exact List.mem_cons_of_mem _ (ih h)
/-- the listed locals by their slots -/
def q_pk (l : List (Nat × Value)) : List Nat → List (Nat × Value)
  | [] => []
  | j :: js => match q_lk l j with
    | some v => (j, v) :: q_pk l js
    | none => q_pk l js
theorem q_pk_mem {l : List (Nat × Value)} : ∀ {js : List Nat} {q : Nat × Value}, q ∈ q_pk l js → q ∈ l := by
  intro js
  induction js with
  | nil => intro q h; cases h
  | cons j js ih =>
    intro q h
    unfold q_pk at h
    cases hk : q_lk l j with
    | none => rw [hk] at h; exact ih h
    | some v =>
      rw [hk] at h
      rcases List.mem_cons.mp h with rfl | h
      · exact q_lk_mem hk
      · exact ih h
theorem q_has_pk {la : Array Slot} {nL : Nat} {l l' : List (Nat × Value)} {js : List Nat} (h : lv_has la nL l) (e : q_pk l js = l') : lv_has la nL l' := ⟨h.1, h.2.1, fun q hq => h.2.2 q (q_pk_mem (by rw [e]; exact hq))⟩
def q_up {α : Type} (f : Nat → Nat → α) (a j : Nat) (x : α) : Nat → Nat → α := fun k i => if k = a ∧ i = j then x else f k i
def q_pi (S : q_S) (a j : Nat) (x : Int32) : q_S := (S.1, q_up S.2.1 a j x, S.2.2.1, S.2.2.2)
def q_pl (S : q_S) (a j : Nat) (x : Int64) : q_S := (S.1, S.2.1, q_up S.2.2.1 a j x, S.2.2.2)
def q_pr (S : q_S) (a j : Nat) (x : Option Nat) : q_S := (S.1, S.2.1, S.2.2.1, q_up S.2.2.2 a j x)
theorem q_up_row {α : Type} {f : Nat → Nat → α} {a j k : Nat} {x : α} (h : ¬ k = a) : q_up f a j x k = f k := by
  funext i
  simp [q_up, h]
theorem q_up_own {α : Type} {f : Nat → Nat → α} {a j : Nat} {x : α} : q_up f a j x a = fun i => if i = j then x else f a i := by
  funext i
  simp [q_up]
theorem q_e_congr {g : q_G} {S S' : q_S} {k : Nat} (h1 : S'.2.1 k = S.2.1 k) (h2 : S'.2.2.1 k = S.2.2.1 k) (h3 : S'.2.2.2 k = S.2.2.2 k) : q_e g S' k = q_e g S k := by
  unfold q_e q_fs q_val
  rw [h1, h2, h3]
theorem q_ws_at {g : q_G} {S : q_S} {a : Nat} (h : a < S.1) : (q_ws g S)[a]? = some (g.2.1 + a, q_e g S a) := by
  simp [q_ws, h]
theorem q_ws_of {g : q_G} {S : q_S} {k : Nat} {q : Nat × va_E} (h : (q_ws g S)[k]? = some q) : k < S.1 ∧ q = (g.2.1 + k, q_e g S k) := by
  have hk : k < S.1 := by
    have := (List.getElem?_eq_some_iff.mp h).1
    simpa [q_ws] using this
  rw [q_ws_at hk] at h
  exact ⟨hk, (Option.some.inj h).symm⟩
theorem q_ws_D {g : q_G} {S : q_S} : va_D (q_A g) (q_ws g S) := by
  refine ⟨fun i j p q hi hj hpq => ?_, fun k q hk => ?_⟩
  · obtain ⟨-, rfl⟩ := q_ws_of hi
    obtain ⟨-, rfl⟩ := q_ws_of hj
    have : g.2.1 + i = g.2.1 + j := hpq
    omega
  · obtain ⟨-, rfl⟩ := q_ws_of hk
    exact Nat.le_add_right _ _
theorem q_ws_set {g : q_G} {S S' : q_S} {a : Nat} {e : va_E} (ha : a < S.1) (hn : S'.1 = S.1) (he : q_e g S' a = e) (hr : ∀ k, ¬ k = a → q_e g S' k = q_e g S k) : (q_ws g S).set a (g.2.1 + a, e) = q_ws g S' := by
  apply List.ext_getElem?
  intro k
  by_cases hk : k < S.1
  · rw [q_ws_at (S := S') (by rw [hn]; exact hk)]
    by_cases hka : k = a
    · subst hka
      rw [List.getElem?_set_self (by simpa [q_ws] using hk), he]
    · rw [List.getElem?_set_ne (fun h => hka h.symm), q_ws_at hk, hr k hka]
  · rw [List.getElem?_eq_none (by simp [q_ws]; omega), List.getElem?_eq_none (by simp [q_ws]; omega)]
theorem q_fs_at {g : q_G} {S : q_S} {ci a j : Nat} (h : j < (q_cl ci).2.2) : (q_fs g S ci a)[j]? = some (q_val g S (q_ty ci j) a j) := by
  simp [q_fs, h]
theorem q_fs_set {g : q_G} {S S' : q_S} {ci a j : Nat} {v : Value} (h : j < (q_cl ci).2.2) (hv : q_val g S' (q_ty ci j) a j = v) (hr : ∀ i, ¬ i = j → q_val g S' (q_ty ci i) a i = q_val g S (q_ty ci i) a i) : (q_fs g S ci a).set j v = q_fs g S' ci a := by
  apply List.ext_getElem?
  intro k
  by_cases hk : k < (q_cl ci).2.2
  · rw [q_fs_at (S := S') hk]
    by_cases hkj : k = j
    · subst hkj
      rw [List.getElem?_set_self (by simpa [q_fs] using hk), hv]
    · rw [List.getElem?_set_ne (fun h => hkj h.symm), q_fs_at hk, hr k hkj]
  · rw [List.getElem?_eq_none (by simp [q_fs]; omega), List.getElem?_eq_none (by simp [q_fs]; omega)]
/-- a field's link: the own class's entry idx is field j of class ci -/
def q_FL (own : String) (idx ci j : Nat) : Prop := ci < 11 ∧ j < (q_cl ci).2.2 ∧ Cond.fieldLink own idx (q_cl ci).1 ((q_cl ci).2.1 j).2.1 ((q_cl ci).2.1 j).2.2.1 ∈ q_WS ∧ ((q_cl ci).2.1 j).1 = (q_cl ci).1
section QV
variable {g : q_G} {M : q_M} {E : State → Prop} {Z : List Frame → Array Value → State → State → Prop} {kc ks pc : Nat} {ls : List (Nat × Value)} {st : List Value} {S : q_S}
theorem q_iconst {n : Int} {v : Int32} (hd : decode M.2.1 pc = .ok (.iconst n, 1)) (hv : Int32.ofInt n = v) (k : q_V g M E Z kc ks (pc + 1) ls (.int v :: st) S) : q_V g M E Z kc ks pc ls (st) S := by
  intro p e s m args below meth c H locs cells slots la C P hS c1 c2 hl
  exact lv_iconst C.1 C.2.1 hd hv (k p e s m args below meth c H locs cells slots la C P hS c1 c2 hl)
theorem q_bipush {n : Int} {v : Int32} (hd : decode M.2.1 pc = .ok (.bipush n, 2)) (hv : (Int8.ofInt n).toInt32 = v) (k : q_V g M E Z kc ks (pc + 2) ls (.int v :: st) S) : q_V g M E Z kc ks pc ls (st) S := by
  intro p e s m args below meth c H locs cells slots la C P hS c1 c2 hl
  exact lv_bipush C.1 C.2.1 hd hv (k p e s m args below meth c H locs cells slots la C P hS c1 c2 hl)
theorem q_sipush {n : Int} {v : Int32} (hd : decode M.2.1 pc = .ok (.sipush n, 3)) (hv : (Int16.ofInt n).toInt32 = v) (k : q_V g M E Z kc ks (pc + 3) ls (.int v :: st) S) : q_V g M E Z kc ks pc ls (st) S := by
  intro p e s m args below meth c H locs cells slots la C P hS c1 c2 hl
  exact lv_sipush C.1 C.2.1 hd hv (k p e s m args below meth c H locs cells slots la C P hS c1 c2 hl)
theorem q_lconst {n : Fin 2} {v : Int64} (hd : decode M.2.1 pc = .ok (.lconst n, 1)) (hv : Int64.ofNat (n : Nat) = v) (k : q_V g M E Z kc ks (pc + 1) ls (.long v :: st) S) : q_V g M E Z kc ks pc ls (st) S := by
  intro p e s m args below meth c H locs cells slots la C P hS c1 c2 hl
  exact lv_lconst C.1 C.2.1 hd hv (k p e s m args below meth c H locs cells slots la C P hS c1 c2 hl)
theorem q_ldc {i : Nat} {v : Int32} (hd : decode M.2.1 pc = .ok (.ldc i, 2)) (hw : Cond.constant M.1.cls i v ∈ q_WS) (k : q_V g M E Z kc ks (pc + 2) ls (.int v :: st) S) : q_V g M E Z kc ks pc ls (st) S := by
  intro p e s m args below meth c H locs cells slots la C P hS c1 c2 hl
  exact lv_ldc C.1 C.2.1 C.2.2.2.2.1 (C.2.2.2.2.2.1 _ hw) hd (k p e s m args below meth c H locs cells slots la C P hS c1 c2 hl)
theorem q_ldcw {i : Nat} {v : Int32} (hd : decode M.2.1 pc = .ok (.ldc_w i, 3)) (hw : Cond.constant M.1.cls i v ∈ q_WS) (k : q_V g M E Z kc ks (pc + 3) ls (.int v :: st) S) : q_V g M E Z kc ks pc ls (st) S := by
  intro p e s m args below meth c H locs cells slots la C P hS c1 c2 hl
  exact lv_ldcw C.1 C.2.1 C.2.2.2.2.1 (C.2.2.2.2.2.1 _ hw) hd (k p e s m args below meth c H locs cells slots la C P hS c1 c2 hl)
theorem q_ldc2 {i : Nat} {v : Int64} (hd : decode M.2.1 pc = .ok (.ldc2_w i, 3)) (hw : Cond.constantLong M.1.cls i v ∈ q_WS) (k : q_V g M E Z kc ks (pc + 3) ls (.long v :: st) S) : q_V g M E Z kc ks pc ls (st) S := by
  intro p e s m args below meth c H locs cells slots la C P hS c1 c2 hl
  exact lv_ldc2 C.1 C.2.1 C.2.2.2.2.1 (C.2.2.2.2.2.1 _ hw) hd (k p e s m args below meth c H locs cells slots la C P hS c1 c2 hl)
theorem q_iload {i : Nat} {x : Int32} (hd : decode M.2.1 pc = .ok (.iload i, 2)) (hx : q_lk ls i = some (.int x)) (k : q_V g M E Z kc ks (pc + 2) ls (.int x :: st) S) : q_V g M E Z kc ks pc ls (st) S := by
  intro p e s m args below meth c H locs cells slots la C P hS c1 c2 hl
  exact lv_iload C.1 C.2.1 hd (hl.2.2 _ (q_lk_mem hx)) (k p e s m args below meth c H locs cells slots la C P hS c1 c2 hl)
theorem q_iload_n {i : Fin 4} {x : Int32} (hd : decode M.2.1 pc = .ok (.iload_n i, 1)) (hx : q_lk ls (i : Nat) = some (.int x)) (k : q_V g M E Z kc ks (pc + 1) ls (.int x :: st) S) : q_V g M E Z kc ks pc ls st S := by
  intro p e s m args below meth c H locs cells slots la C P hS c1 c2 hl
  exact lv_iload_n C.1 C.2.1 hd rfl (hl.2.2 _ (q_lk_mem hx)) (k p e s m args below meth c H locs cells slots la C P hS c1 c2 hl)
theorem q_lload {i : Nat} {x : Int64} (hd : decode M.2.1 pc = .ok (.lload i, 2)) (hx : q_lk ls i = some (.long x)) (k : q_V g M E Z kc ks (pc + 2) ls (.long x :: st) S) : q_V g M E Z kc ks pc ls (st) S := by
  intro p e s m args below meth c H locs cells slots la C P hS c1 c2 hl
  exact lv_lload C.1 C.2.1 hd (hl.2.2 _ (q_lk_mem hx)) (k p e s m args below meth c H locs cells slots la C P hS c1 c2 hl)
theorem q_lload_n {i : Fin 4} {x : Int64} (hd : decode M.2.1 pc = .ok (.lload_n i, 1)) (hx : q_lk ls (i : Nat) = some (.long x)) (k : q_V g M E Z kc ks (pc + 1) ls (.long x :: st) S) : q_V g M E Z kc ks pc ls st S := by
  intro p e s m args below meth c H locs cells slots la C P hS c1 c2 hl
  exact lv_lload_n C.1 C.2.1 hd rfl (hl.2.2 _ (q_lk_mem hx)) (k p e s m args below meth c H locs cells slots la C P hS c1 c2 hl)
theorem q_aload {i a : Nat} (hd : decode M.2.1 pc = .ok (.aload i, 2)) (hx : q_lk ls i = some (q_r g a)) (k : q_V g M E Z kc ks (pc + 2) ls (q_r g a :: st) S) : q_V g M E Z kc ks pc ls st S := by
  intro p e s m args below meth c H locs cells slots la C P hS c1 c2 hl
  exact lv_aload (x := g.2.1 + a) C.1 C.2.1 hd (hl.2.2 _ (q_lk_mem hx)) (k p e s m args below meth c H locs cells slots la C P hS c1 c2 hl)
theorem q_aload_n {i : Fin 4} {a : Nat} (hd : decode M.2.1 pc = .ok (.aload_n i, 1)) (hx : q_lk ls (i : Nat) = some (q_r g a)) (k : q_V g M E Z kc ks (pc + 1) ls (q_r g a :: st) S) : q_V g M E Z kc ks pc ls st S := by
  intro p e s m args below meth c H locs cells slots la C P hS c1 c2 hl
  exact lv_aload_n (x := g.2.1 + a) C.1 C.2.1 hd rfl (hl.2.2 _ (q_lk_mem hx)) (k p e s m args below meth c H locs cells slots la C P hS c1 c2 hl)
theorem q_aloadX_n {i : Fin 4} {a : Nat} (hd : decode M.2.1 pc = .ok (.aload_n i, 1)) (hx : q_lk ls (i : Nat) = some (.ref a)) (k : q_V g M E Z kc ks (pc + 1) ls (.ref a :: st) S) : q_V g M E Z kc ks pc ls st S := by
  intro p e s m args below meth c H locs cells slots la C P hS c1 c2 hl
  exact lv_aload_n (x := a) C.1 C.2.1 hd rfl (hl.2.2 _ (q_lk_mem hx)) (k p e s m args below meth c H locs cells slots la C P hS c1 c2 hl)
theorem q_istore {i : Nat} {x : Int32} {ls' : List (Nat × Value)} (js : List Nat) (hd : decode M.2.1 pc = .ok (.istore i, 2)) (hn : i < M.2.2.1) (hs : q_pk ((i, .int x) :: ls.filter (fun q => !(q.1 == i) && !(q.1 + 1 == i && q.2.category == 2))) js = ls') (k : q_V g M E Z kc ks (pc + 2) ls' st S) : q_V g M E Z kc ks pc ls (.int x :: st) S := by
  intro p e s m args below meth c H locs cells slots la C P hS c1 c2 hl
  exact lv_istore C.1 C.2.1 hd hl hn rfl (fun la hl => k p e s m args below meth c H locs cells slots la C P hS c1 c2 (q_has_pk hl hs))
theorem q_istore_n {i : Fin 4} {x : Int32} {ls' : List (Nat × Value)} (js : List Nat) (hd : decode M.2.1 pc = .ok (.istore_n i, 1)) (hn : (i : Nat) < M.2.2.1) (hs : q_pk (((i : Nat), .int x) :: ls.filter (fun q => !(q.1 == (i : Nat)) && !(q.1 + 1 == (i : Nat) && q.2.category == 2))) js = ls') (k : q_V g M E Z kc ks (pc + 1) ls' st S) : q_V g M E Z kc ks pc ls (.int x :: st) S := by
  intro p e s m args below meth c H locs cells slots la C P hS c1 c2 hl
  exact lv_istore_n C.1 C.2.1 hd rfl hl hn rfl (fun la hl => k p e s m args below meth c H locs cells slots la C P hS c1 c2 (q_has_pk hl hs))
theorem q_lstore {i : Nat} {x : Int64} {ls' : List (Nat × Value)} (js : List Nat) (hd : decode M.2.1 pc = .ok (.lstore i, 2)) (hn : i + 1 < M.2.2.1) (hs : q_pk ((i, .long x) :: ls.filter (fun q => !(q.1 == i) && (!(q.1 == i + 1) && !(q.1 + 1 == i && q.2.category == 2)))) js = ls') (k : q_V g M E Z kc ks (pc + 2) ls' st S) : q_V g M E Z kc ks pc ls (.long x :: st) S := by
  intro p e s m args below meth c H locs cells slots la C P hS c1 c2 hl
  exact lv_lstore C.1 C.2.1 hd hl hn rfl (fun la hl => k p e s m args below meth c H locs cells slots la C P hS c1 c2 (q_has_pk hl hs))
theorem q_lstore_n {i : Fin 4} {x : Int64} {ls' : List (Nat × Value)} (js : List Nat) (hd : decode M.2.1 pc = .ok (.lstore_n i, 1)) (hn : (i : Nat) + 1 < M.2.2.1) (hs : q_pk (((i : Nat), .long x) :: ls.filter (fun q => !(q.1 == (i : Nat)) && (!(q.1 == (i : Nat) + 1) && !(q.1 + 1 == (i : Nat) && q.2.category == 2)))) js = ls') (k : q_V g M E Z kc ks (pc + 1) ls' st S) : q_V g M E Z kc ks pc ls (.long x :: st) S := by
  intro p e s m args below meth c H locs cells slots la C P hS c1 c2 hl
  exact lv_lstore_n C.1 C.2.1 hd rfl hl hn rfl (fun la hl => k p e s m args below meth c H locs cells slots la C P hS c1 c2 (q_has_pk hl hs))
theorem q_astore {i : Nat} {x : Nat} {ls' : List (Nat × Value)} (js : List Nat) (hd : decode M.2.1 pc = .ok (.astore i, 2)) (hn : i < M.2.2.1) (hs : q_pk ((i, q_r g x) :: ls.filter (fun q => !(q.1 == i) && !(q.1 + 1 == i && q.2.category == 2))) js = ls') (k : q_V g M E Z kc ks (pc + 2) ls' st S) : q_V g M E Z kc ks pc ls (q_r g x :: st) S := by
  intro p e s m args below meth c H locs cells slots la C P hS c1 c2 hl
  exact lv_astore (x := g.2.1 + x) C.1 C.2.1 hd hl hn rfl (fun la hl => k p e s m args below meth c H locs cells slots la C P hS c1 c2 (q_has_pk hl hs))
theorem q_astore_n {i : Fin 4} {x : Nat} {ls' : List (Nat × Value)} (js : List Nat) (hd : decode M.2.1 pc = .ok (.astore_n i, 1)) (hn : (i : Nat) < M.2.2.1) (hs : q_pk (((i : Nat), q_r g x) :: ls.filter (fun q => !(q.1 == (i : Nat)) && !(q.1 + 1 == (i : Nat) && q.2.category == 2))) js = ls') (k : q_V g M E Z kc ks (pc + 1) ls' st S) : q_V g M E Z kc ks pc ls (q_r g x :: st) S := by
  intro p e s m args below meth c H locs cells slots la C P hS c1 c2 hl
  exact lv_astore_n (x := g.2.1 + x) C.1 C.2.1 hd rfl hl hn rfl (fun la hl => k p e s m args below meth c H locs cells slots la C P hS c1 c2 (q_has_pk hl hs))
theorem q_iinc {i : Nat} {n : Int} {x : Int32} {ls' : List (Nat × Value)} (js : List Nat) (hd : decode M.2.1 pc = .ok (.iinc i n, 3)) (hx : q_lk ls i = some (.int x)) (hn : i < M.2.2.1) (hs : q_pk ((i, .int (x + Int32.ofInt n)) :: ls.filter (fun q => !(q.1 == i) && !(q.1 + 1 == i && q.2.category == 2))) js = ls') (k : q_V g M E Z kc ks (pc + 3) ls' st S) : q_V g M E Z kc ks pc ls st S := by
  intro p e s m args below meth c H locs cells slots la C P hS c1 c2 hl
  obtain ⟨j, hj⟩ := List.getElem?_of_mem (q_lk_mem hx)
  exact lv_iinc C.1 C.2.1 hd hl (k := j) hj rfl hn rfl (fun la hl => k p e s m args below meth c H locs cells slots la C P hS c1 c2 (q_has_pk hl hs))
theorem q_drop {ls' : List (Nat × Value)} (js : List Nat) (hs : q_pk ls js = ls') (k : q_V g M E Z kc ks pc ls' st S) : q_V g M E Z kc ks pc ls st S := by
  intro p e s m args below meth c H locs cells slots la C P hS c1 c2 hl
  exact k p e s m args below meth c H locs cells slots la C P hS c1 c2 (q_has_pk hl hs)
theorem q_iadd {x y : Int32} (hd : decode M.2.1 pc = .ok (.iadd, 1))  (k : q_V g M E Z kc ks (pc + 1) ls (.int (x + y) :: st) S) : q_V g M E Z kc ks pc ls (.int y :: .int x :: st) S := by
  intro p e s m args below meth c H locs cells slots la C P hS c1 c2 hl
  exact lv_iadd C.1 C.2.1 hd (k p e s m args below meth c H locs cells slots la C P hS c1 c2 hl)
theorem q_isub {x y : Int32} (hd : decode M.2.1 pc = .ok (.isub, 1))  (k : q_V g M E Z kc ks (pc + 1) ls (.int (x - y) :: st) S) : q_V g M E Z kc ks pc ls (.int y :: .int x :: st) S := by
  intro p e s m args below meth c H locs cells slots la C P hS c1 c2 hl
  exact lv_isub C.1 C.2.1 hd (k p e s m args below meth c H locs cells slots la C P hS c1 c2 hl)
theorem q_imul {x y : Int32} (hd : decode M.2.1 pc = .ok (.imul, 1))  (k : q_V g M E Z kc ks (pc + 1) ls (.int (x * y) :: st) S) : q_V g M E Z kc ks pc ls (.int y :: .int x :: st) S := by
  intro p e s m args below meth c H locs cells slots la C P hS c1 c2 hl
  exact lv_imul C.1 C.2.1 hd (k p e s m args below meth c H locs cells slots la C P hS c1 c2 hl)
theorem q_iand {x y : Int32} (hd : decode M.2.1 pc = .ok (.iand, 1))  (k : q_V g M E Z kc ks (pc + 1) ls (.int (x &&& y) :: st) S) : q_V g M E Z kc ks pc ls (.int y :: .int x :: st) S := by
  intro p e s m args below meth c H locs cells slots la C P hS c1 c2 hl
  exact lv_iand C.1 C.2.1 hd (k p e s m args below meth c H locs cells slots la C P hS c1 c2 hl)
theorem q_ior {x y : Int32} (hd : decode M.2.1 pc = .ok (.ior, 1))  (k : q_V g M E Z kc ks (pc + 1) ls (.int (x ||| y) :: st) S) : q_V g M E Z kc ks pc ls (.int y :: .int x :: st) S := by
  intro p e s m args below meth c H locs cells slots la C P hS c1 c2 hl
  exact lv_ior C.1 C.2.1 hd (k p e s m args below meth c H locs cells slots la C P hS c1 c2 hl)
theorem q_ishl {x y : Int32} (hd : decode M.2.1 pc = .ok (.ishl, 1))  (k : q_V g M E Z kc ks (pc + 1) ls (.int (x <<< (y &&& 31)) :: st) S) : q_V g M E Z kc ks pc ls (.int y :: .int x :: st) S := by
  intro p e s m args below meth c H locs cells slots la C P hS c1 c2 hl
  exact lv_ishl C.1 C.2.1 hd (k p e s m args below meth c H locs cells slots la C P hS c1 c2 hl)
theorem q_ishr {x y : Int32} (hd : decode M.2.1 pc = .ok (.ishr, 1))  (k : q_V g M E Z kc ks (pc + 1) ls (.int (x >>> (y &&& 31)) :: st) S) : q_V g M E Z kc ks pc ls (.int y :: .int x :: st) S := by
  intro p e s m args below meth c H locs cells slots la C P hS c1 c2 hl
  exact lv_ishr C.1 C.2.1 hd (k p e s m args below meth c H locs cells slots la C P hS c1 c2 hl)
theorem q_iushr {x y : Int32} (hd : decode M.2.1 pc = .ok (.iushr, 1))  (k : q_V g M E Z kc ks (pc + 1) ls (.int (x.toUInt32 >>> (y.toUInt32 &&& Int32.toUInt32 31)).toInt32 :: st) S) : q_V g M E Z kc ks pc ls (.int y :: .int x :: st) S := by
  intro p e s m args below meth c H locs cells slots la C P hS c1 c2 hl
  exact lv_iushr C.1 C.2.1 hd rfl (k p e s m args below meth c H locs cells slots la C P hS c1 c2 hl)
theorem q_idiv {x y : Int32} (hd : decode M.2.1 pc = .ok (.idiv, 1)) (hne : ¬ y = 0) (k : q_V g M E Z kc ks (pc + 1) ls (.int (x / y) :: st) S) : q_V g M E Z kc ks pc ls (.int y :: .int x :: st) S := by
  intro p e s m args below meth c H locs cells slots la C P hS c1 c2 hl
  exact lv_idiv C.1 C.2.1 hd hne (k p e s m args below meth c H locs cells slots la C P hS c1 c2 hl)
theorem q_irem {x y : Int32} (hd : decode M.2.1 pc = .ok (.irem, 1)) (hne : ¬ y = 0) (k : q_V g M E Z kc ks (pc + 1) ls (.int (x - x / y * y) :: st) S) : q_V g M E Z kc ks pc ls (.int y :: .int x :: st) S := by
  intro p e s m args below meth c H locs cells slots la C P hS c1 c2 hl
  exact lv_irem C.1 C.2.1 hd hne (k p e s m args below meth c H locs cells slots la C P hS c1 c2 hl)
theorem q_ineg {x : Int32} (hd : decode M.2.1 pc = .ok (.ineg, 1))  (k : q_V g M E Z kc ks (pc + 1) ls (.int (-x) :: st) S) : q_V g M E Z kc ks pc ls (.int x :: st) S := by
  intro p e s m args below meth c H locs cells slots la C P hS c1 c2 hl
  exact lv_ineg C.1 C.2.1 hd (k p e s m args below meth c H locs cells slots la C P hS c1 c2 hl)
theorem q_lneg {x : Int64} (hd : decode M.2.1 pc = .ok (.lneg, 1))  (k : q_V g M E Z kc ks (pc + 1) ls (.long (-x) :: st) S) : q_V g M E Z kc ks pc ls (.long x :: st) S := by
  intro p e s m args below meth c H locs cells slots la C P hS c1 c2 hl
  exact lv_lneg C.1 C.2.1 hd (k p e s m args below meth c H locs cells slots la C P hS c1 c2 hl)
theorem q_ladd {x y : Int64} (hd : decode M.2.1 pc = .ok (.ladd, 1))  (k : q_V g M E Z kc ks (pc + 1) ls (.long (x + y) :: st) S) : q_V g M E Z kc ks pc ls (.long y :: .long x :: st) S := by
  intro p e s m args below meth c H locs cells slots la C P hS c1 c2 hl
  exact lv_ladd C.1 C.2.1 hd (k p e s m args below meth c H locs cells slots la C P hS c1 c2 hl)
theorem q_lsub {x y : Int64} (hd : decode M.2.1 pc = .ok (.lsub, 1))  (k : q_V g M E Z kc ks (pc + 1) ls (.long (x - y) :: st) S) : q_V g M E Z kc ks pc ls (.long y :: .long x :: st) S := by
  intro p e s m args below meth c H locs cells slots la C P hS c1 c2 hl
  exact lv_lsub C.1 C.2.1 hd (k p e s m args below meth c H locs cells slots la C P hS c1 c2 hl)
theorem q_lmul {x y : Int64} (hd : decode M.2.1 pc = .ok (.lmul, 1))  (k : q_V g M E Z kc ks (pc + 1) ls (.long (x * y) :: st) S) : q_V g M E Z kc ks pc ls (.long y :: .long x :: st) S := by
  intro p e s m args below meth c H locs cells slots la C P hS c1 c2 hl
  exact lv_lmul C.1 C.2.1 hd (k p e s m args below meth c H locs cells slots la C P hS c1 c2 hl)
theorem q_land {x y : Int64} (hd : decode M.2.1 pc = .ok (.land, 1))  (k : q_V g M E Z kc ks (pc + 1) ls (.long (x &&& y) :: st) S) : q_V g M E Z kc ks pc ls (.long y :: .long x :: st) S := by
  intro p e s m args below meth c H locs cells slots la C P hS c1 c2 hl
  exact lv_land C.1 C.2.1 hd (k p e s m args below meth c H locs cells slots la C P hS c1 c2 hl)
theorem q_lor {x y : Int64} (hd : decode M.2.1 pc = .ok (.lor, 1))  (k : q_V g M E Z kc ks (pc + 1) ls (.long (x ||| y) :: st) S) : q_V g M E Z kc ks pc ls (.long y :: .long x :: st) S := by
  intro p e s m args below meth c H locs cells slots la C P hS c1 c2 hl
  exact lv_lor C.1 C.2.1 hd (k p e s m args below meth c H locs cells slots la C P hS c1 c2 hl)
theorem q_lxor {x y : Int64} (hd : decode M.2.1 pc = .ok (.lxor, 1))  (k : q_V g M E Z kc ks (pc + 1) ls (.long (x ^^^ y) :: st) S) : q_V g M E Z kc ks pc ls (.long y :: .long x :: st) S := by
  intro p e s m args below meth c H locs cells slots la C P hS c1 c2 hl
  exact lv_lxor C.1 C.2.1 hd (k p e s m args below meth c H locs cells slots la C P hS c1 c2 hl)
theorem q_lshl {x : Int64} {y : Int32} (hd : decode M.2.1 pc = .ok (.lshl, 1))  (k : q_V g M E Z kc ks (pc + 1) ls (.long (x <<< (y.toInt64 &&& 63)) :: st) S) : q_V g M E Z kc ks pc ls (.int y :: .long x :: st) S := by
  intro p e s m args below meth c H locs cells slots la C P hS c1 c2 hl
  exact lv_lshl C.1 C.2.1 hd rfl (k p e s m args below meth c H locs cells slots la C P hS c1 c2 hl)
theorem q_lshr {x : Int64} {y : Int32} (hd : decode M.2.1 pc = .ok (.lshr, 1))  (k : q_V g M E Z kc ks (pc + 1) ls (.long (x >>> (y.toInt64 &&& 63)) :: st) S) : q_V g M E Z kc ks pc ls (.int y :: .long x :: st) S := by
  intro p e s m args below meth c H locs cells slots la C P hS c1 c2 hl
  exact lv_lshr C.1 C.2.1 hd rfl (k p e s m args below meth c H locs cells slots la C P hS c1 c2 hl)
theorem q_i2l {x : Int32} (hd : decode M.2.1 pc = .ok (.i2l, 1))  (k : q_V g M E Z kc ks (pc + 1) ls (.long x.toInt64 :: st) S) : q_V g M E Z kc ks pc ls (.int x :: st) S := by
  intro p e s m args below meth c H locs cells slots la C P hS c1 c2 hl
  exact lv_i2l C.1 C.2.1 hd rfl (k p e s m args below meth c H locs cells slots la C P hS c1 c2 hl)
theorem q_l2i {x : Int64} (hd : decode M.2.1 pc = .ok (.l2i, 1))  (k : q_V g M E Z kc ks (pc + 1) ls (.int x.toInt32 :: st) S) : q_V g M E Z kc ks pc ls (.long x :: st) S := by
  intro p e s m args below meth c H locs cells slots la C P hS c1 c2 hl
  exact lv_l2i C.1 C.2.1 hd rfl (k p e s m args below meth c H locs cells slots la C P hS c1 c2 hl)
theorem q_dup {va : Value} (hd : decode M.2.1 pc = .ok (.dup, 1)) (hv : va.category = 1) (k : q_V g M E Z kc ks (pc + 1) ls (va :: va :: st) S) : q_V g M E Z kc ks pc ls (va :: st) S := by
  intro p e s m args below meth c H locs cells slots la C P hS c1 c2 hl
  exact lv_dup C.1 C.2.1 hd hv (k p e s m args below meth c H locs cells slots la C P hS c1 c2 hl)
theorem q_dup2 {va vb : Value} (hd : decode M.2.1 pc = .ok (.dup2, 1)) (hv : va.category = 1) (hb : vb.category = 1) (k : q_V g M E Z kc ks (pc + 1) ls (va :: vb :: va :: vb :: st) S) : q_V g M E Z kc ks pc ls (va :: vb :: st) S := by
  intro p e s m args below meth c H locs cells slots la C P hS c1 c2 hl
  exact lv_dup2_11 C.1 C.2.1 hd hv hb (k p e s m args below meth c H locs cells slots la C P hS c1 c2 hl)
theorem q_null  (hd : decode M.2.1 pc = .ok (.aconst_null, 1))  (k : q_V g M E Z kc ks (pc + 1) ls (.null :: st) S) : q_V g M E Z kc ks pc ls (st) S := by
  intro p e s m args below meth c H locs cells slots la C P hS c1 c2 hl
  exact lv_null C.1 C.2.1 hd (k p e s m args below meth c H locs cells slots la C P hS c1 c2 hl)
theorem q_ifnonnullN {off : Int} (hd : decode M.2.1 pc = .ok (.ifnonnull off, 3))  (k : q_V g M E Z kc ks (pc + 3) ls (st) S) : q_V g M E Z kc ks pc ls (.null :: st) S := by
  intro p e s m args below meth c H locs cells slots la C P hS c1 c2 hl
  exact lv_ifnonnullN C.1 C.2.1 hd (k p e s m args below meth c H locs cells slots la C P hS c1 c2 hl)
theorem q_ifnonnull {a : Nat} {off : Int} (tgt : Nat) (hd : decode M.2.1 pc = .ok (.ifnonnull off, 3)) (ht : (pc : Int) + off = (tgt : Int)) (k : q_V g M E Z kc ks tgt ls st S) : q_V g M E Z kc ks pc ls (q_r g a :: st) S := by
  intro p e s m args below meth c H locs cells slots la C P hS c1 c2 hl
  exact lv_ifnonnull C.1 C.2.1 hd ht (k p e s m args below meth c H locs cells slots la C P hS c1 c2 hl)
theorem q_goto {off : Int} (tgt : Nat) (hd : decode M.2.1 pc = .ok (.goto off, 3)) (ht : (pc : Int) + off = (tgt : Int)) (k : q_V g M E Z kc ks tgt ls st S) : q_V g M E Z kc ks pc ls st S := by
  intro p e s m args below meth c H locs cells slots la C P hS c1 c2 hl
  exact lv_goto C.1 C.2.1 hd ht (k p e s m args below meth c H locs cells slots la C P hS c1 c2 hl)
theorem q_if_eq {x : Int32} {off : Int} (tgt : Nat) (hd : decode M.2.1 pc = .ok (.ifCond .eq off, 3)) (ht : (pc : Int) + off = (tgt : Int)) (kt : x = 0 → q_V g M E Z kc ks tgt ls st S) (kf : ¬ x = 0 → q_V g M E Z kc ks (pc + 3) ls st S) : q_V g M E Z kc ks pc ls (.int x :: st) S := by
  intro p e s m args below meth c H locs cells slots la C P hS c1 c2 hl
  exact lv_if_eq C.1 C.2.1 hd ht (fun h => kt h p e s m args below meth c H locs cells slots la C P hS c1 c2 hl) (fun h => kf h p e s m args below meth c H locs cells slots la C P hS c1 c2 hl)
theorem q_if_ne {x : Int32} {off : Int} (tgt : Nat) (hd : decode M.2.1 pc = .ok (.ifCond .ne off, 3)) (ht : (pc : Int) + off = (tgt : Int)) (kt : ¬ x = 0 → q_V g M E Z kc ks tgt ls st S) (kf : x = 0 → q_V g M E Z kc ks (pc + 3) ls st S) : q_V g M E Z kc ks pc ls (.int x :: st) S := by
  intro p e s m args below meth c H locs cells slots la C P hS c1 c2 hl
  exact lv_if_ne C.1 C.2.1 hd ht (fun h => kt h p e s m args below meth c H locs cells slots la C P hS c1 c2 hl) (fun h => kf h p e s m args below meth c H locs cells slots la C P hS c1 c2 hl)
theorem q_if_lt {x : Int32} {off : Int} (tgt : Nat) (hd : decode M.2.1 pc = .ok (.ifCond .lt off, 3)) (ht : (pc : Int) + off = (tgt : Int)) (kt : x < 0 → q_V g M E Z kc ks tgt ls st S) (kf : ¬ x < 0 → q_V g M E Z kc ks (pc + 3) ls st S) : q_V g M E Z kc ks pc ls (.int x :: st) S := by
  intro p e s m args below meth c H locs cells slots la C P hS c1 c2 hl
  exact lv_if_lt C.1 C.2.1 hd ht (fun h => kt h p e s m args below meth c H locs cells slots la C P hS c1 c2 hl) (fun h => kf h p e s m args below meth c H locs cells slots la C P hS c1 c2 hl)
theorem q_if_ge {x : Int32} {off : Int} (tgt : Nat) (hd : decode M.2.1 pc = .ok (.ifCond .ge off, 3)) (ht : (pc : Int) + off = (tgt : Int)) (kt : 0 ≤ x → q_V g M E Z kc ks tgt ls st S) (kf : ¬ 0 ≤ x → q_V g M E Z kc ks (pc + 3) ls st S) : q_V g M E Z kc ks pc ls (.int x :: st) S := by
  intro p e s m args below meth c H locs cells slots la C P hS c1 c2 hl
  exact lv_if_ge C.1 C.2.1 hd ht (fun h => kt h p e s m args below meth c H locs cells slots la C P hS c1 c2 hl) (fun h => kf h p e s m args below meth c H locs cells slots la C P hS c1 c2 hl)
theorem q_if_gt {x : Int32} {off : Int} (tgt : Nat) (hd : decode M.2.1 pc = .ok (.ifCond .gt off, 3)) (ht : (pc : Int) + off = (tgt : Int)) (kt : 0 < x → q_V g M E Z kc ks tgt ls st S) (kf : ¬ 0 < x → q_V g M E Z kc ks (pc + 3) ls st S) : q_V g M E Z kc ks pc ls (.int x :: st) S := by
  intro p e s m args below meth c H locs cells slots la C P hS c1 c2 hl
  exact lv_if_gt C.1 C.2.1 hd ht (fun h => kt h p e s m args below meth c H locs cells slots la C P hS c1 c2 hl) (fun h => kf h p e s m args below meth c H locs cells slots la C P hS c1 c2 hl)
theorem q_if_le {x : Int32} {off : Int} (tgt : Nat) (hd : decode M.2.1 pc = .ok (.ifCond .le off, 3)) (ht : (pc : Int) + off = (tgt : Int)) (kt : x ≤ 0 → q_V g M E Z kc ks tgt ls st S) (kf : ¬ x ≤ 0 → q_V g M E Z kc ks (pc + 3) ls st S) : q_V g M E Z kc ks pc ls (.int x :: st) S := by
  intro p e s m args below meth c H locs cells slots la C P hS c1 c2 hl
  exact lv_if_le C.1 C.2.1 hd ht (fun h => kt h p e s m args below meth c H locs cells slots la C P hS c1 c2 hl) (fun h => kf h p e s m args below meth c H locs cells slots la C P hS c1 c2 hl)
theorem q_icmp_eq {x y : Int32} {off : Int} (tgt : Nat) (hd : decode M.2.1 pc = .ok (.if_icmp .eq off, 3)) (ht : (pc : Int) + off = (tgt : Int)) (kt : x = y → q_V g M E Z kc ks tgt ls st S) (kf : ¬ x = y → q_V g M E Z kc ks (pc + 3) ls st S) : q_V g M E Z kc ks pc ls (.int y :: .int x :: st) S := by
  intro p e s m args below meth c H locs cells slots la C P hS c1 c2 hl
  exact lv_icmp_eq C.1 C.2.1 hd ht (fun h => kt h p e s m args below meth c H locs cells slots la C P hS c1 c2 hl) (fun h => kf h p e s m args below meth c H locs cells slots la C P hS c1 c2 hl)
theorem q_icmp_ne {x y : Int32} {off : Int} (tgt : Nat) (hd : decode M.2.1 pc = .ok (.if_icmp .ne off, 3)) (ht : (pc : Int) + off = (tgt : Int)) (kt : ¬ x = y → q_V g M E Z kc ks tgt ls st S) (kf : x = y → q_V g M E Z kc ks (pc + 3) ls st S) : q_V g M E Z kc ks pc ls (.int y :: .int x :: st) S := by
  intro p e s m args below meth c H locs cells slots la C P hS c1 c2 hl
  exact lv_icmp_ne C.1 C.2.1 hd ht (fun h => kt h p e s m args below meth c H locs cells slots la C P hS c1 c2 hl) (fun h => kf h p e s m args below meth c H locs cells slots la C P hS c1 c2 hl)
theorem q_icmp_lt {x y : Int32} {off : Int} (tgt : Nat) (hd : decode M.2.1 pc = .ok (.if_icmp .lt off, 3)) (ht : (pc : Int) + off = (tgt : Int)) (kt : x < y → q_V g M E Z kc ks tgt ls st S) (kf : ¬ x < y → q_V g M E Z kc ks (pc + 3) ls st S) : q_V g M E Z kc ks pc ls (.int y :: .int x :: st) S := by
  intro p e s m args below meth c H locs cells slots la C P hS c1 c2 hl
  exact lv_icmp_lt C.1 C.2.1 hd ht (fun h => kt h p e s m args below meth c H locs cells slots la C P hS c1 c2 hl) (fun h => kf h p e s m args below meth c H locs cells slots la C P hS c1 c2 hl)
theorem q_icmp_ge {x y : Int32} {off : Int} (tgt : Nat) (hd : decode M.2.1 pc = .ok (.if_icmp .ge off, 3)) (ht : (pc : Int) + off = (tgt : Int)) (kt : y ≤ x → q_V g M E Z kc ks tgt ls st S) (kf : ¬ y ≤ x → q_V g M E Z kc ks (pc + 3) ls st S) : q_V g M E Z kc ks pc ls (.int y :: .int x :: st) S := by
  intro p e s m args below meth c H locs cells slots la C P hS c1 c2 hl
  exact lv_icmp_ge C.1 C.2.1 hd ht (fun h => kt h p e s m args below meth c H locs cells slots la C P hS c1 c2 hl) (fun h => kf h p e s m args below meth c H locs cells slots la C P hS c1 c2 hl)
theorem q_icmp_gt {x y : Int32} {off : Int} (tgt : Nat) (hd : decode M.2.1 pc = .ok (.if_icmp .gt off, 3)) (ht : (pc : Int) + off = (tgt : Int)) (kt : y < x → q_V g M E Z kc ks tgt ls st S) (kf : ¬ y < x → q_V g M E Z kc ks (pc + 3) ls st S) : q_V g M E Z kc ks pc ls (.int y :: .int x :: st) S := by
  intro p e s m args below meth c H locs cells slots la C P hS c1 c2 hl
  exact lv_icmp_gt C.1 C.2.1 hd ht (fun h => kt h p e s m args below meth c H locs cells slots la C P hS c1 c2 hl) (fun h => kf h p e s m args below meth c H locs cells slots la C P hS c1 c2 hl)
theorem q_icmp_le {x y : Int32} {off : Int} (tgt : Nat) (hd : decode M.2.1 pc = .ok (.if_icmp .le off, 3)) (ht : (pc : Int) + off = (tgt : Int)) (kt : x ≤ y → q_V g M E Z kc ks tgt ls st S) (kf : ¬ x ≤ y → q_V g M E Z kc ks (pc + 3) ls st S) : q_V g M E Z kc ks pc ls (.int y :: .int x :: st) S := by
  intro p e s m args below meth c H locs cells slots la C P hS c1 c2 hl
  exact lv_icmp_le C.1 C.2.1 hd ht (fun h => kt h p e s m args below meth c H locs cells slots la C P hS c1 c2 hl) (fun h => kf h p e s m args below meth c H locs cells slots la C P hS c1 c2 hl)
theorem q_lcmp_eq {x y : Int64} {off : Int} (tgt : Nat) (hd0 : decode M.2.1 pc = .ok (.lcmp, 1)) (hd : decode M.2.1 (pc + 1) = .ok (.ifCond .eq off, 3)) (ht : ((pc + 1 : Nat) : Int) + off = (tgt : Int)) (kt : x = y → q_V g M E Z kc ks tgt ls st S) (kf : ¬ x = y → q_V g M E Z kc ks (pc + 4) ls st S) : q_V g M E Z kc ks pc ls (.long y :: .long x :: st) S := by
  intro p e s m args below meth c H locs cells slots la C P hS c1 c2 hl
  exact W.lcmp C.1 C.2.1 hd0 (lv_if_eq C.1 C.2.1 hd ht (fun h => kt ((lg_cmp_eq x y).mp h) p e s m args below meth c H locs cells slots la C P hS c1 c2 hl) (fun h => kf (fun e => h ((lg_cmp_eq x y).mpr e)) p e s m args below meth c H locs cells slots la C P hS c1 c2 hl))
theorem q_lcmp_ne {x y : Int64} {off : Int} (tgt : Nat) (hd0 : decode M.2.1 pc = .ok (.lcmp, 1)) (hd : decode M.2.1 (pc + 1) = .ok (.ifCond .ne off, 3)) (ht : ((pc + 1 : Nat) : Int) + off = (tgt : Int)) (kt : ¬ x = y → q_V g M E Z kc ks tgt ls st S) (kf : x = y → q_V g M E Z kc ks (pc + 4) ls st S) : q_V g M E Z kc ks pc ls (.long y :: .long x :: st) S := by
  intro p e s m args below meth c H locs cells slots la C P hS c1 c2 hl
  exact W.lcmp C.1 C.2.1 hd0 (lv_if_ne C.1 C.2.1 hd ht (fun h => kt (fun e => h ((lg_cmp_eq x y).mpr e)) p e s m args below meth c H locs cells slots la C P hS c1 c2 hl) (fun h => kf ((lg_cmp_eq x y).mp h) p e s m args below meth c H locs cells slots la C P hS c1 c2 hl))
theorem q_lcmp_lt {x y : Int64} {off : Int} (tgt : Nat) (hd0 : decode M.2.1 pc = .ok (.lcmp, 1)) (hd : decode M.2.1 (pc + 1) = .ok (.ifCond .lt off, 3)) (ht : ((pc + 1 : Nat) : Int) + off = (tgt : Int)) (kt : x < y → q_V g M E Z kc ks tgt ls st S) (kf : ¬ x < y → q_V g M E Z kc ks (pc + 4) ls st S) : q_V g M E Z kc ks pc ls (.long y :: .long x :: st) S := by
  intro p e s m args below meth c H locs cells slots la C P hS c1 c2 hl
  exact W.lcmp C.1 C.2.1 hd0 (lv_if_lt C.1 C.2.1 hd ht (fun h => kt ((lg_cmp_lt x y).mp h) p e s m args below meth c H locs cells slots la C P hS c1 c2 hl) (fun h => kf (fun e => h ((lg_cmp_lt x y).mpr e)) p e s m args below meth c H locs cells slots la C P hS c1 c2 hl))
theorem q_lcmp_ge {x y : Int64} {off : Int} (tgt : Nat) (hd0 : decode M.2.1 pc = .ok (.lcmp, 1)) (hd : decode M.2.1 (pc + 1) = .ok (.ifCond .ge off, 3)) (ht : ((pc + 1 : Nat) : Int) + off = (tgt : Int)) (kt : y ≤ x → q_V g M E Z kc ks tgt ls st S) (kf : ¬ y ≤ x → q_V g M E Z kc ks (pc + 4) ls st S) : q_V g M E Z kc ks pc ls (.long y :: .long x :: st) S := by
  intro p e s m args below meth c H locs cells slots la C P hS c1 c2 hl
  exact W.lcmp C.1 C.2.1 hd0 (lv_if_ge C.1 C.2.1 hd ht (fun h => kt ((lg_cmp_ge x y).mp h) p e s m args below meth c H locs cells slots la C P hS c1 c2 hl) (fun h => kf (fun e => h ((lg_cmp_ge x y).mpr e)) p e s m args below meth c H locs cells slots la C P hS c1 c2 hl))
theorem q_lcmp_gt {x y : Int64} {off : Int} (tgt : Nat) (hd0 : decode M.2.1 pc = .ok (.lcmp, 1)) (hd : decode M.2.1 (pc + 1) = .ok (.ifCond .gt off, 3)) (ht : ((pc + 1 : Nat) : Int) + off = (tgt : Int)) (kt : y < x → q_V g M E Z kc ks tgt ls st S) (kf : ¬ y < x → q_V g M E Z kc ks (pc + 4) ls st S) : q_V g M E Z kc ks pc ls (.long y :: .long x :: st) S := by
  intro p e s m args below meth c H locs cells slots la C P hS c1 c2 hl
  exact W.lcmp C.1 C.2.1 hd0 (lv_if_gt C.1 C.2.1 hd ht (fun h => kt ((lg_cmp_gt x y).mp h) p e s m args below meth c H locs cells slots la C P hS c1 c2 hl) (fun h => kf (fun e => h ((lg_cmp_gt x y).mpr e)) p e s m args below meth c H locs cells slots la C P hS c1 c2 hl))
theorem q_lcmp_le {x y : Int64} {off : Int} (tgt : Nat) (hd0 : decode M.2.1 pc = .ok (.lcmp, 1)) (hd : decode M.2.1 (pc + 1) = .ok (.ifCond .le off, 3)) (ht : ((pc + 1 : Nat) : Int) + off = (tgt : Int)) (kt : x ≤ y → q_V g M E Z kc ks tgt ls st S) (kf : ¬ x ≤ y → q_V g M E Z kc ks (pc + 4) ls st S) : q_V g M E Z kc ks pc ls (.long y :: .long x :: st) S := by
  intro p e s m args below meth c H locs cells slots la C P hS c1 c2 hl
  exact W.lcmp C.1 C.2.1 hd0 (lv_if_le C.1 C.2.1 hd ht (fun h => kt ((lg_cmp_le x y).mp h) p e s m args below meth c H locs cells slots la C P hS c1 c2 hl) (fun h => kf (fun e => h ((lg_cmp_le x y).mpr e)) p e s m args below meth c H locs cells slots la C P hS c1 c2 hl))
theorem q_tblIn {dflt lo hi off : Int} {offs : Array Int} {len : Nat} {x : Int32} (tgt : Nat) (hd : decode M.2.1 pc = .ok (.tableswitch dflt lo hi offs, len)) (h1 : ¬ x.toInt < lo) (h2 : ¬ hi < x.toInt) (ho : offs[(x.toInt - lo).toNat]? = some off) (ht : (pc : Int) + off = (tgt : Int)) (k : q_V g M E Z kc ks tgt ls st S) : q_V g M E Z kc ks pc ls (.int x :: st) S := by
  intro p e s m args below meth c H locs cells slots la C P hS c1 c2 hl
  exact lv_tableIn C.1 C.2.1 hd h1 h2 ho ht (k p e s m args below meth c H locs cells slots la C P hS c1 c2 hl)
theorem q_tblOut {dflt lo hi : Int} {offs : Array Int} {len : Nat} {x : Int32} (tgt : Nat) (hd : decode M.2.1 pc = .ok (.tableswitch dflt lo hi offs, len)) (h : x.toInt < lo ∨ hi < x.toInt) (ht : (pc : Int) + dflt = (tgt : Int)) (k : q_V g M E Z kc ks tgt ls st S) : q_V g M E Z kc ks pc ls (.int x :: st) S := by
  intro p e s m args below meth c H locs cells slots la C P hS c1 c2 hl
  exact lv_tableOut C.1 C.2.1 hd h ht (k p e s m args below meth c H locs cells slots la C P hS c1 c2 hl)
theorem q_getv {a ci j idx : Nat} (hd : decode M.2.1 pc = .ok (.getfield idx, 3)) (hF : q_FL M.1.cls idx ci j) (hy : q_lay a = (0, ci)) (ha : a < S.1) (k : q_V g M E Z kc ks (pc + 3) ls (q_val g S (q_ty ci j) a j :: st) S) : q_V g M E Z kc ks pc ls (q_r g a :: st) S := by
  intro p e s m args below meth c H locs cells slots la C P hS c1 c2 hl
  have he : (q_ws g S)[a]? = some (g.2.1 + a, .inr (ci, q_fs g S ci a)) := by rw [q_ws_at ha]; simp [q_e, hy]
  exact va_get (C := (q_cl ci).1) (T := (q_cl ci).2.1) (N := (q_cl ci).2.2) C.1 C.2.1 C.2.2.2.2.2.1 (q_cl_in ci hF.1) C.2.2.2.2.1 C.2.2.2.2.2.2.2.2.1.1 P.2 a he (q_cl_at ci hF.1) j hF.2.1 (C.2.2.2.2.2.1 _ hF.2.2.1) (fun x h => by rw [hF.2.2.2] at h; exact h) (q_fs_at hF.2.1) hd (k p e s m args below meth c H locs cells slots la C P hS c1 c2 hl)
theorem q_geti {a ci j idx : Nat} (hd : decode M.2.1 pc = .ok (.getfield idx, 3)) (hF : q_FL M.1.cls idx ci j) (ht : q_kd (q_ty ci j) = 0) (hy : q_lay a = (0, ci)) (ha : a < S.1) (k : q_V g M E Z kc ks (pc + 3) ls (.int (S.2.1 a j) :: st) S) : q_V g M E Z kc ks pc ls (q_r g a :: st) S :=
  q_getv hd hF hy ha (by rw [show q_val g S (q_ty ci j) a j = .int (S.2.1 a j) by simp [q_val, ht]]; exact k)
theorem q_getl {a ci j idx : Nat} (hd : decode M.2.1 pc = .ok (.getfield idx, 3)) (hF : q_FL M.1.cls idx ci j) (ht : q_kd (q_ty ci j) = 1) (hy : q_lay a = (0, ci)) (ha : a < S.1) (k : q_V g M E Z kc ks (pc + 3) ls (.long (S.2.2.1 a j) :: st) S) : q_V g M E Z kc ks pc ls (q_r g a :: st) S :=
  q_getv hd hF hy ha (by rw [show q_val g S (q_ty ci j) a j = .long (S.2.2.1 a j) by simp [q_val, ht]]; exact k)
theorem q_getr {a ci j idx t : Nat} (hd : decode M.2.1 pc = .ok (.getfield idx, 3)) (hF : q_FL M.1.cls idx ci j) (ht : q_kd (q_ty ci j) = 2) (hy : q_lay a = (0, ci)) (ha : a < S.1) (hf : S.2.2.2 a j = some t) (k : q_V g M E Z kc ks (pc + 3) ls (q_r g t :: st) S) : q_V g M E Z kc ks pc ls (q_r g a :: st) S :=
  q_getv hd hF hy ha (by rw [show q_val g S (q_ty ci j) a j = q_r g t by simp [q_val, ht, hf, q_o, va_rf, q_r]]; exact k)
theorem q_getn {a ci j idx : Nat} (hd : decode M.2.1 pc = .ok (.getfield idx, 3)) (hF : q_FL M.1.cls idx ci j) (ht : q_kd (q_ty ci j) = 2) (hy : q_lay a = (0, ci)) (ha : a < S.1) (hf : S.2.2.2 a j = none) (k : q_V g M E Z kc ks (pc + 3) ls (.null :: st) S) : q_V g M E Z kc ks pc ls (q_r g a :: st) S :=
  q_getv hd hF hy ha (by rw [show q_val g S (q_ty ci j) a j = .null by simp [q_val, ht, hf, q_o, va_rf]]; exact k)
/-- writing a field: the general rows (the kit's, with the heap's size) -/
theorem q_putv {a ci j idx : Nat} {v : Value} {S' : q_S} (hd : decode M.2.1 pc = .ok (.putfield idx, 3)) (hF : q_FL M.1.cls idx ci j) (hy : q_lay a = (0, ci)) (ha : a < S.1) (hfin : ((q_cl ci).2.1 j).2.2.2 = false ∨ (((q_cl ci).2.1 j).2.2.2 = true ∧ M.1.name = "<init>" ∧ (q_cl ci).1 = M.1.cls)) (hn : narrow (q_ty ci j) v = v) (hfit : fits (q_ty ci j) v = true)
    (hn1 : S'.1 = S.1) (hv : q_val g S' (q_ty ci j) a j = v) (hr : ∀ i, ¬ i = j → q_val g S' (q_ty ci i) a i = q_val g S (q_ty ci i) a i) (he : ∀ k, ¬ k = a → q_e g S' k = q_e g S k) (k : q_V g M E Z kc ks (pc + 3) ls st S') : q_V g M E Z kc ks pc ls (v :: q_r g a :: st) S := by
  intro p e s m args below meth c H locs cells slots la C P hS c1 c2 hl
  have hat : (q_ws g S)[a]? = some (g.2.1 + a, .inr (ci, q_fs g S ci a)) := by rw [q_ws_at ha]; simp [q_e, hy]
  have hset : (q_ws g S).set a (g.2.1 + a, .inr (ci, (q_fs g S ci a).set j v)) = q_ws g S' := q_ws_set ha hn1 (by rw [q_fs_set hF.2.1 hv hr]; simp [q_e, hy]) he
  have hts := C.2.2.2.2.2.1
  have hown := C.2.2.2.2.1
  have hK := C.2.2.2.2.2.2.2.2.1.1
  have hc := q_cl_at ci hF.1
  have hin := q_cl_in ci hF.1
  have hap := va_apart (own := M.1.cls) hts hin (q_ty ci) (q_cl_ty ci hF.1) (q_cl_nm ci hF.1) hK hc
  obtain ⟨r, h1, cell, q1, q2, q3, q4⟩ := P.2 a _ hat
  have hr2 : r = q_cl ci := Option.some.inj (h1.symm.trans hc)
  subst hr2
  obtain ⟨hS2, hfc, kC, hkC, hkind⟩ := hK.1 ci _ hc
  obtain ⟨cf, kf, fi, f, hi, hsl⟩ := hS2 j hF.2.1
  have hlay := hts _ (hin _ (u_in_lay hF.2.1))
  have hlink := hts _ hF.2.2.1
  have hi' := hi
  rw [hF.2.2.2] at hi'
  have hst := (u_facts hfc hkC (u_lays hts hin hF.2.1) hi).1
  have hlen : j < (q_fs g S ci a).length := by simp [q_fs]; exact hF.2.1
  have fin : ∀ (H' : Heap) (e1 : H'[g.2.1 + a]? = some (cell.setSlot f.slot v)) (e2 : H'.size = H.size) (e3 : ∀ q, q ≠ g.2.1 + a → H'[q]? = H[q]?), W p g.1 e (q_R M) s m args below meth c H' (locs ++ [⟨g.2.1 + a, f.slot⟩]) cells slots (Z below args s) (F0 m (pc + 3) la st) := by
    intro H' e1 e2 e3
    rw [hsl] at e1 ⊢
    have hP1 := P.2.set q_ws_D hat (e := .inr (ci, (q_fs g S ci a).set j v)) ⟨_, hc, t_OB.to (V := updV (vp_V (q_fs g S ci a)) j v) ⟨_, e1, q2, q3, t_set q4 hap hF.2.1 v⟩ (fun j _ => vp_updV_set hlen v j)⟩ e3
    rw [hset] at hP1
    exact k p e s m args below meth c H' _ cells slots la C ⟨by rw [e2, P.1, hn1], hP1⟩ (hS.put e2 e3 (Nat.le_add_right _ _)) c1 c2 hl
  rcases hfin with hfin | ⟨hfin, hin2, hdecl⟩
  · unfold u_lay at hlay
    rw [if_neg (by rw [hfin]; decide)] at hlay
    have h6 := u_store hfc hkC hkind hlay hi (q_cl_ty ci hF.1 j hF.2.1) hn hfit
    exact W.putK C.1 C.2.1 (f := f) ⟨hown, hlink, ⟨_, _, _, hi'⟩, hst⟩ (by rw [q2]; exact h6) q1 q3 (by rw [hsl]; exact k2_hasslot (q4 j hF.2.1)) rfl rfl hd fin
  · unfold u_lay at hlay
    rw [if_pos hfin] at hlay
    have hcf : m.cls = cf := by
      obtain ⟨_, _, c', _, _, _, -, -, hf', -, -, -, hown2, -⟩ := Cond.laysFinal_spec hlay
      have e1 : c' = cf := by have := hi.symm.trans hf'; simp at this; exact this.1.symm
      rw [hF.2.2.2, hdecl] at hown2
      rw [← e1]; exact Option.some.inj (hown.symm.trans hown2)
    have h6 := u_fits hfc hkC hkind (Or.inr hlay) hi (q_cl_ty ci hF.1 j hF.2.1) hn hfit
    exact W.putFinK C.1 C.2.1 hown hlink hi' hst hcf (C.2.2.2.2.2.2.2.1 hin2) (by rw [q2]; exact h6) q1 q3 (by rw [hsl]; exact k2_hasslot (q4 j hF.2.1)) rfl rfl hd fin
theorem q_puti {a ci j idx : Nat} {x : Int32} (hd : decode M.2.1 pc = .ok (.putfield idx, 3)) (hF : q_FL M.1.cls idx ci j) (ht : q_kd (q_ty ci j) = 0) (hy : q_lay a = (0, ci)) (ha : a < S.1) (hfin : ((q_cl ci).2.1 j).2.2.2 = false) (hn : narrow (q_ty ci j) (.int x) = .int x) (hfit : fits (q_ty ci j) (.int x) = true) (k : q_V g M E Z kc ks (pc + 3) ls st (q_pi S a j x)) : q_V g M E Z kc ks pc ls (.int x :: q_r g a :: st) S :=
  q_putv (S' := q_pi S a j x) hd hF hy ha (Or.inl hfin) hn hfit rfl (by simp [q_val, ht, q_pi, q_up]) (fun i hi => by simp [q_val, q_pi, q_up, hi]) (fun k hk => q_e_congr (by simp [q_pi, q_up_row hk]) (by simp [q_pi, q_up_row hk]) (by simp [q_pi, q_up_row hk])) k
theorem q_putl {a ci j idx : Nat} {x : Int64} (hd : decode M.2.1 pc = .ok (.putfield idx, 3)) (hF : q_FL M.1.cls idx ci j) (ht : q_kd (q_ty ci j) = 1) (hy : q_lay a = (0, ci)) (ha : a < S.1) (hfin : ((q_cl ci).2.1 j).2.2.2 = false) (hn : narrow (q_ty ci j) (.long x) = .long x) (hfit : fits (q_ty ci j) (.long x) = true) (k : q_V g M E Z kc ks (pc + 3) ls st (q_pl S a j x)) : q_V g M E Z kc ks pc ls (.long x :: q_r g a :: st) S :=
  q_putv (S' := q_pl S a j x) hd hF hy ha (Or.inl hfin) hn hfit rfl (by simp [q_val, ht, q_pl, q_up]) (fun i hi => by simp [q_val, q_pl, q_up, hi]) (fun k hk => q_e_congr (by simp [q_pl, q_up_row hk]) (by simp [q_pl, q_up_row hk]) (by simp [q_pl, q_up_row hk])) k
theorem q_putr {a ci j idx : Nat} {x : Nat} (hd : decode M.2.1 pc = .ok (.putfield idx, 3)) (hF : q_FL M.1.cls idx ci j) (ht : q_kd (q_ty ci j) = 2) (hy : q_lay a = (0, ci)) (ha : a < S.1) (hfin : ((q_cl ci).2.1 j).2.2.2 = false) (hn : narrow (q_ty ci j) (q_r g x) = q_r g x) (hfit : fits (q_ty ci j) (q_r g x) = true) (k : q_V g M E Z kc ks (pc + 3) ls st (q_pr S a j (some x))) : q_V g M E Z kc ks pc ls (q_r g x :: q_r g a :: st) S :=
  q_putv (S' := q_pr S a j (some x)) hd hF hy ha (Or.inl hfin) hn hfit rfl (by simp [q_val, ht, q_pr, q_up, q_o, va_rf, q_r]) (fun i hi => by simp [q_val, q_pr, q_up, hi]) (fun k hk => q_e_congr (by simp [q_pr, q_up_row hk]) (by simp [q_pr, q_up_row hk]) (by simp [q_pr, q_up_row hk])) k
theorem q_putn {a ci j idx : Nat}  (hd : decode M.2.1 pc = .ok (.putfield idx, 3)) (hF : q_FL M.1.cls idx ci j) (ht : q_kd (q_ty ci j) = 2) (hy : q_lay a = (0, ci)) (ha : a < S.1) (hfin : ((q_cl ci).2.1 j).2.2.2 = false) (hn : narrow (q_ty ci j) (.null) = .null) (hfit : fits (q_ty ci j) (.null) = true) (k : q_V g M E Z kc ks (pc + 3) ls st (q_pr S a j none)) : q_V g M E Z kc ks pc ls (.null :: q_r g a :: st) S :=
  q_putv (S' := q_pr S a j none) hd hF hy ha (Or.inl hfin) hn hfit rfl (by simp [q_val, ht, q_pr, q_up, q_o, va_rf, q_r]) (fun i hi => by simp [q_val, q_pr, q_up, hi]) (fun k hk => q_e_congr (by simp [q_pr, q_up_row hk]) (by simp [q_pr, q_up_row hk]) (by simp [q_pr, q_up_row hk])) k
theorem q_putrF {a ci j idx : Nat} {x : Nat} (hd : decode M.2.1 pc = .ok (.putfield idx, 3)) (hF : q_FL M.1.cls idx ci j) (ht : q_kd (q_ty ci j) = 2) (hy : q_lay a = (0, ci)) (ha : a < S.1) (hfin : ((q_cl ci).2.1 j).2.2.2 = true) (hin : M.1.name = "<init>") (hown : (q_cl ci).1 = M.1.cls) (hn : narrow (q_ty ci j) (q_r g x) = q_r g x) (hfit : fits (q_ty ci j) (q_r g x) = true) (k : q_V g M E Z kc ks (pc + 3) ls st (q_pr S a j (some x))) : q_V g M E Z kc ks pc ls (q_r g x :: q_r g a :: st) S :=
  q_putv (S' := q_pr S a j (some x)) hd hF hy ha (Or.inr ⟨hfin, hin, hown⟩) hn hfit rfl (by simp [q_val, ht, q_pr, q_up, q_o, va_rf, q_r]) (fun i hi => by simp [q_val, q_pr, q_up, hi]) (fun k hk => q_e_congr (by simp [q_pr, q_up_row hk]) (by simp [q_pr, q_up_row hk]) (by simp [q_pr, q_up_row hk])) k
theorem q_iald {a len : Nat} {i : Int32} (hd : decode M.2.1 pc = .ok (.iaload, 1)) (hy : q_lay a = (1, len)) (ha : a < S.1) (hin : vp_in i len) (k : q_V g M E Z kc ks (pc + 1) ls (.int (S.2.1 a i.toNatClampNeg) :: st) S) : q_V g M E Z kc ks pc ls (.int i :: q_r g a :: st) S := by
  intro p e s m args below meth c H locs cells slots la C P hS c1 c2 hl
  exact va_iald C.1 C.2.1 C.2.2.2.2.2.2.2.2.1.1 P.2 a 0 (f := S.2.1 a) (n := len) (by rw [q_ws_at ha]; simp [q_e, hy]) rfl hin hd (k p e s m args below meth c H locs cells slots la C P hS c1 c2 hl)
theorem q_zald {a len : Nat} {i : Int32} (hd : decode M.2.1 pc = .ok (.baload, 1)) (hy : q_lay a = (3, len)) (ha : a < S.1) (hin : vp_in i len) (k : q_V g M E Z kc ks (pc + 1) ls (.int (S.2.1 a i.toNatClampNeg) :: st) S) : q_V g M E Z kc ks pc ls (.int i :: q_r g a :: st) S := by
  intro p e s m args below meth c H locs cells slots la C P hS c1 c2 hl
  exact va_zald C.1 C.2.1 C.2.2.2.2.2.2.2.2.1.1 P.2 a 2 (f := S.2.1 a) (n := len) (by rw [q_ws_at ha]; simp [q_e, hy]) rfl hin hd (k p e s m args below meth c H locs cells slots la C P hS c1 c2 hl)
theorem q_lald {a len : Nat} {i : Int32} (hd : decode M.2.1 pc = .ok (.laload, 1)) (hy : q_lay a = (2, len)) (ha : a < S.1) (hin : vp_in i len) (k : q_V g M E Z kc ks (pc + 1) ls (.long (S.2.2.1 a i.toNatClampNeg) :: st) S) : q_V g M E Z kc ks pc ls (.int i :: q_r g a :: st) S := by
  intro p e s m args below meth c H locs cells slots la C P hS c1 c2 hl
  exact va_lald C.1 C.2.1 C.2.2.2.2.2.2.2.2.1.1 P.2 a 1 (f := S.2.2.1 a) (n := len) (by rw [q_ws_at ha]; simp [q_e, hy]) rfl hin hd (k p e s m args below meth c H locs cells slots la C P hS c1 c2 hl)
theorem q_aald {a len t : Nat} {i : Int32} (hd : decode M.2.1 pc = .ok (.aaload, 1)) (hy : q_lay a = (4, len) ∨ q_lay a = (5, len)) (ha : a < S.1) (hin : vp_in i len) (hf : S.2.2.2 a i.toNatClampNeg = some t) (k : q_V g M E Z kc ks (pc + 1) ls (q_r g t :: st) S) : q_V g M E Z kc ks pc ls (.int i :: q_r g a :: st) S := by
  intro p e s m args below meth c H locs cells slots la C P hS c1 c2 hl
  have hv : va_rf ((fun i => q_o g (S.2.2.2 a i)) i.toNatClampNeg) = q_r g t := by simp [hf, q_o, va_rf, q_r]
  rcases hy with hy | hy
  · refine va_aldq C.1 C.2.1 C.2.2.2.2.2.2.2.2.1.1 P.2 a 3 (f := fun i => q_o g (S.2.2.2 a i)) (n := len) (by rw [q_ws_at ha]; simp [q_e, hy]) rfl hin hd ?_
    rw [hv]
    exact k p e s m args below meth c H locs cells slots la C P hS c1 c2 hl
  · refine va_aldq C.1 C.2.1 C.2.2.2.2.2.2.2.2.1.1 P.2 a 4 (f := fun i => q_o g (S.2.2.2 a i)) (n := len) (by rw [q_ws_at ha]; simp [q_e, hy]) rfl hin hd ?_
    rw [hv]
    exact k p e s m args below meth c H locs cells slots la C P hS c1 c2 hl
theorem q_alen {a len c : Nat} {v : Int32} (hd : decode M.2.1 pc = .ok (.arraylength, 1)) (hy : q_lay a = (1, len)) (ha : a < S.1) (hv : Int32.ofNat len = v) (k : q_V g M E Z kc ks (pc + 1) ls (.int v :: st) S) : q_V g M E Z kc ks pc ls (q_r g a :: st) S := by
  intro p e s m args below meth c H locs cells slots la C P hS c1 c2 hl
  exact va_alen C.1 C.2.1 C.2.2.2.2.2.2.2.2.1.1 P.2 a 0 (x := (len, .inl (S.2.1 a))) (by rw [q_ws_at ha]; simp [q_e, hy]) (ty := .int) rfl hv hd (k p e s m args below meth c H locs cells slots la C P hS c1 c2 hl)
theorem q_iast {a len : Nat} {i : Int32} {x : Int32} (hd : decode M.2.1 pc = .ok (.iastore, 1)) (hy : q_lay a = (1, len)) (ha : a < S.1) (hin : vp_in i len) (k : q_V g M E Z kc ks (pc + 1) ls st (q_pi S a i.toNatClampNeg x)) : q_V g M E Z kc ks pc ls (.int x :: .int i :: q_r g a :: st) S := by
  intro p e s m args below meth c H locs cells slots la C P hS c1 c2 hl
  have hat : (q_ws g S)[a]? = some (g.2.1 + a, .inl (g.2.2.2.1 0, len, .inl (S.2.1 a))) := by rw [q_ws_at ha]; simp [q_e, hy]
  have hK := C.2.2.2.2.2.2.2.2.1.1
  have hset : ∀ e : va_E, q_e g (q_pi S a i.toNatClampNeg x) a = e → (q_ws g S).set a (g.2.1 + a, e) = q_ws g (q_pi S a i.toNatClampNeg x) := fun e he => q_ws_set ha rfl he (fun k hk => q_e_congr (by simp [q_pi, q_up_row hk]) (by simp [q_pi, q_up_row hk]) (by simp [q_pi, q_up_row hk]))
  refine W.iast C.1 C.2.1 (P.2 a _ hat) ((hK.2 0 _ rfl).1 len (fun j => .int (S.2.1 a j))) (fun q => by cases q) (by show ¬ (i < 0 ∨ (arrV _ _ _).slots.size ≤ _); rw [arrV_size]; exact hin) rfl rfl hd fun H1 e1 z oq => ?_
  refine k p e s m args below meth c H1 _ cells slots la C ⟨by rw [z, P.1]; rfl, ?_⟩ (hS.put z oq (Nat.le_add_right _ _)) c1 c2 hl
  rw [← hset _ rfl]
  refine P.2.set q_ws_D hat ?_ oq
  have hq : q_e g (q_pi S a i.toNatClampNeg x) a = .inl (g.2.2.2.1 0, len, .inl (q_up S.2.1 a i.toNatClampNeg x a)) := by simp [q_e, hy, q_pi]
  rw [hq]
  show H1[g.2.1 + a]? = some (vp_cell _ _)
  rw [e1]
  rw [vp_cell_i, vp_cell_i, arrV_store]
  congr 2
  funext q
  by_cases hq : q = i.toNatClampNeg
  · subst hq
    simp [updV, q_up]
  · simp [updV, q_up, hq]
theorem q_last {a len : Nat} {i : Int32} {x : Int64} (hd : decode M.2.1 pc = .ok (.lastore, 1)) (hy : q_lay a = (2, len)) (ha : a < S.1) (hin : vp_in i len) (k : q_V g M E Z kc ks (pc + 1) ls st (q_pl S a i.toNatClampNeg x)) : q_V g M E Z kc ks pc ls (.long x :: .int i :: q_r g a :: st) S := by
  intro p e s m args below meth c H locs cells slots la C P hS c1 c2 hl
  have hat : (q_ws g S)[a]? = some (g.2.1 + a, .inl (g.2.2.2.1 1, len, .inr (.inl (S.2.2.1 a)))) := by rw [q_ws_at ha]; simp [q_e, hy]
  have hK := C.2.2.2.2.2.2.2.2.1.1
  have hset : ∀ e : va_E, q_e g (q_pl S a i.toNatClampNeg x) a = e → (q_ws g S).set a (g.2.1 + a, e) = q_ws g (q_pl S a i.toNatClampNeg x) := fun e he => q_ws_set ha rfl he (fun k hk => q_e_congr (by simp [q_pl, q_up_row hk]) (by simp [q_pl, q_up_row hk]) (by simp [q_pl, q_up_row hk]))
  refine W.last C.1 C.2.1 (P.2 a _ hat) ((hK.2 1 _ rfl).1 len (fun j => .long (S.2.2.1 a j))) (fun q => by cases q) (by show ¬ (i < 0 ∨ (arrV _ _ _).slots.size ≤ _); rw [arrV_size]; exact hin) rfl rfl hd fun H1 e1 z oq => ?_
  refine k p e s m args below meth c H1 _ cells slots la C ⟨by rw [z, P.1]; rfl, ?_⟩ (hS.put z oq (Nat.le_add_right _ _)) c1 c2 hl
  rw [← hset _ rfl]
  refine P.2.set q_ws_D hat ?_ oq
  have hq : q_e g (q_pl S a i.toNatClampNeg x) a = .inl (g.2.2.2.1 1, len, .inr (.inl (q_up S.2.2.1 a i.toNatClampNeg x a))) := by simp [q_e, hy, q_pl]
  rw [hq]
  show H1[g.2.1 + a]? = some (vp_cell _ _)
  rw [e1]
  rw [vp_cell_l, vp_cell_l, arrV_store]
  congr 2
  funext q
  by_cases hq : q = i.toNatClampNeg
  · subst hq
    simp [updV, q_up]
  · simp [updV, q_up, hq]
theorem q_zast {a len : Nat} {i : Int32} {x : Int32} (hd : decode M.2.1 pc = .ok (.bastore, 1)) (hy : q_lay a = (3, len)) (ha : a < S.1) (hin : vp_in i len) (hnar : narrow .boolean (.int x) = .int x) (k : q_V g M E Z kc ks (pc + 1) ls st (q_pi S a i.toNatClampNeg x)) : q_V g M E Z kc ks pc ls (.int x :: .int i :: q_r g a :: st) S := by
  intro p e s m args below meth c H locs cells slots la C P hS c1 c2 hl
  have hat : (q_ws g S)[a]? = some (g.2.1 + a, .inl (g.2.2.2.1 2, len, .inl (S.2.1 a))) := by rw [q_ws_at ha]; simp [q_e, hy]
  have hK := C.2.2.2.2.2.2.2.2.1.1
  have hset : ∀ e : va_E, q_e g (q_pi S a i.toNatClampNeg x) a = e → (q_ws g S).set a (g.2.1 + a, e) = q_ws g (q_pi S a i.toNatClampNeg x) := fun e he => q_ws_set ha rfl he (fun k hk => q_e_congr (by simp [q_pi, q_up_row hk]) (by simp [q_pi, q_up_row hk]) (by simp [q_pi, q_up_row hk]))
  refine W.zast C.1 C.2.1 (P.2 a _ hat) ((hK.2 2 _ rfl).1 len (fun j => .int (S.2.1 a j))) (fun q => by cases q) (by show ¬ (i < 0 ∨ (arrV _ _ _).slots.size ≤ _); rw [arrV_size]; exact hin) rfl rfl hd fun H1 e1 z oq => ?_
  refine k p e s m args below meth c H1 _ cells slots la C ⟨by rw [z, P.1]; rfl, ?_⟩ (hS.put z oq (Nat.le_add_right _ _)) c1 c2 hl
  rw [← hset _ rfl]
  refine P.2.set q_ws_D hat ?_ oq
  have hq : q_e g (q_pi S a i.toNatClampNeg x) a = .inl (g.2.2.2.1 2, len, .inl (q_up S.2.1 a i.toNatClampNeg x a)) := by simp [q_e, hy, q_pi]
  rw [hq]
  show H1[g.2.1 + a]? = some (vp_cell _ _)
  rw [e1]
  rw [vp_cell_i, vp_cell_i, arrV_store]
  congr 2
  funext q
  by_cases hq : q = i.toNatClampNeg
  · subst hq
    simp [updV, q_up, hnar]
  · simp [updV, q_up, hq]
theorem q_gets {i idx : Nat} (hd : decode M.2.1 pc = .ok (.getstatic idx, 3)) (hi : i < 5) (hw : Cond.fieldLink M.1.cls idx (q_sC i) (q_sn i) "[I" ∈ q_WS) (k : q_V g M E Z kc ks (pc + 3) ls (q_s g i :: st) S) : q_V g M E Z kc ks pc ls st S := by
  intro p e s m args below meth c H locs cells slots la C P hS c1 c2 hl
  exact va_gets C.1 C.2.1 (C.2.2.2.2.2.2.2.2.1.2.1 i hi).1 hS C.2.2.2.2.1 (C.2.2.2.2.2.1 _ hw) (fun _ h => h) hd (k p e s m args below meth c H locs cells slots la C P hS c1 c2 hl)
theorem q_sald {i : Nat} {x : Int32} (hd : decode M.2.1 pc = .ok (.iaload, 1)) (hi : i < 5) (hin : vp_in x (q_sN i)) (k : q_V g M E Z kc ks (pc + 1) ls (.int (q_sv i x.toNatClampNeg) :: st) S) : q_V g M E Z kc ks pc ls (.int x :: q_s g i :: st) S := by
  intro p e s m args below meth c H locs cells slots la C P hS c1 c2 hl
  exact va_ti C.1 C.2.1 (C.2.2.2.2.2.2.2.2.1.2.1 i hi).2 hS hin rfl hd (k p e s m args below meth c H locs cells slots la C P hS c1 c2 hl)
theorem q_slen {i : Nat} {v : Int32} (hd : decode M.2.1 pc = .ok (.arraylength, 1)) (hi : i < 5) (hv : Int32.ofNat (q_sN i) = v) (k : q_V g M E Z kc ks (pc + 1) ls (.int v :: st) S) : q_V g M E Z kc ks pc ls (q_s g i :: st) S := by
  intro p e s m args below meth c H locs cells slots la C P hS c1 c2 hl
  exact va_tlen C.1 C.2.1 (C.2.2.2.2.2.2.2.2.1.2.1 i hi).2 hS hv hd (k p e s m args below meth c H locs cells slots la C P hS c1 c2 hl)
theorem q_iret {x : Int32} {Q : Option Value → q_S → Prop} (hd : decode M.2.1 pc = .ok (.ireturn, 1)) (hr : M.2.2.2.1 = some .int)  (hq : Q (some (.int x)) S) : q_V g M E (q_Z g M Q) kc ks pc ls [.int x] S := by
  intro p e s m args below meth c H locs cells slots la C P hS c1 c2 hl
  refine W.widen (k := (q_R M).cells) (n := (q_R M).slots) (by omega) (by omega) ?_
  exact W.iret (v := x) C.1 C.2.1 (C.2.2.1.trans hr)  (fun t ht hW => ⟨_, S, rfl, hq, by rw [ht]; exact P, hS.F ht⟩) hS.2.2 hd C.2.2.2.2.2.2.1
theorem q_zret {x : Int32} {Q : Option Value → q_S → Prop} (hd : decode M.2.1 pc = .ok (.ireturn, 1)) (hr : M.2.2.2.1 = some .boolean) (hn : narrow .boolean (.int x) = .int x) (hq : Q (some (.int x)) S) : q_V g M E (q_Z g M Q) kc ks pc ls [.int x] S := by
  intro p e s m args below meth c H locs cells slots la C P hS c1 c2 hl
  refine W.widen (k := (q_R M).cells) (n := (q_R M).slots) (by omega) (by omega) ?_
  exact W.zret (v := x) C.1 C.2.1 (C.2.2.1.trans hr) hn (fun t ht hW => ⟨_, S, rfl, hq, by rw [ht]; exact P, hS.F ht⟩) hS.2.2 hd C.2.2.2.2.2.2.1
theorem q_lret {x : Int64} {Q : Option Value → q_S → Prop} (hd : decode M.2.1 pc = .ok (.lreturn, 1)) (hr : M.2.2.2.1 = some .long)  (hq : Q (some (.long x)) S) : q_V g M E (q_Z g M Q) kc ks pc ls [.long x] S := by
  intro p e s m args below meth c H locs cells slots la C P hS c1 c2 hl
  refine W.widen (k := (q_R M).cells) (n := (q_R M).slots) (by omega) (by omega) ?_
  exact W.lret (v := x) C.1 C.2.1 (C.2.2.1.trans hr)  (fun t ht hW => ⟨_, S, rfl, hq, by rw [ht]; exact P, hS.F ht⟩) hS.2.2 hd C.2.2.2.2.2.2.1
theorem q_vret  {Q : Option Value → q_S → Prop} (hd : decode M.2.1 pc = .ok (.return_, 1)) (hr : M.2.2.2.1 = none)  (hq : Q none S) : q_V g M E (q_Z g M Q) kc ks pc ls [] S := by
  intro p e s m args below meth c H locs cells slots la C P hS c1 c2 hl
  refine W.widen (k := (q_R M).cells) (n := (q_R M).slots) (by omega) (by omega) ?_
  exact W.vret C.1 C.2.1 (C.2.2.1.trans hr)  (fun t ht hW => ⟨_, S, rfl, hq, by rw [ht]; exact P, hS.F ht⟩) hS.2.2 hd C.2.2.2.2.2.2.1
theorem q_aret {a : Nat} {C0 : String} {Q : Option Value → q_S → Prop} (hd : decode M.2.1 pc = .ok (.areturn, 1)) (hr : M.2.2.2.1 = some (.object C0))  (hq : Q (some (q_r g a)) S) : q_V g M E (q_Z g M Q) kc ks pc ls [q_r g a] S := by
  intro p e s m args below meth c H locs cells slots la C P hS c1 c2 hl
  refine W.widen (k := (q_R M).cells) (n := (q_R M).slots) (by omega) (by omega) ?_
  exact W.aret (v := q_r g a) C.1 C.2.1 (C.2.2.1.trans hr) (Or.inl ⟨_, rfl⟩) (Or.inr ⟨_, rfl⟩) (fun t ht hW => ⟨_, S, rfl, hq, by rw [ht]; exact P, hS.F ht⟩) hS.2.2 hd C.2.2.2.2.2.2.1
end QV
