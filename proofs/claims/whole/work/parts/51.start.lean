theorem q_inst : ∀ c, c < 11 → Cond.instantiable (q_cl c).1 (q_cl c).2.2 ∈ q_WS := by
  intro c h
  match c, h with
  | 0, _ => exact q_w1 40 rfl rfl
  | 1, _ => exact q_w1 25 rfl rfl
  | 2, _ => exact q_w1 231 rfl rfl
  | 3, _ => exact q_w1 120 rfl rfl
  | 4, _ => exact q_w3 127 rfl rfl
  | 5, _ => exact q_w2 38 rfl rfl
  | 6, _ => exact q_w1 171 rfl rfl
  | 7, _ => exact q_w1 47 rfl rfl
  | 8, _ => exact q_w1 197 rfl rfl
  | 9, _ => exact q_w1 15 rfl rfl
  | 10, _ => exact q_w4 97 rfl rfl
  | n + 11, h => exact absurd h (by omega)
theorem q_nest_in : ∀ w ∈ q_nest, Cond.methodLinkNest w.1 w.2.1 w.2.2 RX9 ∈ lw_tbl := by
  intro w hw
  simp only [q_nest, List.mem_cons, List.not_mem_nil, or_false] at hw
  rcases hw with rfl | rfl | rfl | rfl | rfl | rfl | rfl | rfl | rfl | rfl | rfl | rfl | rfl | rfl
  · exact List.mem_append_right _ (List.mem_append_left _ (List.mem_of_getElem? (i := 26) rfl))
  · exact List.mem_append_right _ (List.mem_append_left _ (List.mem_of_getElem? (i := 48) rfl))
  · exact List.mem_append_right _ (List.mem_append_left _ (List.mem_of_getElem? (i := 121) rfl))
  · exact List.mem_append_right _ (List.mem_append_left _ (List.mem_of_getElem? (i := 172) rfl))
  · exact List.mem_append_right _ (List.mem_append_left _ (List.mem_of_getElem? (i := 198) rfl))
  · exact List.mem_append_right _ (List.mem_append_left _ (List.mem_of_getElem? (i := 232) rfl))
  · exact List.mem_append_right _ (List.mem_append_left _ (List.mem_of_getElem? (i := 237) rfl))
  · exact List.mem_append_right _ (List.mem_append_right _ (List.mem_append_left _ (List.mem_of_getElem? (i := 39) rfl)))
  · exact List.mem_append_right _ (List.mem_append_right _ (List.mem_append_left _ (List.mem_of_getElem? (i := 141) rfl)))
  · exact List.mem_append_right _ (List.mem_append_right _ (List.mem_append_left _ (List.mem_of_getElem? (i := 212) rfl)))
  · exact List.mem_append_right _ (List.mem_append_right _ (List.mem_append_left _ (List.mem_of_getElem? (i := 232) rfl)))
  · exact List.mem_append_right _ (List.mem_append_right _ (List.mem_append_right _ (List.mem_append_left _ (List.mem_of_getElem? (i := 29) rfl))))
  · exact List.mem_append_right _ (List.mem_append_right _ (List.mem_append_right _ (List.mem_append_left _ (List.mem_of_getElem? (i := 88) rfl))))
  · exact List.mem_append_right _ (List.mem_append_right _ (List.mem_append_right _ (List.mem_append_right _ (List.mem_append_left _ (List.mem_of_getElem? (i := 84) rfl)))))
def q_S0 : q_S := (0, fun _ _ => 0, fun _ _ => 0, fun _ _ => none)
/-- what stands behind both constructors -/
def q_S1 : q_S := cS_X10 (q_nx 58 (cS_X9 (q_nx 0 q_S0)))
def q_m1 : q_Mm := (q_S1.2.1, q_S1.2.2.1)
set_option maxRecDepth 100000 in
set_option maxHeartbeats 4000000 in
theorem q_S1_FFb : ∀ k, k < 89 → ∀ j, j < 52 → (q_F0 k j = none ∨ q_S1.2.2.2 k j = q_F0 k j) := by decide +kernel
theorem q_F0_lt {k j t : Nat} (h : q_F0 k j = some t) : k < 89 ∧ j < 52 := by
  unfold q_F0 at h
  split at h
  all_goals first | (cases h; done) | skip
  all_goals (refine ⟨by decide, ?_⟩; split at h <;> first | decide | cases h)
theorem q_S1_FF : q_FF q_S1.2.2.2 := by
  intro k j t h
  obtain ⟨h1, h2⟩ := q_F0_lt h
  rcases q_S1_FFb k h1 j h2 with h3 | h3
  · rw [h3] at h; cases h
  · rw [h3, h]
theorem q_S1_P : q_S1.2.2.2 0 10 = none := by decide +kernel
set_option maxRecDepth 100000 in
set_option maxHeartbeats 4000000 in
theorem q_law_start {g : q_G} {Z : List Frame → Array Value → State → State → Prop} {b0 L : Nat} {xs : Nat → Int32} (hL : L ≤ 3584) {Inv : q_Mm → Prop} (hO : q_OK Inv) (hI : Inv q_m1) (hend : ∀ (kc ks : Nat) (ls : List (Nat × Value)) (S : q_S), q_V g mL_law (q_E g b0 L xs) Z kc ks 1341 ls [.int 1] S) : q_V g mL_law (q_E g b0 L xs) Z 600000 7302250 0 [(0, .ref b0)] [] q_S0 := by
  refine c_new (ci := 9) (N := 12) 0 rfl dL_law_0 (by decide) nL_7 rfl rfl ?_
  refine q_dup dL_law_3 rfl ?_
  refine c_I (as := []) (st := [_]) 599942 7299986 (Nat.le_of_ble_eq_true rfl) (Nat.le_of_ble_eq_true rfl) dL_law_4 okX9_init lL_9 rfl rfl ⟨Nat.le_of_ble_eq_true rfl, Nat.le_of_ble_eq_true rfl⟩ rfl rfl (Nat.le_of_ble_eq_true rfl) (Nat.le_of_ble_eq_true rfl) (t_X9_init rfl rfl) ?_
  refine q_astore_n (ls' := [(0, _), (1, _)]) [0, 1] dL_law_7 (Nat.le_of_ble_eq_true rfl) rfl ?_
  refine c_new (ci := 10) (N := 52) 58 rfl dL_law_8 (by decide) nL_10 rfl rfl ?_
  refine q_dup dL_law_11 rfl ?_
  refine c_I (as := []) (st := [_]) 599911 7056929 (Nat.le_of_ble_eq_true rfl) (Nat.le_of_ble_eq_true rfl) dL_law_12 okX10_init lL_12 rfl rfl ⟨Nat.le_of_ble_eq_true rfl, Nat.le_of_ble_eq_true rfl⟩ rfl rfl (Nat.le_of_ble_eq_true rfl) (Nat.le_of_ble_eq_true rfl) (t_X10_init rfl rfl) ?_
  refine q_astore_n (ls' := [(0, _), (1, _), (2, _)]) [0, 1, 2] dL_law_15 (Nat.le_of_ble_eq_true rfl) rfl ?_
  refine q_iconst (v := 0) dL_law_16 (by decide) ?_
  refine q_istore_n (ls' := [(0, _), (1, _), (2, _), (3, _)]) [0, 1, 2, 3] dL_law_17 (Nat.le_of_ble_eq_true rfl) rfl ?_
  refine q_mono (kc' := 3 * 512) (ks' := 9884 * 512) (by decide) (by decide) ?_
  exact q_law_loop hL hO hend 512 0 false 89 q_S1.2.2.2 q_m1 (by decide) (by omega) (Or.inr ⟨rfl, rfl, q_S1_P⟩) (by decide) q_S1_FF hI
/-! THE CLAIM OUT OF ONE WALK OF THE LAW'S BODY. Your part is whole_start (and what it stands on); all else here is the same for every law, but numbers. -/
def R_law : String := "ConvoyRoomLaw"
def lw_P (b : Addr) (xs : List Int32) (args : Array Value) (s : State) : Prop := args = #[.ref b] ∧ s.IntsAt b xs ∧ xs.length ≤ 3584 ∧ (Jvm.Cond.and given_1 narrow_1).before args s = true
def lw_Q (_ : Array Value) (s : State) (o : Outcome) (t : State) : Prop := o = .returned (some (.int 1)) ∧ Framed s o t [] 600000 7302250
def lw_Z (below : List Frame) (a : Array Value) (s : State) : State → Prop := fun t => ∃ o, t.status = .running ∧ Ended t below o ∧ lw_Q a s o t
/-- the law's own end, with 1 on the stack, nothing written that was there before, its room as the claim has it -/
theorem lw_ret {p : Program} {l : Launch} {e : Env} {s : State} {m : MethodId} {below : List Frame} {meth : Method} {c : Code} {b : Nat} (hx : p.tables.exec = Jvm.exec) (hb : c.code = code) (hr : meth.sig.returnType = ret) (hlocks : meth.locks = false) {pc : Nat} {H : Heap} {ls : Array Slot} (hdg : decode code pc = .ok (.ireturn, 1)) : W p l e room_1 s m #[Value.ref b] below meth c H [] 600000 7302250 (lw_Z below #[Value.ref b] s) (F0 m pc ls [.int 1]) := by
  intro T hT X
  obtain ⟨fs, hret, hrun, hended, hW, hframe⟩ := X.leave (v := some (.int 1)) (hlocks := hlocks) (fun h => by rw [hr] at h; cases h)
  have hmeth' : T.vm.method? m = some meth := X.method'
  refine ⟨T.setFrames fs, ?_, .returned (some (.int 1)), hrun, hended, rfl, ⟨_, rfl⟩, hW, hframe⟩
  jvm_step X.here [X.here.top, hx, hb, hdg, hmeth', hr, ret, narrow_b1]
  (try refine ⟨rfl, ?_⟩); (try refine ⟨rfl, ?_⟩)
  first | (intro acts; rw [hret _ acts rfl rfl rfl]) | rw [hret _ _ rfl rfl rfl]
  exact Steps.refl _
/-- what holds at the law's entry: the machine, the code, the tables' words (any of lw_tbl by 'hts w (by decide +kernel)'), the script of L ints xs at the cell b, what the Statement gives of the start (any of its parts by flat_of_before) -/
def lw_At (p : Program) (s : State) (m : MethodId) (meth : Method) (c : Code) (b L : Nat) (xs : Nat → Int32) : Prop :=
  p.tables.exec = Jvm.exec ∧ c.code = code ∧ meth.sig.returnType = ret ∧ c.maxLocals = 4 ∧ s.vm.findClass R_law = some m.cls ∧ (∀ w ∈ lw_tbl, w.before #[Value.ref b] s = true) ∧ va_X b L xs s s.heap ∧ b < s.heap.size ∧ meth.locks = false ∧ (Jvm.Cond.and given_1 narrow_1).before #[Value.ref b] s = true
set_option maxHeartbeats 4000000 in
theorem q_lwret {g : q_G} {kc ks pc b0 L : Nat} {xs : Nat → Int32} {ls : List (Nat × Value)} {S : q_S} (hd : decode cL_law pc = .ok (.ireturn, 1)) : q_V g mL_law (q_E g b0 L xs) lw_Z kc ks pc ls [.int 1] S := by
  intro p e s m args below meth c H locs cells slots la C P hS c1 c2 hl
  have hE := C.2.2.2.2.2.2.2.2.2.1
  refine va_forget (fun q hq => Nat.le_trans hE.2.2.2 (hS.2.2 q hq)) ?_
  refine W.widen (k := 600000) (n := 7302250) (Nat.le_trans (Nat.le_add_right _ _) c1) (Nat.le_trans (Nat.le_add_right _ _) c2) ?_
  have hx := C.1
  have hb : c.code = code := C.2.1
  have hr : meth.sig.returnType = ret := C.2.2.1
  have hlocks := C.2.2.2.2.2.2.1
  intro T hT X
  obtain ⟨fs, hret, hrun, hended, hW, hframe⟩ := X.leave (v := some (.int 1)) (hlocks := hlocks) (fun h => by rw [hr] at h; cases h)
  have hmeth' : T.vm.method? m = some meth := X.method'
  refine ⟨T.setFrames fs, ?_, .returned (some (.int 1)), hrun, hended, rfl, ⟨_, rfl⟩, hW, hframe⟩
  have hdg : decode code pc = .ok (.ireturn, 1) := hd
  jvm_step X.here [X.here.top, hx, hb, hdg, hmeth', hr, ret, narrow_b1]
  (try refine ⟨rfl, ?_⟩); (try refine ⟨rfl, ?_⟩)
  first | (intro acts; rw [hret _ acts rfl rfl rfl]) | rw [hret _ _ rfl rfl rfl]
  exact Steps.refl _
theorem q_stat0 {args : Array Value} {s : State} {A : Nat → Prop} (hs : ∀ c ∈ flatC (Jvm.Cond.and given_1 narrow_1), c.before args s = true) (hts : ∀ w ∈ lw_tbl, w.before args s = true) (hA : ∀ a : Nat, a < s.heap.size → ¬ A a) : ∃ t : Nat, va_Z (q_sC 0) (q_sn 0) "[I" (.ref t) A s s.heap ∧ va_T .int t (q_sN 0) (fun j => .int (q_sv 0 j)) A s s.heap := by
  obtain ⟨t, ht, hT⟩ := va_Tof (args := args) (s := s) (N := 5) (tm := .static "ConvoyRoom" "AHEAD" "[I") (ty := .int) (f := fun j => .int (q_sv 0 j)) (A := A) (by decide) (hs _ (by decide +kernel)) (va_eqt (hs _ (by decide +kernel))) (fun j hj => by
    match j, hj with
    | 0, _ => exact va_eqt (z := q_sv 0 0) (hs _ (by decide +kernel))
    | 1, _ => exact va_eqt (z := q_sv 0 1) (hs _ (by decide +kernel))
    | 2, _ => exact va_eqt (z := q_sv 0 2) (hs _ (by decide +kernel))
    | 3, _ => exact va_eqt (z := q_sv 0 3) (hs _ (by decide +kernel))
    | 4, _ => exact va_eqt (z := q_sv 0 4) (hs _ (by decide +kernel))
    | j + 5, h => exact absurd h (by omega)) hA
  exact ⟨t, va_Zof (hts (.laysStatic "ConvoyRoom" "AHEAD" "[I") (List.mem_append_right _ (List.mem_append_right _ (List.mem_append_left _ (List.mem_of_getElem? (i := 151) rfl))))) (hts (.initialized "ConvoyRoom") (List.mem_append_right _ (List.mem_append_left _ (List.mem_of_getElem? (i := 1) rfl)))) ht hA, hT⟩
theorem q_stat1 {args : Array Value} {s : State} {A : Nat → Prop} (hs : ∀ c ∈ flatC (Jvm.Cond.and given_1 narrow_1), c.before args s = true) (hts : ∀ w ∈ lw_tbl, w.before args s = true) (hA : ∀ a : Nat, a < s.heap.size → ¬ A a) : ∃ t : Nat, va_Z (q_sC 1) (q_sn 1) "[I" (.ref t) A s s.heap ∧ va_T .int t (q_sN 1) (fun j => .int (q_sv 1 j)) A s s.heap := by
  obtain ⟨t, ht, hT⟩ := va_Tof (args := args) (s := s) (N := 5) (tm := .static "ConvoyRoom" "ACROSS" "[I") (ty := .int) (f := fun j => .int (q_sv 1 j)) (A := A) (by decide) (hs _ (by decide +kernel)) (va_eqt (hs _ (by decide +kernel))) (fun j hj => by
    match j, hj with
    | 0, _ => exact va_eqt (z := q_sv 1 0) (hs _ (by decide +kernel))
    | 1, _ => exact va_eqt (z := q_sv 1 1) (hs _ (by decide +kernel))
    | 2, _ => exact va_eqt (z := q_sv 1 2) (hs _ (by decide +kernel))
    | 3, _ => exact va_eqt (z := q_sv 1 3) (hs _ (by decide +kernel))
    | 4, _ => exact va_eqt (z := q_sv 1 4) (hs _ (by decide +kernel))
    | j + 5, h => exact absurd h (by omega)) hA
  exact ⟨t, va_Zof (hts (.laysStatic "ConvoyRoom" "ACROSS" "[I") (List.mem_append_right _ (List.mem_append_right _ (List.mem_append_left _ (List.mem_of_getElem? (i := 153) rfl))))) (hts (.initialized "ConvoyRoom") (List.mem_append_right _ (List.mem_append_left _ (List.mem_of_getElem? (i := 1) rfl)))) ht hA, hT⟩
theorem q_stat2 {args : Array Value} {s : State} {A : Nat → Prop} (hs : ∀ c ∈ flatC (Jvm.Cond.and given_1 narrow_1), c.before args s = true) (hts : ∀ w ∈ lw_tbl, w.before args s = true) (hA : ∀ a : Nat, a < s.heap.size → ¬ A a) : ∃ t : Nat, va_Z (q_sC 2) (q_sn 2) "[I" (.ref t) A s s.heap ∧ va_T .int t (q_sN 2) (fun j => .int (q_sv 2 j)) A s s.heap := by
  obtain ⟨t, ht, hT⟩ := va_Tof (args := args) (s := s) (N := 9) (tm := .static "ConvoyRoom$Pilot" "STEP_X" "[I") (ty := .int) (f := fun j => .int (q_sv 2 j)) (A := A) (by decide) (hs _ (by decide +kernel)) (va_eqt (hs _ (by decide +kernel))) (fun j hj => by
    match j, hj with
    | 0, _ => exact va_eqt (z := q_sv 2 0) (hs _ (by decide +kernel))
    | 1, _ => exact va_eqt (z := q_sv 2 1) (hs _ (by decide +kernel))
    | 2, _ => exact va_eqt (z := q_sv 2 2) (hs _ (by decide +kernel))
    | 3, _ => exact va_eqt (z := q_sv 2 3) (hs _ (by decide +kernel))
    | 4, _ => exact va_eqt (z := q_sv 2 4) (hs _ (by decide +kernel))
    | 5, _ => exact va_eqt (z := q_sv 2 5) (hs _ (by decide +kernel))
    | 6, _ => exact va_eqt (z := q_sv 2 6) (hs _ (by decide +kernel))
    | 7, _ => exact va_eqt (z := q_sv 2 7) (hs _ (by decide +kernel))
    | 8, _ => exact va_eqt (z := q_sv 2 8) (hs _ (by decide +kernel))
    | j + 9, h => exact absurd h (by omega)) hA
  exact ⟨t, va_Zof (hts (.laysStatic "ConvoyRoom$Pilot" "STEP_X" "[I") (List.mem_append_right _ (List.mem_append_right _ (List.mem_append_right _ (List.mem_append_left _ (List.mem_of_getElem? (i := 210) rfl)))))) (hts (.initialized "ConvoyRoom$Pilot") (List.mem_append_right _ (List.mem_append_left _ (List.mem_of_getElem? (i := 13) rfl)))) ht hA, hT⟩
theorem q_stat3 {args : Array Value} {s : State} {A : Nat → Prop} (hs : ∀ c ∈ flatC (Jvm.Cond.and given_1 narrow_1), c.before args s = true) (hts : ∀ w ∈ lw_tbl, w.before args s = true) (hA : ∀ a : Nat, a < s.heap.size → ¬ A a) : ∃ t : Nat, va_Z (q_sC 3) (q_sn 3) "[I" (.ref t) A s s.heap ∧ va_T .int t (q_sN 3) (fun j => .int (q_sv 3 j)) A s s.heap := by
  obtain ⟨t, ht, hT⟩ := va_Tof (args := args) (s := s) (N := 9) (tm := .static "ConvoyRoom$Pilot" "STEP_Y" "[I") (ty := .int) (f := fun j => .int (q_sv 3 j)) (A := A) (by decide) (hs _ (by decide +kernel)) (va_eqt (hs _ (by decide +kernel))) (fun j hj => by
    match j, hj with
    | 0, _ => exact va_eqt (z := q_sv 3 0) (hs _ (by decide +kernel))
    | 1, _ => exact va_eqt (z := q_sv 3 1) (hs _ (by decide +kernel))
    | 2, _ => exact va_eqt (z := q_sv 3 2) (hs _ (by decide +kernel))
    | 3, _ => exact va_eqt (z := q_sv 3 3) (hs _ (by decide +kernel))
    | 4, _ => exact va_eqt (z := q_sv 3 4) (hs _ (by decide +kernel))
    | 5, _ => exact va_eqt (z := q_sv 3 5) (hs _ (by decide +kernel))
    | 6, _ => exact va_eqt (z := q_sv 3 6) (hs _ (by decide +kernel))
    | 7, _ => exact va_eqt (z := q_sv 3 7) (hs _ (by decide +kernel))
    | 8, _ => exact va_eqt (z := q_sv 3 8) (hs _ (by decide +kernel))
    | j + 9, h => exact absurd h (by omega)) hA
  exact ⟨t, va_Zof (hts (.laysStatic "ConvoyRoom$Pilot" "STEP_Y" "[I") (List.mem_append_right _ (List.mem_append_right _ (List.mem_append_right _ (List.mem_append_left _ (List.mem_of_getElem? (i := 212) rfl)))))) (hts (.initialized "ConvoyRoom$Pilot") (List.mem_append_right _ (List.mem_append_left _ (List.mem_of_getElem? (i := 13) rfl)))) ht hA, hT⟩
theorem q_stat4 {args : Array Value} {s : State} {A : Nat → Prop} (hs : ∀ c ∈ flatC (Jvm.Cond.and given_1 narrow_1), c.before args s = true) (hts : ∀ w ∈ lw_tbl, w.before args s = true) (hA : ∀ a : Nat, a < s.heap.size → ¬ A a) : ∃ t : Nat, va_Z (q_sC 4) (q_sn 4) "[I" (.ref t) A s s.heap ∧ va_T .int t (q_sN 4) (fun j => .int (q_sv 4 j)) A s s.heap := by
  obtain ⟨t, ht, hT⟩ := va_Tof (args := args) (s := s) (N := 11) (tm := .static "ConvoyRoom$Log" "CLOCKS" "[I") (ty := .int) (f := fun j => .int (q_sv 4 j)) (A := A) (by decide) (hs _ (by decide +kernel)) (va_eqt (hs _ (by decide +kernel))) (fun j hj => by
    match j, hj with
    | 0, _ => exact va_eqt (z := q_sv 4 0) (hs _ (by decide +kernel))
    | 1, _ => exact va_eqt (z := q_sv 4 1) (hs _ (by decide +kernel))
    | 2, _ => exact va_eqt (z := q_sv 4 2) (hs _ (by decide +kernel))
    | 3, _ => exact va_eqt (z := q_sv 4 3) (hs _ (by decide +kernel))
    | 4, _ => exact va_eqt (z := q_sv 4 4) (hs _ (by decide +kernel))
    | 5, _ => exact va_eqt (z := q_sv 4 5) (hs _ (by decide +kernel))
    | 6, _ => exact va_eqt (z := q_sv 4 6) (hs _ (by decide +kernel))
    | 7, _ => exact va_eqt (z := q_sv 4 7) (hs _ (by decide +kernel))
    | 8, _ => exact va_eqt (z := q_sv 4 8) (hs _ (by decide +kernel))
    | 9, _ => exact va_eqt (z := q_sv 4 9) (hs _ (by decide +kernel))
    | 10, _ => exact va_eqt (z := q_sv 4 10) (hs _ (by decide +kernel))
    | j + 11, h => exact absurd h (by omega)) hA
  exact ⟨t, va_Zof (hts (.laysStatic "ConvoyRoom$Log" "CLOCKS" "[I") (List.mem_append_right _ (List.mem_append_right _ (List.mem_append_right _ (List.mem_append_right _ (List.mem_append_left _ (List.mem_of_getElem? (i := 51) rfl))))))) (hts (.initialized "ConvoyRoom$Log") (List.mem_append_right _ (List.mem_append_left _ (List.mem_of_getElem? (i := 8) rfl)))) ht hA, hT⟩
theorem q_arrK {args : Array Value} {s : State} {ty : FieldType} (hk : ty = .int ∨ ty = .long ∨ ty = .boolean) (h : (Cond.arrayClass ty).before args s = true) : ∃ cA, ArrOfT s cA ty ∧ va_RA s cA ty := by
  obtain ⟨cA, kA, comp, h1, h2, h3⟩ := Cond.arrayClass_spec h
  refine ⟨cA, fun n z => ⟨fun k h => (by cases h), kA, h2, comp, h3⟩, ?_⟩
  rcases hk with rfl | rfl | rfl <;> exact h1
theorem q_arrO {s : State} {C : String} (h : va_AO C s) : ∃ cA, ArrOfT s cA (.object C) ∧ va_RA s cA (.object C) := by
  obtain ⟨comp, c, k, h1, h2, h3, h4, h5⟩ := Cond.arrayOver_spec h
  exact ⟨c, fun N z => ⟨(fun k h => by cases h), k, h3, comp, h4⟩, k, comp, h3, h4, h1, h5⟩
/-- the law, out of the pure statements -/
theorem q_whole {Inv : q_Mm → Prop} (hO : q_OK Inv) (hI : Inv q_m1) {p : Program} {e : Env} {s : State} {m : MethodId} {below : List Frame} {meth : Method} {c : Code} (l : Launch) {b L : Nat} {xs : Nat → Int32} (hL : L ≤ 3584) (C0 : lw_At p s m meth c b L xs) : W p l e room_1 s m #[Value.ref b] below meth c s.heap [] 0 0 (lw_Z below #[Value.ref b] s) (entryFrame m ([Value.ref b] : List Value).toArray 4) := by
  obtain ⟨hx, hb, hr, hml, hown, hts, hX, hbl, hlocks, hgv⟩ := id C0
  have htsW : ∀ w ∈ q_WS, w.before #[Value.ref b] s = true := fun w hw => hts w (List.mem_filter.mp hw).1
  have hs := flat_of_before _ hgv
  have known : ∀ c : Nat, ∃ f : ClassId × (Nat → Nat), c < 11 → u_Kn s (q_cl c).1 (q_cl c).2.1 (q_cl c).2.2 f.1 f.2 := by
    intro c
    by_cases hc : c < 11
    · obtain ⟨c0, iS, h⟩ := u_known (C := (q_cl c).1) (T := (q_cl c).2.1) (N := (q_cl c).2.2) (n := (q_cl c).2.2) htsW (q_cl_in c hc) (htsW _ (q_inst c hc))
      exact ⟨(c0, iS), fun _ => h⟩
    · exact ⟨(0, fun _ => 0), fun h => absurd h hc⟩
  obtain ⟨f, hf⟩ := Classical.axiomOfChoice known
  have ha5 : va_AO RX5 s := va_AO.of (hts _ (List.mem_append_right _ (List.mem_append_left _ (List.mem_of_getElem? (i := 23) rfl))))
  have ha7 : va_AO RX7 s := va_AO.of (hts _ (List.mem_append_right _ (List.mem_append_left _ (List.mem_of_getElem? (i := 46) rfl))))
  obtain ⟨c0, hc0⟩ := q_arrK (Or.inl rfl) (htsW _ q_wAI)
  obtain ⟨c1, hc1⟩ := q_arrK (Or.inr (Or.inl rfl)) (htsW _ q_wAJ)
  obtain ⟨c2, hc2⟩ := q_arrK (Or.inr (Or.inr rfl)) (htsW _ q_wAZ)
  obtain ⟨c3, hc3⟩ := q_arrO ha5
  obtain ⟨c4, hc4⟩ := q_arrO ha7
  have hA : ∀ a : Nat, a < s.heap.size → ¬ (fun q : Nat => s.heap.size ≤ q) a := fun a h => Nat.not_le.mpr h
  obtain ⟨t0, z0⟩ := q_stat0 hs hts hA
  obtain ⟨t1, z1⟩ := q_stat1 hs hts hA
  obtain ⟨t2, z2⟩ := q_stat2 hs hts hA
  obtain ⟨t3, z3⟩ := q_stat3 hs hts hA
  obtain ⟨t4, z4⟩ := q_stat4 hs hts hA
  let g : q_G := (l, s.heap.size, (fun c => (f c).1, fun c => (f c).2), (fun k => match k with | 0 => c0 | 1 => c1 | 2 => c2 | 3 => c3 | _ => c4), (fun k => match k with | 0 => t0 | 1 => t1 | 2 => t2 | 3 => t3 | _ => t4))
  have hK : q_K g s := by
    refine ⟨⟨fun c q hq => ?_, fun k q hq => ?_⟩, fun i hi => ?_, fun w hw => va_Nw.of rfl (hts _ (q_nest_in w hw)), ha5, ha7⟩
    · have hc : c < 11 := (List.getElem?_eq_some_iff.mp hq).1
      rw [q_cl_at c hc] at hq
      cases hq
      exact hf c hc
    · have hk : k < 5 := (List.getElem?_eq_some_iff.mp hq).1
      match k, hk with
      | 0, _ => cases hq; exact hc0
      | 1, _ => cases hq; exact hc1
      | 2, _ => cases hq; exact hc2
      | 3, _ => cases hq; exact hc3
      | 4, _ => cases hq; exact hc4
    · match i, hi with
      | 0, _ => exact z0
      | 1, _ => exact z1
      | 2, _ => exact z2
      | 3, _ => exact z3
      | 4, _ => exact z4
  have hV := q_law_start (g := g) (Z := lw_Z) (b0 := b) (L := L) (xs := xs) hL hO hI (fun kc ks ls S => q_lwret dL_law_1341)
  have hl := lv_entry ([.ref b]) (n := 4) (Nat.le_of_ble_eq_true rfl)
  rw [lg_entry_eq]
  exact hV p e s m #[Value.ref b] below meth c s.heap [] 0 0 _ ⟨hx, hb, hr, hml, hown, htsW, hlocks, fun h => absurd h (by decide), hK, ⟨hX, hbl, Nat.not_le.mpr hbl, Nat.le_refl _⟩, Nat.le_refl _⟩ ⟨rfl, fun k q hk => by simp [q_ws, q_S0] at hk⟩ va_S.rf (Nat.le_refl _) (Nat.le_refl _) hl
