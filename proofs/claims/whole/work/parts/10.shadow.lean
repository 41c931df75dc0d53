/-! THE SHADOW: all cells that the law makes stand in a row from address b on, in a known order (q_lay); what they hold are four functions. -/
/-- what the k-th cell is: (0, c) an object of class c; (1, n) n ints; (2, n) longs; (3, n) booleans; (4, n) Plans; (5, n) Ships -/
def q_lay : Nat → Nat × Nat := fun k => match k with
  | 0 => (0, 9) | 1 => (4, 4) | 2 => (0, 1) | 3 => (0, 0) | 4 => (5, 9)
  | 5 => (0, 7) | 6 => (1, 10) | 7 => (0, 7) | 8 => (1, 10) | 9 => (0, 7) | 10 => (1, 10)
  | 11 => (0, 7) | 12 => (1, 10) | 13 => (0, 7) | 14 => (1, 10) | 15 => (0, 7) | 16 => (1, 10)
  | 17 => (0, 7) | 18 => (1, 10) | 19 => (0, 7) | 20 => (1, 10) | 21 => (0, 7) | 22 => (1, 10)
  | 23 => (0, 3) | 24 => (2, 4) | 25 => (2, 4) | 26 => (1, 4) | 27 => (1, 4)
  | 28 => (0, 6) | 29 => (1, 10) | 30 => (1, 10) | 31 => (1, 10) | 32 => (1, 400)
  | 33 => (1, 144) | 34 => (0, 8) | 35 => (1, 41) | 36 => (0, 8) | 37 => (1, 41)
  | 38 => (0, 2) | 39 => (1, 12) | 40 => (1, 12) | 41 => (1, 12) | 42 => (0, 7) | 43 => (1, 10) | 44 => (2, 601) | 45 => (2, 601)
  | 46 => (0, 5) | 47 => (1, 12) | 48 => (1, 12) | 49 => (0, 5) | 50 => (1, 12) | 51 => (1, 12)
  | 52 => (0, 5) | 53 => (1, 12) | 54 => (1, 12) | 55 => (0, 5) | 56 => (1, 12) | 57 => (1, 12)
  | 58 => (0, 10) | 59 => (1, 48) | 60 => (1, 48) | 61 => (1, 4) | 62 => (1, 11)
  | 63 => (1, 9) | 64 => (1, 9) | 65 => (1, 9) | 66 => (1, 9) | 67 => (1, 20) | 68 => (1, 20) | 69 => (1, 20)
  | 70 => (2, 9) | 71 => (2, 9) | 72 => (2, 4) | 73 => (2, 4) | 74 => (1, 4) | 75 => (1, 4) | 76 => (1, 4)
  | 77 => (1, 10) | 78 => (1, 10) | 79 => (1, 10) | 80 => (1, 400) | 81 => (1, 144) | 82 => (1, 82) | 83 => (1, 2)
  | 84 => (3, 2) | 85 => (1, 242064) | 86 => (1, 12) | 87 => (1, 12) | 88 => (1, 12)
  | 89 => (0, 4) | 90 => (1, 5904) | 91 => (2, 3969)
  | _ => (1, 0)
def q_cl : Nat → vw_C := fun c => match c with
  | 0 => (RX0, TX0, 9) | 1 => (RX1, TX1, 2) | 2 => (RX2, TX2, 11) | 3 => (RX3, TX3, 11) | 4 => (RX4, TX4, 11) | 5 => (RX5, TX5, 3)
  | 6 => (RX6, TX6, 6) | 7 => (RX7, TX7, 7) | 8 => (RX8, TX8, 6) | 9 => (RX9, TX9, 12) | _ => (RX10, TX10, 52)
def q_ty : Nat → Nat → FieldType := fun c => match c with
  | 0 => tyX0 | 1 => tyX1 | 2 => tyX2 | 3 => tyX3 | 4 => tyX4 | 5 => tyX5 | 6 => tyX6 | 7 => tyX7 | 8 => tyX8 | 9 => tyX9 | _ => tyX10
theorem q_cl_at : ∀ c, c < 11 → vwCl[c]? = some (q_cl c) := by
  intro c h
  match c, h with
  | 0, _ => rfl | 1, _ => rfl | 2, _ => rfl | 3, _ => rfl | 4, _ => rfl | 5, _ => rfl | 6, _ => rfl | 7, _ => rfl | 8, _ => rfl | 9, _ => rfl | 10, _ => rfl
  | n + 11, h => exact absurd h (by omega)
theorem q_cl_in : ∀ c, c < 11 → ∀ w ∈ u_ws (q_cl c).1 (q_cl c).2.1 (q_cl c).2.2, w ∈ q_WS := by
  intro c h
  match c, h with
  | 0, _ => exact q_inX0 | 1, _ => exact q_inX1 | 2, _ => exact q_inX2 | 3, _ => exact q_inX3 | 4, _ => exact q_inX4 | 5, _ => exact q_inX5 | 6, _ => exact q_inX6 | 7, _ => exact q_inX7 | 8, _ => exact q_inX8 | 9, _ => exact q_inX9 | 10, _ => exact q_inX10
  | n + 11, h => exact absurd h (by omega)
theorem q_cl_ty : ∀ c, c < 11 → ∀ k, k < (q_cl c).2.2 → parseFieldDescriptor ((q_cl c).2.1 k).2.2.1 = some (q_ty c k) := by
  intro c h
  match c, h with
  | 0, _ => exact tyX0_ok | 1, _ => exact tyX1_ok | 2, _ => exact tyX2_ok | 3, _ => exact tyX3_ok | 4, _ => exact tyX4_ok | 5, _ => exact tyX5_ok | 6, _ => exact tyX6_ok | 7, _ => exact tyX7_ok | 8, _ => exact tyX8_ok | 9, _ => exact tyX9_ok | 10, _ => exact tyX10_ok
  | n + 11, h => exact absurd h (by omega)
theorem q_cl_nm : ∀ c, c < 11 → ∀ a, a < (q_cl c).2.2 → ∀ b, b < (q_cl c).2.2 → a ≠ b → ((q_cl c).2.1 a).2.1 ≠ ((q_cl c).2.1 b).2.1 := by
  intro c h
  match c, h with
  | 0, _ => exact nmX0 | 1, _ => exact nmX1 | 2, _ => exact nmX2 | 3, _ => exact nmX3 | 4, _ => exact nmX4 | 5, _ => exact nmX5 | 6, _ => exact nmX6 | 7, _ => exact nmX7 | 8, _ => exact nmX8 | 9, _ => exact nmX9 | 10, _ => exact nmX10
  | n + 11, h => exact absurd h (by omega)
/-- launch, b, the classes' numbers and slots, the array classes (ints, longs, booleans, Plans, Ships), the static rows' addresses -/
abbrev q_G : Type := Launch × Nat × va_G × (Nat → ClassId) × (Nat → Nat)
/-- how many cells, and what they hold: ints, longs, labels -/
abbrev q_S : Type := Nat × (Nat → Nat → Int32) × (Nat → Nat → Int64) × (Nat → Nat → Option Nat)
def q_A (g : q_G) : Nat → Prop := fun q => g.2.1 ≤ q
def q_r (g : q_G) (a : Nat) : Value := .ref (g.2.1 + a)
def q_s (g : q_G) (i : Nat) : Value := .ref (g.2.2.2.2 i)
def q_o (g : q_G) (x : Option Nat) : Option Nat := x.map (fun a => g.2.1 + a)
/-- 0 an int or boolean, 1 a long, 2 a reference -/
def q_kd : FieldType → Nat := fun t => match t with
  | .long => 1 | .object _ => 2 | .array _ => 2 | _ => 0
def q_val (g : q_G) (S : q_S) (t : FieldType) (k j : Nat) : Value := match q_kd t with
  | 0 => .int (S.2.1 k j) | 1 => .long (S.2.2.1 k j) | _ => va_rf (q_o g (S.2.2.2 k j))
def q_fs (g : q_G) (S : q_S) (c k : Nat) : List Value := (List.range (q_cl c).2.2).map (fun j => q_val g S (q_ty c j) k j)
def q_e (g : q_G) (S : q_S) (k : Nat) : va_E := match (q_lay k).1 with
  | 0 => .inr ((q_lay k).2, q_fs g S (q_lay k).2 k)
  | 1 => .inl (g.2.2.2.1 0, (q_lay k).2, .inl (S.2.1 k))
  | 2 => .inl (g.2.2.2.1 1, (q_lay k).2, .inr (.inl (S.2.2.1 k)))
  | 3 => .inl (g.2.2.2.1 2, (q_lay k).2, .inl (S.2.1 k))
  | 4 => .inl (g.2.2.2.1 3, (q_lay k).2, .inr (.inr (.inr (.inr (fun i => q_o g (S.2.2.2 k i))))))
  | _ => .inl (g.2.2.2.1 4, (q_lay k).2, .inr (.inr (.inr (.inr (fun i => q_o g (S.2.2.2 k i))))))
def q_ws (g : q_G) (S : q_S) : va_W := (List.range S.1).map (fun k => (g.2.1 + k, q_e g S k))
def q_tl (g : q_G) : List (ClassId × FieldType) := [(g.2.2.2.1 0, .int), (g.2.2.2.1 1, .long), (g.2.2.2.1 2, .boolean), (g.2.2.2.1 3, .object RX5), (g.2.2.2.1 4, .object RX7)]
def q_P (g : q_G) (S : q_S) (H : Heap) : Prop := H.size = g.2.1 + S.1 ∧ va_P g.2.2.1 vwCl (q_ws g S) H
/-- the static rows: AHEAD, ACROSS, STEP_X, STEP_Y, CLOCKS -/
def q_sC : Nat → String := fun i => match i with | 0 => RX9 | 1 => RX9 | 2 => RX4 | 3 => RX4 | _ => RX2
def q_sn : Nat → String := fun i => match i with | 0 => "AHEAD" | 1 => "ACROSS" | 2 => "STEP_X" | 3 => "STEP_Y" | _ => "CLOCKS"
def q_sN : Nat → Nat := fun i => match i with | 0 => 5 | 1 => 5 | 2 => 9 | 3 => 9 | _ => 11
def q_sL : Nat → List Int32 := fun i => match i with
  | 0 => [1000, 924, 707, 383, 0] | 1 => [0, 383, 707, 924, 1000]
  | 2 => [0, -1, 0, 1, -1, 1, -1, 0, 1] | 3 => [0, -1, -1, -1, 0, 0, 1, 1, 1]
  | _ => [0, -1, 1, -2, 2, -3, 3, -4, 4, -5, 5]
def q_sv (i j : Nat) : Int32 := (q_sL i).getD j 0
/-- calls of nest mates -/
def q_nest : List (String × Nat × MethodName) := [(RX9, 21, yX1_init), (RX0, 43, yX7_init), (RX9, 38, yX3_init), (RX9, 45, yX6_init), (RX9, 56, yX8_init), (RX9, 70, yX2_init), (RX2, 27, yX7_init), (RX9, 75, yX5_init), (RX5, 22, yX9_pace), (RX7, 45, yX9_pace), (RX0, 69, yX9_squareOf), (RX3, 50, yX9_squareOf), (RX6, 35, yX9_squareOf), (RX2, 96, yX9_pace)]
/-- what the tables say, at a state -/
def q_K (g : q_G) (U : State) : Prop := va_K g.2.2.1 vwCl (q_tl g) U ∧ (∀ i, i < 5 → va_Z (q_sC i) (q_sn i) "[I" (q_s g i) (q_A g) U U.heap ∧ va_T .int (g.2.2.2.2 i) (q_sN i) (fun j => .int (q_sv i j)) (q_A g) U U.heap) ∧ (∀ w ∈ q_nest, va_Nw (.methodLinkNest w.1 w.2.1 w.2.2 RX9) U) ∧ va_AO RX5 U ∧ va_AO RX7 U
theorem q_K_warm {g : q_G} {s U : State} (h : q_K g s) (hW : s.WarmedH U.vm) (hh : ∀ q : Nat, q < s.heap.size → ¬ q_A g q → U.heap[q]? = s.heap[q]?) : q_K g U := by
  obtain ⟨h1, h2, h3, h4, h5⟩ := h
  refine ⟨va_K.moved hW.alike h1, fun i hi => ⟨((h2 i hi).1.moved hW.alike).kept hh, ((h2 i hi).2.moved hW.alike).kept hh⟩, fun w hw => va_Nw.warmM hW (h3 w hw), h4.moved hW.alike, h5.moved hW.alike⟩
theorem q_K_same {g : q_G} {s U : State} (h : q_K g s) (hv : s.vm = U.vm) (hh : U.heap = s.heap) : q_K g U := by
  obtain ⟨h1, h2, h3, h4, h5⟩ := h
  have ha : s.vm.Alike U.vm := by rw [hv]; exact Vm.Alike.refl _
  refine ⟨va_K.moved ha h1, fun i hi => ⟨((h2 i hi).1.moved ha).kept (fun _ _ _ => by rw [hh]), ((h2 i hi).2.moved ha).kept (fun _ _ _ => by rw [hh])⟩, fun w hw => (h3 w hw).same rfl hv, h4.moved ha, h5.moved ha⟩
/-- a method: its name, its bytes, its locals, what it returns, frames and words below it, the cells and slots that it makes -/
abbrev q_M : Type := MethodName × ByteArray × Nat × Option FieldType × Nat × Nat × Nat × Nat
def q_R (M : q_M) : Room := { frames := M.2.2.2.2.1, cells := M.2.2.2.2.2.2.1, slots := M.2.2.2.2.2.2.2, locals := M.2.2.2.2.2.1 }
def q_C (g : q_G) (M : q_M) (E : State → Prop) (p : Program) (s : State) (m : MethodId) (args : Array Value) (meth : Method) (c : Code) : Prop :=
  p.tables.exec = Jvm.exec ∧ c.code = M.2.1 ∧ meth.sig.returnType = M.2.2.2.1 ∧ c.maxLocals = M.2.2.1 ∧ s.vm.findClass M.1.cls = some m.cls ∧ (∀ w ∈ q_WS, w.before args s = true) ∧ meth.locks = false ∧ (M.1.name = "<init>" → meth.name = "<init>") ∧ q_K g s ∧ E s ∧ g.2.1 ≤ s.heap.size
/-- the machine, in method M at pc, with these locals, this stack and this shadow, comes to Z -/
def q_V (g : q_G) (M : q_M) (E : State → Prop) (Z : List Frame → Array Value → State → State → Prop) (kc ks pc : Nat) (ls : List (Nat × Value)) (st : List Value) (S : q_S) : Prop :=
  ∀ (p : Program) (e : Env) (s : State) (m : MethodId) (args : Array Value) (below : List Frame) (meth : Method) (c : Code) (H : Heap) (locs : List Loc) (cells slots : Nat) (la : Array Slot),
    q_C g M E p s m args meth c → q_P g S H → va_S (q_A g) s.heap H locs → cells + kc ≤ (q_R M).cells → slots + ks ≤ (q_R M).slots → lv_has la M.2.2.1 ls →
    W p g.1 e (q_R M) s m args below meth c H locs cells slots (Z below args s) (F0 m pc la st)
/-- a method's end -/
def q_Qc (g : q_G) (Q : Option Value → q_S → Prop) : Array Value → State → Outcome → State → Prop := fun _ st oc t => ∃ (v : Option Value) (S : q_S), oc = .returned v ∧ Q v S ∧ q_P g S t.heap ∧ va_F (q_A g) st t
def q_Z (g : q_G) (M : q_M) (Q : Option Value → q_S → Prop) : List Frame → Array Value → State → State → Prop := fun below args s => MQ below (q_Qc g Q) args s (q_R M).cells (q_R M).slots (q_A g)
def q_T : State → Prop := fun _ => True
/-- the contract of a method from its entry on -/
abbrev q_Cn (g : q_G) (M : q_M) (as : List Value) (S : q_S) (Q : Option Value → q_S → Prop) : Prop := q_V g M q_T (q_Z g M Q) (q_R M).cells (q_R M).slots 0 (lv_args 0 as) [] S
def q_ws1 (M : q_M) : List Cond := Cond.code M.1 M.2.1 M.2.2.1 M.2.2.2.1 :: q_WS
/-- what a method's name must be to be called -/
def q_ok (M : q_M) (np : Nat) : Prop := plainName M.1.cls = true ∧ Cond.code M.1 M.2.1 M.2.2.1 M.2.2.2.1 ∈ q_WS ∧ Cond.initialized M.1.cls ∈ q_WS ∧ (M.1.cls ≠ "java/lang/invoke/MethodHandle" ∧ M.1.cls ≠ "java/lang/invoke/VarHandle") ∧ (parseMethodDescriptor M.1.desc).map (fun d => d.parameters.length) = some np
theorem q_met {g : q_G} {M : q_M} {np : Nat} (hM : q_ok M np) {as : List Value} {S : q_S} {Q : Option Value → q_S → Prop} (hlen : (lg_sl as).length ≤ M.2.2.1) (h : q_Cn g M as S Q) :
    Met g.1 M.1 (q_ws1 M) (q_R M) (va_Pc as (fun U => q_K g U ∧ q_P g S U.heap)) (q_Qc g Q) (q_R M).cells (q_R M).slots (q_A g) := by
  refine Met.ofW (cc := M.2.1) (maxL := M.2.2.1) (ret := M.2.2.2.1) hM.1 rfl ?_
  intro p e s m args below meth c s₁ B hml hv
  obtain ⟨rfl, hK, hP⟩ := hv
  have hl := lv_entry as hlen
  rw [lg_entry_eq]
  generalize (lg_sl as ++ List.replicate (M.2.2.1 - (lg_sl as).length) Slot.unset).toArray = la at hl ⊢
  have hts := atoms_spec (ws := q_ws1 M) B.pre
  refine h p e s m _ below meth c s.heap [] 0 0 la ⟨B.exec, B.bytes, B.returns, hml, findClass_of_methodNamed B.named, fun w hw => hts w (List.mem_cons_of_mem _ hw), B.notSynchronized, fun hn => ?_, hK, trivial, by rw [hP.1]; exact Nat.le_add_right _ _⟩ hP va_S.rf (by omega) (by omega) hl
  rw [← hn]
  exact (name_of_methodNamed B.named B.method).1
