def q_F0 : Nat → Nat → Option Nat := fun k j => match k with
  | 0 => (match j with | 0 => some 1 | 2 => some 2 | 3 => some 3 | 5 => some 23 | 6 => some 28 | 7 => some 33 | 8 => some 34 | 9 => some 36 | 11 => some 38 | _ => none)
  | 1 => (match j with | 0 => some 46 | 1 => some 49 | 2 => some 52 | 3 => some 55 | _ => none)
  | 3 => (match j with | 0 => some 4 | _ => none)
  | 4 => (match j with | 0 => some 5 | 1 => some 7 | 2 => some 9 | 3 => some 11 | 4 => some 13 | 5 => some 15 | 6 => some 17 | 7 => some 19 | 8 => some 21 | _ => none)
  | 5 => (match j with | 4 => some 6 | _ => none)
  | 7 => (match j with | 4 => some 8 | _ => none)
  | 9 => (match j with | 4 => some 10 | _ => none)
  | 11 => (match j with | 4 => some 12 | _ => none)
  | 13 => (match j with | 4 => some 14 | _ => none)
  | 15 => (match j with | 4 => some 16 | _ => none)
  | 17 => (match j with | 4 => some 18 | _ => none)
  | 19 => (match j with | 4 => some 20 | _ => none)
  | 21 => (match j with | 4 => some 22 | _ => none)
  | 23 => (match j with | 4 => some 24 | 5 => some 25 | 6 => some 26 | 9 => some 27 | _ => none)
  | 28 => (match j with | 0 => some 29 | 1 => some 30 | 2 => some 31 | 4 => some 32 | _ => none)
  | 34 => (match j with | 1 => some 35 | _ => none)
  | 36 => (match j with | 1 => some 37 | _ => none)
  | 38 => (match j with | 0 => some 39 | 1 => some 40 | 2 => some 41 | 4 => some 42 | 5 => some 44 | 6 => some 45 | _ => none)
  | 42 => (match j with | 4 => some 43 | _ => none)
  | 46 => (match j with | 0 => some 47 | 1 => some 48 | _ => none)
  | 49 => (match j with | 0 => some 50 | 1 => some 51 | _ => none)
  | 52 => (match j with | 0 => some 53 | 1 => some 54 | _ => none)
  | 55 => (match j with | 0 => some 56 | 1 => some 57 | _ => none)
  | 58 => (match j with | 0 => some 59 | 1 => some 60 | 2 => some 61 | 4 => some 62 | 7 => some 63 | 8 => some 64 | 9 => some 65 | 10 => some 66 | 12 => some 67 | 13 => some 68 | 14 => some 69 | 18 => some 70 | 19 => some 71 | 25 => some 72 | 26 => some 73 | 27 => some 74 | 29 => some 75 | 30 => some 76 | 31 => some 77 | 32 => some 78 | 33 => some 79 | 35 => some 80 | 36 => some 81 | 37 => some 82 | 38 => some 83 | 39 => some 84 | 43 => some 85 | 44 => some 86 | 45 => some 87 | 46 => some 88 | _ => none)
  | _ => none
def q_F1 : Nat → Nat → Option Nat := fun k j => match k with
  | 0 => (match j with | 10 => some 89 | _ => none)
  | 89 => (match j with | 0 => some 33 | 1 => some 34 | 2 => some 90 | 3 => some 91 | _ => none)
  | _ => none
/-- the references as the constructors left them -/
def q_FF (F : Nat → Nat → Option Nat) : Prop := ∀ k j t, q_F0 k j = some t → F k j = some t
def q_FP (F : Nat → Nat → Option Nat) : Prop := ∀ k j t, q_F1 k j = some t → F k j = some t
def q_isPlan (a : Nat) : Prop := a = 46 ∨ a = 49 ∨ a = 52 ∨ a = 55
def q_isShip (a : Nat) : Prop := a = 5 ∨ a = 7 ∨ a = 9 ∨ a = 11 ∨ a = 13 ∨ a = 15 ∨ a = 17 ∨ a = 19 ∨ a = 21 ∨ a = 42
def q_isVoy (a : Nat) : Prop := a = 34 ∨ a = 36
theorem q_is34 : q_isVoy 34 := Or.inl rfl
theorem q_is36 : q_isVoy 36 := Or.inr rfl
theorem q_is42 : q_isShip 42 := by simp [q_isShip]
theorem q_plan_0 {a : Nat} (h : q_isPlan a) : q_lay a = (0, 5) := by rcases h with rfl | rfl | rfl | rfl <;> rfl
theorem q_plan_1 {a : Nat} (h : q_isPlan a) : q_lay (a + 1) = (1, 12) := by rcases h with rfl | rfl | rfl | rfl <;> rfl
theorem q_plan_2 {a : Nat} (h : q_isPlan a) : q_lay (a + 2) = (1, 12) := by rcases h with rfl | rfl | rfl | rfl <;> rfl
theorem q_ship_0 {a : Nat} (h : q_isShip a) : q_lay a = (0, 7) := by rcases h with rfl | rfl | rfl | rfl | rfl | rfl | rfl | rfl | rfl | rfl <;> rfl
theorem q_ship_1 {a : Nat} (h : q_isShip a) : q_lay (a + 1) = (1, 10) := by rcases h with rfl | rfl | rfl | rfl | rfl | rfl | rfl | rfl | rfl | rfl <;> rfl
theorem q_voy_0 {a : Nat} (h : q_isVoy a) : q_lay a = (0, 8) := by rcases h with rfl | rfl <;> rfl
theorem q_voy_1 {a : Nat} (h : q_isVoy a) : q_lay (a + 1) = (1, 41) := by rcases h with rfl | rfl <;> rfl
theorem q_plan_n {a n : Nat} (h : q_isPlan a) (hn : 89 ≤ n) : a + 2 < n := by unfold q_isPlan at h; omega
theorem q_ship_n {a n : Nat} (h : q_isShip a) (hn : 89 ≤ n) : a + 2 < n := by unfold q_isShip at h; omega
theorem q_voy_n {a n : Nat} (h : q_isVoy a) (hn : 89 ≤ n) : a + 2 < n := by unfold q_isVoy at h; omega
theorem q_lt0 {a n : Nat} (h : a + 2 < n) : a < n := by omega
theorem q_lt1 {a n : Nat} (h : a + 2 < n) : a + 1 < n := by omega
theorem q_lt2 {a n : Nat} (h : a + 2 < n) : a + 2 < n := h
theorem q_plan_F1 {F : Nat → Nat → Option Nat} (hF : q_FF F) {a : Nat} (h : q_isPlan a) : F a 0 = some (a + 1) := by rcases h with rfl | rfl | rfl | rfl <;> exact hF _ _ _ rfl
theorem q_plan_F2 {F : Nat → Nat → Option Nat} (hF : q_FF F) {a : Nat} (h : q_isPlan a) : F a 1 = some (a + 2) := by rcases h with rfl | rfl | rfl | rfl <;> exact hF _ _ _ rfl
theorem q_ship_F1 {F : Nat → Nat → Option Nat} (hF : q_FF F) {a : Nat} (h : q_isShip a) : F a 4 = some (a + 1) := by rcases h with rfl | rfl | rfl | rfl | rfl | rfl | rfl | rfl | rfl | rfl <;> exact hF _ _ _ rfl
theorem q_voy_F1 {F : Nat → Nat → Option Nat} (hF : q_FF F) {a : Nat} (h : q_isVoy a) : F a 1 = some (a + 1) := by rcases h with rfl | rfl <;> exact hF _ _ _ rfl
/-- an index is in a row of n -/
def q_in (i : Int32) (n : Nat) : Bool := decide (0 ≤ i) && decide (i.toNatClampNeg < n)
theorem q_in_vp {i : Int32} {n : Nat} (h : q_in i n = true) : vp_in i n := by
  simp only [q_in, Bool.and_eq_true, decide_eq_true_eq] at h
  rintro (h1 | h1)
  · rw [Int32.lt_iff_toInt_lt] at h1
    have := h.1
    rw [Int32.le_iff_toInt_le] at this
    omega
  · omega
theorem q_in_lt {i : Int32} {n : Nat} (h : q_in i n = true) : i.toNatClampNeg < n := by
  simp only [q_in, Bool.and_eq_true, decide_eq_true_eq] at h
  exact h.2
theorem q_at_plan {i : Int32} (h : q_in i 4 = true) : q_isPlan (46 + 3 * i.toNatClampNeg) := by
  have := q_in_lt h
  unfold q_isPlan
  omega
theorem q_at_ship {i : Int32} (h : q_in i 9 = true) : q_isShip (5 + 2 * i.toNatClampNeg) := by
  have := q_in_lt h
  unfold q_isShip
  omega
theorem q_at_planF {F : Nat → Nat → Option Nat} (hF : q_FF F) {i : Int32} (h : q_in i 4 = true) : F 1 i.toNatClampNeg = some (46 + 3 * i.toNatClampNeg) := by
  have := q_in_lt h
  generalize i.toNatClampNeg = k at *
  match k, this with
  | 0, _ => exact hF _ _ _ rfl
  | 1, _ => exact hF _ _ _ rfl
  | 2, _ => exact hF _ _ _ rfl
  | 3, _ => exact hF _ _ _ rfl
theorem q_at_shipF {F : Nat → Nat → Option Nat} (hF : q_FF F) {i : Int32} (h : q_in i 9 = true) : F 4 i.toNatClampNeg = some (5 + 2 * i.toNatClampNeg) := by
  have := q_in_lt h
  generalize i.toNatClampNeg = k at *
  match k, this with
  | 0, _ => exact hF _ _ _ rfl
  | 1, _ => exact hF _ _ _ rfl
  | 2, _ => exact hF _ _ _ rfl
  | 3, _ => exact hF _ _ _ rfl
  | 4, _ => exact hF _ _ _ rfl
  | 5, _ => exact hF _ _ _ rfl
  | 6, _ => exact hF _ _ _ rfl
  | 7, _ => exact hF _ _ _ rfl
  | 8, _ => exact hF _ _ _ rfl
/-- ints and longs -/
abbrev q_Mm : Type := (Nat → Nat → Int32) × (Nat → Nat → Int64)
def q_wi (m : q_Mm) (a j : Nat) (x : Int32) : q_Mm := (q_up m.1 a j x, m.2)
def q_wl (m : q_Mm) (a j : Nat) (x : Int64) : q_Mm := (m.1, q_up m.2 a j x)
abbrev q_mk (n : Nat) (F : Nat → Nat → Option Nat) (m : q_Mm) : q_S := (n, m.1, m.2, F)
def q_Q (v0 : Option Value) (S0 : q_S) : Option Value → q_S → Prop := fun v S => v = v0 ∧ S = S0
theorem q_it {α : Type} {c : Prop} {i : Decidable c} {x y z : α} (hc : c) (h : @ite α c i x y = z) : x = z := by rw [if_pos hc] at h; exact h
theorem q_if {α : Type} {c : Prop} {i : Decidable c} {x y z : α} (hc : ¬ c) (h : @ite α c i x y = z) : y = z := by rw [if_neg hc] at h; exact h
theorem q_is {α : Type} {c : Prop} {i : Decidable c} {x : Option α} {z : α} (h : @ite (Option α) c i x none = some z) : c ∧ x = some z := by
  by_cases hc : c
  · rw [if_pos hc] at h; exact ⟨hc, h⟩
  · rw [if_neg hc] at h; cases h
theorem q_bd {α β : Type} {o : Option α} {f : α → Option β} {z : β} (h : o.bind f = some z) : ∃ x, o = some x ∧ f x = some z := by
  cases o with
  | none => cases h
  | some x => exact ⟨x, rfl, h⟩
theorem q_out {x : Int32} {lo hi : Int} (N : Nat) (hN : lo + N = hi + 1) (h : ∀ k : Nat, k < N → ¬ x = Int32.ofInt (lo + k)) : x.toInt < lo ∨ hi < x.toInt := by
  by_cases h1 : x.toInt < lo
  · exact Or.inl h1
  · by_cases h2 : hi < x.toInt
    · exact Or.inr h2
    · refine absurd ?_ (h (x.toInt - lo).toNat (by omega))
      rw [show lo + ((x.toInt - lo).toNat : Int) = x.toInt by omega, Int32.ofInt_toInt]
/-- 0 or 1 -/
def q_bo (x : Int32) : Prop := x = 0 ∨ x = 1
theorem q_bo_n {x : Int32} (h : q_bo x) : narrow .boolean (.int x) = .int x := by rcases h with rfl | rfl <;> rfl
section QU
variable {g : q_G} {M : q_M} {E : State → Prop} {Z : List Frame → Array Value → State → State → Prop} {kc ks pc : Nat} {ls : List (Nat × Value)} {st : List Value} {S : q_S} {n : Nat} {F : Nat → Nat → Option Nat} {m : q_Mm}
theorem u_geti {a ci j idx : Nat} (hd : decode M.2.1 pc = .ok (.getfield idx, 3)) (hF : q_FL M.1.cls idx ci j) (ht : q_kd (q_ty ci j) = 0) (hy : q_lay a = (0, ci)) (ha : a < n) (k : q_V g M E Z kc ks (pc + 3) ls (.int (m.1 a j) :: st) (q_mk n F m)) : q_V g M E Z kc ks pc ls (q_r g a :: st) (q_mk n F m) := q_geti (S := (q_mk n F m)) hd hF ht hy ha k
theorem u_getl {a ci j idx : Nat} (hd : decode M.2.1 pc = .ok (.getfield idx, 3)) (hF : q_FL M.1.cls idx ci j) (ht : q_kd (q_ty ci j) = 1) (hy : q_lay a = (0, ci)) (ha : a < n) (k : q_V g M E Z kc ks (pc + 3) ls (.long (m.2 a j) :: st) (q_mk n F m)) : q_V g M E Z kc ks pc ls (q_r g a :: st) (q_mk n F m) := q_getl (S := (q_mk n F m)) hd hF ht hy ha k
theorem u_getr {t : Nat} {a ci j idx : Nat} (hd : decode M.2.1 pc = .ok (.getfield idx, 3)) (hF : q_FL M.1.cls idx ci j) (ht : q_kd (q_ty ci j) = 2) (hy : q_lay a = (0, ci)) (ha : a < n) (hf : F a j = some t) (k : q_V g M E Z kc ks (pc + 3) ls (q_r g t :: st) (q_mk n F m)) : q_V g M E Z kc ks pc ls (q_r g a :: st) (q_mk n F m) := q_getr (S := (q_mk n F m)) hd hF ht hy ha hf k
theorem u_puti {x : Int32} {a ci j idx : Nat} (hd : decode M.2.1 pc = .ok (.putfield idx, 3)) (hF : q_FL M.1.cls idx ci j) (ht : q_kd (q_ty ci j) = 0) (hy : q_lay a = (0, ci)) (ha : a < n) (hfin : ((q_cl ci).2.1 j).2.2.2 = false) (hn : narrow (q_ty ci j) (.int x) = .int x) (hfit : fits (q_ty ci j) (.int x) = true) (k : q_V g M E Z kc ks (pc + 3) ls st (q_mk n F (q_wi m a j x))) : q_V g M E Z kc ks pc ls (.int x :: q_r g a :: st) (q_mk n F m) := q_puti (S := (q_mk n F m)) hd hF ht hy ha hfin hn hfit k
theorem u_putl {x : Int64} {a ci j idx : Nat} (hd : decode M.2.1 pc = .ok (.putfield idx, 3)) (hF : q_FL M.1.cls idx ci j) (ht : q_kd (q_ty ci j) = 1) (hy : q_lay a = (0, ci)) (ha : a < n) (hfin : ((q_cl ci).2.1 j).2.2.2 = false) (hn : narrow (q_ty ci j) (.long x) = .long x) (hfit : fits (q_ty ci j) (.long x) = true) (k : q_V g M E Z kc ks (pc + 3) ls st (q_mk n F (q_wl m a j x))) : q_V g M E Z kc ks pc ls (.long x :: q_r g a :: st) (q_mk n F m) := q_putl (S := (q_mk n F m)) hd hF ht hy ha hfin hn hfit k
theorem u_iald {a len : Nat} {i : Int32} (hd : decode M.2.1 pc = .ok (.iaload, 1)) (hy : q_lay a = (1, len)) (ha : a < n) (hin : vp_in i len) (k : q_V g M E Z kc ks (pc + 1) ls (.int (m.1 a i.toNatClampNeg) :: st) (q_mk n F m)) : q_V g M E Z kc ks pc ls (.int i :: q_r g a :: st) (q_mk n F m) := q_iald (S := (q_mk n F m)) hd hy ha hin k
theorem u_zald {a len : Nat} {i : Int32} (hd : decode M.2.1 pc = .ok (.baload, 1)) (hy : q_lay a = (3, len)) (ha : a < n) (hin : vp_in i len) (k : q_V g M E Z kc ks (pc + 1) ls (.int (m.1 a i.toNatClampNeg) :: st) (q_mk n F m)) : q_V g M E Z kc ks pc ls (.int i :: q_r g a :: st) (q_mk n F m) := q_zald (S := (q_mk n F m)) hd hy ha hin k
theorem u_lald {a len : Nat} {i : Int32} (hd : decode M.2.1 pc = .ok (.laload, 1)) (hy : q_lay a = (2, len)) (ha : a < n) (hin : vp_in i len) (k : q_V g M E Z kc ks (pc + 1) ls (.long (m.2 a i.toNatClampNeg) :: st) (q_mk n F m)) : q_V g M E Z kc ks pc ls (.int i :: q_r g a :: st) (q_mk n F m) := q_lald (S := (q_mk n F m)) hd hy ha hin k
theorem u_aald {a len t : Nat} {i : Int32} (hd : decode M.2.1 pc = .ok (.aaload, 1)) (hy : q_lay a = (4, len) ∨ q_lay a = (5, len)) (ha : a < n) (hin : vp_in i len) (hf : F a i.toNatClampNeg = some t) (k : q_V g M E Z kc ks (pc + 1) ls (q_r g t :: st) (q_mk n F m)) : q_V g M E Z kc ks pc ls (.int i :: q_r g a :: st) (q_mk n F m) := q_aald (S := (q_mk n F m)) hd hy ha hin hf k
theorem u_iast {a len : Nat} {i : Int32} {x : Int32} (hd : decode M.2.1 pc = .ok (.iastore, 1)) (hy : q_lay a = (1, len)) (ha : a < n) (hin : vp_in i len) (k : q_V g M E Z kc ks (pc + 1) ls st (q_mk n F (q_wi m a i.toNatClampNeg x))) : q_V g M E Z kc ks pc ls (.int x :: .int i :: q_r g a :: st) (q_mk n F m) := q_iast (S := (q_mk n F m)) hd hy ha hin k
theorem u_zast {a len : Nat} {i : Int32} {x : Int32} (hd : decode M.2.1 pc = .ok (.bastore, 1)) (hy : q_lay a = (3, len)) (ha : a < n) (hin : vp_in i len) (hnar : narrow .boolean (.int x) = .int x) (k : q_V g M E Z kc ks (pc + 1) ls st (q_mk n F (q_wi m a i.toNatClampNeg x))) : q_V g M E Z kc ks pc ls (.int x :: .int i :: q_r g a :: st) (q_mk n F m) := q_zast (S := (q_mk n F m)) hd hy ha hin hnar k
theorem u_last {a len : Nat} {i : Int32} {x : Int64} (hd : decode M.2.1 pc = .ok (.lastore, 1)) (hy : q_lay a = (2, len)) (ha : a < n) (hin : vp_in i len) (k : q_V g M E Z kc ks (pc + 1) ls st (q_mk n F (q_wl m a i.toNatClampNeg x))) : q_V g M E Z kc ks pc ls (.long x :: .int i :: q_r g a :: st) (q_mk n F m) := q_last (S := (q_mk n F m)) hd hy ha hin k
theorem c_V1 {v : Value} {S' : q_S} {K : q_M} {np idx a ci : Nat} {as : List Value} {st0 : List Value} (hd : decode M.2.1 pc = .ok (.invokevirtual idx, 3)) (hK : q_ok K np) (hL : Cond.methodLink M.1.cls idx K.1 ∈ q_WS ∧ Cond.instanceMethod K.1 ∈ q_WS ∧ Cond.selects K.1.cls K.1 K.1 ∈ q_WS) (h0 : (q_R K).cells = 0 ∧ (q_R K).slots = 0) (hR : q_fit M K) (hlt : ci < 11) (hci : (q_cl ci).1 = K.1.cls) (hy : q_lay a = (0, ci)) (ha : a < S.1) (hst : st0 = as.reverse ++ q_r g a :: st) (hnp : as.length = np) (hcat : (st.map fun v => v.category).sum ≤ 8) (hlen : (lg_sl (q_r g a :: as)).length ≤ K.2.2.1) (hc : q_Cn g K (q_r g a :: as) S (q_Q (some v) S')) (k : q_V g M E Z kc ks (pc + 3) ls (v :: st) S') : q_V g M E Z kc ks pc ls st0 S :=
  q_callV kc ks (by rw [h0.1]; exact Nat.le_refl _) (by rw [h0.2]; exact Nat.le_refl _) hd hK hL hR hlt hci hy ha hst hnp hcat hlen hc (by rintro _ _ ⟨rfl, rfl⟩; exact k)
theorem c_S1 {v : Value} {S' : q_S} {K : q_M} {np idx : Nat} {as : List Value} {st0 : List Value} (hd : decode M.2.1 pc = .ok (.invokestatic idx, 3)) (hK : q_ok K np) (hL : Cond.methodLink M.1.cls idx K.1 ∈ q_WS ∧ Cond.static K.1 ∈ q_WS) (h0 : (q_R K).cells = 0 ∧ (q_R K).slots = 0) (hR : q_fit M K) (hst : st0 = as.reverse ++ st) (hnp : as.length = np) (hcat : (st.map fun v => v.category).sum ≤ 8) (hlen : (lg_sl as).length ≤ K.2.2.1) (hc : q_Cn g K as S (q_Q (some v) S')) (k : q_V g M E Z kc ks (pc + 3) ls (v :: st) S') : q_V g M E Z kc ks pc ls st0 S :=
  q_callS kc ks (by rw [h0.1]; exact Nat.le_refl _) (by rw [h0.2]; exact Nat.le_refl _) hd hK hL hR hst hnp hcat hlen hc (by rintro _ _ ⟨rfl, rfl⟩; exact k)
theorem c_SN1 {v : Value} {S' : q_S} {K : q_M} {np idx : Nat} {as : List Value} {st0 : List Value} (hd : decode M.2.1 pc = .ok (.invokestatic idx, 3)) (hK : q_ok K np) (hL : (M.1.cls, idx, K.1) ∈ q_nest ∧ Cond.static K.1 ∈ q_WS) (h0 : (q_R K).cells = 0 ∧ (q_R K).slots = 0) (hR : q_fit M K) (hst : st0 = as.reverse ++ st) (hnp : as.length = np) (hcat : (st.map fun v => v.category).sum ≤ 8) (hlen : (lg_sl as).length ≤ K.2.2.1) (hc : q_Cn g K as S (q_Q (some v) S')) (k : q_V g M E Z kc ks (pc + 3) ls (v :: st) S') : q_V g M E Z kc ks pc ls st0 S :=
  q_callSN kc ks (by rw [h0.1]; exact Nat.le_refl _) (by rw [h0.2]; exact Nat.le_refl _) hd hK hL hR hst hnp hcat hlen hc (by rintro _ _ ⟨rfl, rfl⟩; exact k)
theorem c_V0 {S' : q_S} {K : q_M} {np idx a ci : Nat} {as : List Value} {st0 : List Value} (hd : decode M.2.1 pc = .ok (.invokevirtual idx, 3)) (hK : q_ok K np) (hL : Cond.methodLink M.1.cls idx K.1 ∈ q_WS ∧ Cond.instanceMethod K.1 ∈ q_WS ∧ Cond.selects K.1.cls K.1 K.1 ∈ q_WS) (h0 : (q_R K).cells = 0 ∧ (q_R K).slots = 0) (hR : q_fit M K) (hlt : ci < 11) (hci : (q_cl ci).1 = K.1.cls) (hy : q_lay a = (0, ci)) (ha : a < S.1) (hst : st0 = as.reverse ++ q_r g a :: st) (hnp : as.length = np) (hcat : (st.map fun v => v.category).sum ≤ 8) (hlen : (lg_sl (q_r g a :: as)).length ≤ K.2.2.1) (hc : q_Cn g K (q_r g a :: as) S (q_Q none S')) (k : q_V g M E Z kc ks (pc + 3) ls (st) S') : q_V g M E Z kc ks pc ls st0 S :=
  q_callV kc ks (by rw [h0.1]; exact Nat.le_refl _) (by rw [h0.2]; exact Nat.le_refl _) hd hK hL hR hlt hci hy ha hst hnp hcat hlen hc (by rintro _ _ ⟨rfl, rfl⟩; exact k)
theorem c_S0 {S' : q_S} {K : q_M} {np idx : Nat} {as : List Value} {st0 : List Value} (hd : decode M.2.1 pc = .ok (.invokestatic idx, 3)) (hK : q_ok K np) (hL : Cond.methodLink M.1.cls idx K.1 ∈ q_WS ∧ Cond.static K.1 ∈ q_WS) (h0 : (q_R K).cells = 0 ∧ (q_R K).slots = 0) (hR : q_fit M K) (hst : st0 = as.reverse ++ st) (hnp : as.length = np) (hcat : (st.map fun v => v.category).sum ≤ 8) (hlen : (lg_sl as).length ≤ K.2.2.1) (hc : q_Cn g K as S (q_Q none S')) (k : q_V g M E Z kc ks (pc + 3) ls (st) S') : q_V g M E Z kc ks pc ls st0 S :=
  q_callS kc ks (by rw [h0.1]; exact Nat.le_refl _) (by rw [h0.2]; exact Nat.le_refl _) hd hK hL hR hst hnp hcat hlen hc (by rintro _ _ ⟨rfl, rfl⟩; exact k)
theorem c_SN0 {S' : q_S} {K : q_M} {np idx : Nat} {as : List Value} {st0 : List Value} (hd : decode M.2.1 pc = .ok (.invokestatic idx, 3)) (hK : q_ok K np) (hL : (M.1.cls, idx, K.1) ∈ q_nest ∧ Cond.static K.1 ∈ q_WS) (h0 : (q_R K).cells = 0 ∧ (q_R K).slots = 0) (hR : q_fit M K) (hst : st0 = as.reverse ++ st) (hnp : as.length = np) (hcat : (st.map fun v => v.category).sum ≤ 8) (hlen : (lg_sl as).length ≤ K.2.2.1) (hc : q_Cn g K as S (q_Q none S')) (k : q_V g M E Z kc ks (pc + 3) ls (st) S') : q_V g M E Z kc ks pc ls st0 S :=
  q_callSN kc ks (by rw [h0.1]; exact Nat.le_refl _) (by rw [h0.2]; exact Nat.le_refl _) hd hK hL hR hst hnp hcat hlen hc (by rintro _ _ ⟨rfl, rfl⟩; exact k)
end QU
