def q_nx (lab : Nat) (S : q_S) : q_S := (lab + 1, fun k => if k = lab then (fun _ => 0) else S.2.1 k, fun k => if k = lab then (fun _ => 0) else S.2.2.1 k, fun k => if k = lab then (fun _ => none) else S.2.2.2 k)
theorem q_s2 {S : q_S} {n0 a : Nat} (hS : S.1 = n0) (h : a < n0) : a < S.1 := by rw [hS]; exact h
section QX
variable {g : q_G} {M : q_M} {E : State → Prop} {Z : List Frame → Array Value → State → State → Prop} {kc ks pc : Nat} {ls : List (Nat × Value)} {st : List Value} {S : q_S}
theorem c_new {idx ci N : Nat} (lab : Nat) (h0 : S.1 = lab) (hd : decode M.2.1 pc = .ok (.new idx, 3)) (hlt : ci < 11) (hw : Cond.classLink M.1.cls idx (q_cl ci).1 ∈ q_WS ∧ Cond.instantiable (q_cl ci).1 (q_cl ci).2.2 ∈ q_WS ∧ Cond.initialized (q_cl ci).1 ∈ q_WS) (hN : (q_cl ci).2.2 = N) (hy : q_lay lab = (0, ci)) (k : q_V g M E Z kc ks (pc + 3) ls (q_r g lab :: st) (q_nx lab S)) : q_V g M E Z (kc + 1) (ks + N) pc ls st S := by subst h0; exact q_new hd hlt hw hN hy k
theorem c_newI {n : Int32} {len : Nat} (lab : Nat) (h0 : S.1 = lab) (hd : decode M.2.1 pc = .ok (.newarray .int, 2)) (hy : q_lay lab = (1, len)) (hn : ¬ n < 0) (hN : n.toNatClampNeg = len) (hB : len ≤ 1000000) (k : q_V g M E Z kc ks (pc + 2) ls (q_r g lab :: st) (q_nx lab S)) : q_V g M E Z (kc + 1) (ks + len) pc ls (.int n :: st) S := by subst h0; exact q_newI hd q_wAI hy hn hN hB k
theorem c_newL {n : Int32} {len : Nat} (lab : Nat) (h0 : S.1 = lab) (hd : decode M.2.1 pc = .ok (.newarray .long, 2)) (hy : q_lay lab = (2, len)) (hn : ¬ n < 0) (hN : n.toNatClampNeg = len) (hB : len ≤ 1000000) (k : q_V g M E Z kc ks (pc + 2) ls (q_r g lab :: st) (q_nx lab S)) : q_V g M E Z (kc + 1) (ks + len) pc ls (.int n :: st) S := by subst h0; exact q_newL hd q_wAJ hy hn hN hB k
theorem c_newZ {n : Int32} {len : Nat} (lab : Nat) (h0 : S.1 = lab) (hd : decode M.2.1 pc = .ok (.newarray .boolean, 2)) (hy : q_lay lab = (3, len)) (hn : ¬ n < 0) (hN : n.toNatClampNeg = len) (hB : len ≤ 1000000) (k : q_V g M E Z kc ks (pc + 2) ls (q_r g lab :: st) (q_nx lab S)) : q_V g M E Z (kc + 1) (ks + len) pc ls (.int n :: st) S := by subst h0; exact q_newZ hd q_wAZ hy hn hN hB k
theorem c_newP {n : Int32} {len idx : Nat} (lab : Nat) (h0 : S.1 = lab) (hd : decode M.2.1 pc = .ok (.anewarray idx, 3)) (hw : Cond.classLink M.1.cls idx RX5 ∈ q_WS) (hy : q_lay lab = (4, len)) (hn : ¬ n < 0) (hN : n.toNatClampNeg = len) (hB : len ≤ 1000000) (k : q_V g M E Z kc ks (pc + 3) ls (q_r g lab :: st) (q_nx lab S)) : q_V g M E Z (kc + 1) (ks + len) pc ls (.int n :: st) S := by subst h0; exact q_newP hd hw hy hn hN hB k
theorem c_newS {n : Int32} {len idx : Nat} (lab : Nat) (h0 : S.1 = lab) (hd : decode M.2.1 pc = .ok (.anewarray idx, 3)) (hw : Cond.classLink M.1.cls idx RX7 ∈ q_WS) (hy : q_lay lab = (5, len)) (hn : ¬ n < 0) (hN : n.toNatClampNeg = len) (hB : len ≤ 1000000) (k : q_V g M E Z kc ks (pc + 3) ls (q_r g lab :: st) (q_nx lab S)) : q_V g M E Z (kc + 1) (ks + len) pc ls (.int n :: st) S := by subst h0; exact q_newS hd hw hy hn hN hB k
theorem c_I {S' : q_S} {K : q_M} {np idx a : Nat} {as : List Value} {st0 : List Value} (kc' ks' : Nat) (hkc : kc' + (q_R K).cells ≤ kc) (hks : ks' + (q_R K).slots ≤ ks) (hd : decode M.2.1 pc = .ok (.invokespecial idx, 3)) (hK : q_ok K np) (hL : Cond.methodLink M.1.cls idx K.1 ∈ q_WS ∧ Cond.instanceMethod K.1 ∈ q_WS) (hin : K.1.name = "<init>") (hrt : K.2.2.2.1 = none) (hR : q_fit M K) (hst : st0 = as.reverse ++ q_r g a :: st) (hnp : as.length = np) (hcat : (st.map fun v => v.category).sum ≤ 8) (hlen : (lg_sl (q_r g a :: as)).length ≤ K.2.2.1) (hc : q_Cn g K (q_r g a :: as) S (q_Q none S')) (k : q_V g M E Z kc' ks' (pc + 3) ls st S') : q_V g M E Z kc ks pc ls st0 S := q_callI kc' ks' hkc hks hd hK hL hin hrt hR hst hnp hcat hlen hc (by rintro _ _ ⟨rfl, rfl⟩; exact k)
theorem c_IN {S' : q_S} {K : q_M} {np idx a : Nat} {as : List Value} {st0 : List Value} (kc' ks' : Nat) (hkc : kc' + (q_R K).cells ≤ kc) (hks : ks' + (q_R K).slots ≤ ks) (hd : decode M.2.1 pc = .ok (.invokespecial idx, 3)) (hK : q_ok K np) (hL : (M.1.cls, idx, K.1) ∈ q_nest ∧ Cond.instanceMethod K.1 ∈ q_WS) (hin : K.1.name = "<init>") (hrt : K.2.2.2.1 = none) (hR : q_fit M K) (hst : st0 = as.reverse ++ q_r g a :: st) (hnp : as.length = np) (hcat : (st.map fun v => v.category).sum ≤ 8) (hlen : (lg_sl (q_r g a :: as)).length ≤ K.2.2.1) (hc : q_Cn g K (q_r g a :: as) S (q_Q none S')) (k : q_V g M E Z kc' ks' (pc + 3) ls st S') : q_V g M E Z kc ks pc ls st0 S := q_callIN kc' ks' hkc hks hd hK hL hin hrt hR hst hnp hcat hlen hc (by rintro _ _ ⟨rfl, rfl⟩; exact k)
end QX
def cS_X7 (a : Nat) (S : q_S) : q_S :=
  (q_pl (q_pl (q_pr (q_nx (a + 1) (q_pi (q_pi (q_pi (q_pi S a 0 0) a 1 0) a 2 1) a 3 0)) a 4 (some (a + 1))) a 5 0) a 6 0)
set_option maxRecDepth 100000 in
set_option maxHeartbeats 4000000 in
theorem t_X7_init {g : q_G} {S S' : q_S} {a : Nat} (ha : q_isShip a) (hS : S.1 = a + 1) (h : cS_X7 a S = S') : q_Cn g mX7_init [q_r g a] S (q_Q none S') := by
  unfold cS_X7 at h
  show q_V g mX7_init q_T _ 1 10 0 [(0, q_r g a)] [] S
  refine q_aload_n dX7_init_0 rfl ?_
  refine q_objInit dX7_init_1 lX7_3 (Nat.le_of_ble_eq_true rfl) (Nat.le_of_ble_eq_true rfl) ?_
  refine q_aload_n dX7_init_4 rfl ?_
  refine q_iconst (v := 0) dX7_init_5 (by decide) ?_
  refine q_puti dX7_init_6 fX7_9 rfl (q_ship_0 ha) (q_s2 hS (by omega)) rfl rfl rfl ?_
  refine q_aload_n dX7_init_9 rfl ?_
  refine q_iconst (v := 0) dX7_init_10 (by decide) ?_
  refine q_puti dX7_init_11 fX7_15 rfl (q_ship_0 ha) (q_s2 hS (by omega)) rfl rfl rfl ?_
  refine q_aload_n dX7_init_14 rfl ?_
  refine q_iconst (v := 1) dX7_init_15 (by decide) ?_
  refine q_puti dX7_init_16 fX7_18 rfl (q_ship_0 ha) (q_s2 hS (by omega)) rfl rfl rfl ?_
  refine q_aload_n dX7_init_19 rfl ?_
  refine q_iconst (v := 0) dX7_init_20 (by decide) ?_
  refine q_puti dX7_init_21 fX7_21 rfl (q_ship_0 ha) (q_s2 hS (by omega)) rfl rfl rfl ?_
  refine q_aload_n dX7_init_24 rfl ?_
  refine q_bipush (v := 10) dX7_init_25 (by decide) ?_
  refine c_newI (len := 10) (a + 1) hS dX7_init_27 (q_ship_1 ha) (by decide) (by decide) (by decide) ?_
  refine q_putrF dX7_init_29 fX7_24 rfl (q_ship_0 ha) (by show _ < _ + 1; omega) rfl rfl rfl rfl rfl ?_
  refine q_aload_n dX7_init_32 rfl ?_
  refine q_lconst (v := 0) dX7_init_33 (by decide) ?_
  refine q_putl dX7_init_34 fX7_28 rfl (q_ship_0 ha) (by show _ < _ + 1; omega) rfl rfl rfl ?_
  refine q_aload_n dX7_init_37 rfl ?_
  refine q_lconst (v := 0) dX7_init_38 (by decide) ?_
  refine q_putl dX7_init_39 fX7_32 rfl (q_ship_0 ha) (by show _ < _ + 1; omega) rfl rfl rfl ?_
  subst h
  exact q_vret dX7_init_42 rfl ⟨rfl, rfl⟩
def cS_X5 (a : Nat) (S : q_S) : q_S :=
  (q_pi (q_pr (q_nx (a + 2) (q_pr (q_nx (a + 1) S) a 0 (some (a + 1)))) a 1 (some (a + 2))) a 2 0)
set_option maxRecDepth 100000 in
set_option maxHeartbeats 4000000 in
theorem t_X5_init {g : q_G} {S S' : q_S} {a : Nat} (ha : q_isPlan a) (hS : S.1 = a + 1) (h : cS_X5 a S = S') : q_Cn g mX5_init [q_r g a] S (q_Q none S') := by
  unfold cS_X5 at h
  show q_V g mX5_init q_T _ 2 24 0 [(0, q_r g a)] [] S
  refine q_aload_n dX5_init_0 rfl ?_
  refine q_objInit dX5_init_1 lX5_3 (Nat.le_of_ble_eq_true rfl) (Nat.le_of_ble_eq_true rfl) ?_
  refine q_aload_n dX5_init_4 rfl ?_
  refine q_bipush (v := 12) dX5_init_5 (by decide) ?_
  refine c_newI (len := 12) (a + 1) hS dX5_init_7 (q_plan_1 ha) (by decide) (by decide) (by decide) ?_
  refine q_putrF dX5_init_9 fX5_9 rfl (q_plan_0 ha) (by show _ < _ + 1; omega) rfl rfl rfl rfl rfl ?_
  refine q_aload_n dX5_init_12 rfl ?_
  refine q_bipush (v := 12) dX5_init_13 (by decide) ?_
  refine c_newI (len := 12) (a + 2) rfl dX5_init_15 (q_plan_2 ha) (by decide) (by decide) (by decide) ?_
  refine q_putrF dX5_init_17 fX5_15 rfl (q_plan_0 ha) (by show _ < _ + 1; omega) rfl rfl rfl rfl rfl ?_
  refine q_aload_n dX5_init_20 rfl ?_
  refine q_iconst (v := 0) dX5_init_21 (by decide) ?_
  refine q_puti dX5_init_22 fX5_18 rfl (q_plan_0 ha) (by show _ < _ + 1; omega) rfl rfl rfl ?_
  subst h
  exact q_vret dX5_init_25 rfl ⟨rfl, rfl⟩
def cS_X8 (a : Nat) (S : q_S) : q_S :=
  (q_pi (q_pi (q_pi (q_pi (q_pr (q_nx (a + 1) (q_pi S a 0 0)) a 1 (some (a + 1))) a 2 0) a 3 0) a 4 0) a 5 0)
set_option maxRecDepth 100000 in
set_option maxHeartbeats 4000000 in
theorem t_X8_init {g : q_G} {S S' : q_S} {a : Nat} (ha : q_isVoy a) (hS : S.1 = a + 1) (h : cS_X8 a S = S') : q_Cn g mX8_init [q_r g a] S (q_Q none S') := by
  unfold cS_X8 at h
  show q_V g mX8_init q_T _ 1 41 0 [(0, q_r g a)] [] S
  refine q_aload_n dX8_init_0 rfl ?_
  refine q_objInit dX8_init_1 lX8_3 (Nat.le_of_ble_eq_true rfl) (Nat.le_of_ble_eq_true rfl) ?_
  refine q_aload_n dX8_init_4 rfl ?_
  refine q_iconst (v := 0) dX8_init_5 (by decide) ?_
  refine q_puti dX8_init_6 fX8_9 rfl (q_voy_0 ha) (q_s2 hS (by omega)) rfl rfl rfl ?_
  refine q_aload_n dX8_init_9 rfl ?_
  refine q_bipush (v := 41) dX8_init_10 (by decide) ?_
  refine c_newI (len := 41) (a + 1) hS dX8_init_12 (q_voy_1 ha) (by decide) (by decide) (by decide) ?_
  refine q_putrF dX8_init_14 fX8_15 rfl (q_voy_0 ha) (by show _ < _ + 1; omega) rfl rfl rfl rfl rfl ?_
  refine q_aload_n dX8_init_17 rfl ?_
  refine q_iconst (v := 0) dX8_init_18 (by decide) ?_
  refine q_puti dX8_init_19 fX8_19 rfl (q_voy_0 ha) (by show _ < _ + 1; omega) rfl rfl rfl ?_
  refine q_aload_n dX8_init_22 rfl ?_
  refine q_iconst (v := 0) dX8_init_23 (by decide) ?_
  refine q_puti dX8_init_24 fX8_23 rfl (q_voy_0 ha) (by show _ < _ + 1; omega) rfl rfl rfl ?_
  refine q_aload_n dX8_init_27 rfl ?_
  refine q_iconst (v := 0) dX8_init_28 (by decide) ?_
  refine q_puti dX8_init_29 fX8_26 rfl (q_voy_0 ha) (by show _ < _ + 1; omega) rfl rfl rfl ?_
  refine q_aload_n dX8_init_32 rfl ?_
  refine q_iconst (v := 0) dX8_init_33 (by decide) ?_
  refine q_puti dX8_init_34 fX8_29 rfl (q_voy_0 ha) (by show _ < _ + 1; omega) rfl rfl rfl ?_
  subst h
  exact q_vret dX8_init_37 rfl ⟨rfl, rfl⟩
def cS_X1 (S : q_S) : q_S :=
  (q_pi (q_pi S 2 0 0) 2 1 0)
set_option maxRecDepth 100000 in
set_option maxHeartbeats 4000000 in
theorem t_X1_init {g : q_G} {S S' : q_S} (hS : S.1 = 3) (h : cS_X1 S = S') : q_Cn g mX1_init [q_r g 2] S (q_Q none S') := by
  unfold cS_X1 at h
  show q_V g mX1_init q_T _ 0 0 0 [(0, q_r g 2)] [] S
  refine q_aload_n dX1_init_0 rfl ?_
  refine q_objInit dX1_init_1 lX1_1 (Nat.le_of_ble_eq_true rfl) (Nat.le_of_ble_eq_true rfl) ?_
  refine q_aload_n dX1_init_4 rfl ?_
  refine q_iconst (v := 0) dX1_init_5 (by decide) ?_
  refine q_puti dX1_init_6 fX1_7 rfl rfl (q_s2 hS (Nat.le_of_ble_eq_true rfl)) rfl rfl rfl ?_
  refine q_aload_n dX1_init_9 rfl ?_
  refine q_iconst (v := 0) dX1_init_10 (by decide) ?_
  refine q_puti dX1_init_11 fX1_13 rfl rfl (q_s2 hS (Nat.le_of_ble_eq_true rfl)) rfl rfl rfl ?_
  subst h
  exact q_vret dX1_init_14 rfl ⟨rfl, rfl⟩
def cS_X3 (S : q_S) : q_S :=
  (q_pi (q_pr (q_nx 27 (q_pi (q_pi (q_pr (q_nx 26 (q_pr (q_nx 25 (q_pr (q_nx 24 (q_pi (q_pi (q_pi (q_pi S 23 0 300000) 23 1 0) 23 2 5) 23 3 20000)) 23 4 (some 24))) 23 5 (some 25))) 23 6 (some 26)) 23 7 0) 23 8 (-6))) 23 9 (some 27)) 23 10 0)
set_option maxRecDepth 100000 in
set_option maxHeartbeats 4000000 in
theorem t_X3_init {g : q_G} {S S' : q_S} (hS : S.1 = 24) (h : cS_X3 S = S') : q_Cn g mX3_init [q_r g 23] S (q_Q none S') := by
  unfold cS_X3 at h
  show q_V g mX3_init q_T _ 4 16 0 [(0, q_r g 23)] [] S
  refine q_aload_n dX3_init_0 rfl ?_
  refine q_objInit dX3_init_1 lX3_3 (Nat.le_of_ble_eq_true rfl) (Nat.le_of_ble_eq_true rfl) ?_
  refine q_aload_n dX3_init_4 rfl ?_
  refine q_ldc dX3_init_5 kX3_9 ?_
  refine q_puti dX3_init_7 fX3_10 rfl rfl (q_s2 hS (Nat.le_of_ble_eq_true rfl)) rfl rfl rfl ?_
  refine q_aload_n dX3_init_10 rfl ?_
  refine q_iconst (v := 0) dX3_init_11 (by decide) ?_
  refine q_puti dX3_init_12 fX3_16 rfl rfl (q_s2 hS (Nat.le_of_ble_eq_true rfl)) rfl rfl rfl ?_
  refine q_aload_n dX3_init_15 rfl ?_
  refine q_iconst (v := 5) dX3_init_16 (by decide) ?_
  refine q_puti dX3_init_17 fX3_19 rfl rfl (q_s2 hS (Nat.le_of_ble_eq_true rfl)) rfl rfl rfl ?_
  refine q_aload_n dX3_init_20 rfl ?_
  refine q_sipush (v := 20000) dX3_init_21 (by decide) ?_
  refine q_puti dX3_init_24 fX3_22 rfl rfl (q_s2 hS (Nat.le_of_ble_eq_true rfl)) rfl rfl rfl ?_
  refine q_aload_n dX3_init_27 rfl ?_
  refine q_iconst (v := 4) dX3_init_28 (by decide) ?_
  refine c_newL (len := 4) 24 hS dX3_init_29 rfl (by decide) (by decide) (by decide) ?_
  refine q_putrF dX3_init_31 fX3_25 rfl rfl (Nat.le_of_ble_eq_true rfl) rfl rfl rfl rfl rfl ?_
  refine q_aload_n dX3_init_34 rfl ?_
  refine q_iconst (v := 4) dX3_init_35 (by decide) ?_
  refine c_newL (len := 4) 25 rfl dX3_init_36 rfl (by decide) (by decide) (by decide) ?_
  refine q_putrF dX3_init_38 fX3_29 rfl rfl (Nat.le_of_ble_eq_true rfl) rfl rfl rfl rfl rfl ?_
  refine q_aload_n dX3_init_41 rfl ?_
  refine q_iconst (v := 4) dX3_init_42 (by decide) ?_
  refine c_newI (len := 4) 26 rfl dX3_init_43 rfl (by decide) (by decide) (by decide) ?_
  refine q_putrF dX3_init_45 fX3_32 rfl rfl (Nat.le_of_ble_eq_true rfl) rfl rfl rfl rfl rfl ?_
  refine q_aload_n dX3_init_48 rfl ?_
  refine q_iconst (v := 0) dX3_init_49 (by decide) ?_
  refine q_puti dX3_init_50 fX3_36 rfl rfl (Nat.le_of_ble_eq_true rfl) rfl rfl rfl ?_
  refine q_aload_n dX3_init_53 rfl ?_
  refine q_bipush (v := (-6)) dX3_init_54 (by decide) ?_
  refine q_puti dX3_init_56 fX3_39 rfl rfl (Nat.le_of_ble_eq_true rfl) rfl rfl rfl ?_
  refine q_aload_n dX3_init_59 rfl ?_
  refine q_iconst (v := 4) dX3_init_60 (by decide) ?_
  refine c_newI (len := 4) 27 rfl dX3_init_61 rfl (by decide) (by decide) (by decide) ?_
  refine q_putrF dX3_init_63 fX3_42 rfl rfl (Nat.le_of_ble_eq_true rfl) rfl rfl rfl rfl rfl ?_
  refine q_aload_n dX3_init_66 rfl ?_
  refine q_iconst (v := 0) dX3_init_67 (by decide) ?_
  refine q_puti dX3_init_68 fX3_45 rfl rfl (Nat.le_of_ble_eq_true rfl) rfl rfl rfl ?_
  subst h
  exact q_vret dX3_init_71 rfl ⟨rfl, rfl⟩
def cS_X6 (S : q_S) : q_S :=
  (q_pi (q_pr (q_nx 32 (q_pi (q_pr (q_nx 31 (q_pr (q_nx 30 (q_pr (q_nx 29 S) 28 0 (some 29))) 28 1 (some 30))) 28 2 (some 31)) 28 3 0)) 28 4 (some 32)) 28 5 0)
set_option maxRecDepth 100000 in
set_option maxHeartbeats 4000000 in
theorem t_X6_init {g : q_G} {S S' : q_S} (hS : S.1 = 29) (h : cS_X6 S = S') : q_Cn g mX6_init [q_r g 28] S (q_Q none S') := by
  unfold cS_X6 at h
  show q_V g mX6_init q_T _ 4 430 0 [(0, q_r g 28)] [] S
  refine q_aload_n dX6_init_0 rfl ?_
  refine q_objInit dX6_init_1 lX6_3 (Nat.le_of_ble_eq_true rfl) (Nat.le_of_ble_eq_true rfl) ?_
  refine q_aload_n dX6_init_4 rfl ?_
  refine q_bipush (v := 10) dX6_init_5 (by decide) ?_
  refine c_newI (len := 10) 29 hS dX6_init_7 rfl (by decide) (by decide) (by decide) ?_
  refine q_putrF dX6_init_9 fX6_9 rfl rfl (Nat.le_of_ble_eq_true rfl) rfl rfl rfl rfl rfl ?_
  refine q_aload_n dX6_init_12 rfl ?_
  refine q_bipush (v := 10) dX6_init_13 (by decide) ?_
  refine c_newI (len := 10) 30 rfl dX6_init_15 rfl (by decide) (by decide) (by decide) ?_
  refine q_putrF dX6_init_17 fX6_15 rfl rfl (Nat.le_of_ble_eq_true rfl) rfl rfl rfl rfl rfl ?_
  refine q_aload_n dX6_init_20 rfl ?_
  refine q_bipush (v := 10) dX6_init_21 (by decide) ?_
  refine c_newI (len := 10) 31 rfl dX6_init_23 rfl (by decide) (by decide) (by decide) ?_
  refine q_putrF dX6_init_25 fX6_18 rfl rfl (Nat.le_of_ble_eq_true rfl) rfl rfl rfl rfl rfl ?_
  refine q_aload_n dX6_init_28 rfl ?_
  refine q_iconst (v := 0) dX6_init_29 (by decide) ?_
  refine q_puti dX6_init_30 fX6_21 rfl rfl (Nat.le_of_ble_eq_true rfl) rfl rfl rfl ?_
  refine q_aload_n dX6_init_33 rfl ?_
  refine q_sipush (v := 400) dX6_init_34 (by decide) ?_
  refine c_newI (len := 400) 32 rfl dX6_init_37 rfl (by decide) (by decide) (by decide) ?_
  refine q_putrF dX6_init_39 fX6_25 rfl rfl (Nat.le_of_ble_eq_true rfl) rfl rfl rfl rfl rfl ?_
  refine q_aload_n dX6_init_42 rfl ?_
  refine q_iconst (v := 0) dX6_init_43 (by decide) ?_
  refine q_puti dX6_init_44 fX6_28 rfl rfl (Nat.le_of_ble_eq_true rfl) rfl rfl rfl ?_
  subst h
  exact q_vret dX6_init_47 rfl ⟨rfl, rfl⟩
def cS_X0 (S : q_S) : q_S :=
  (q_pr (cS_X7 21 (q_nx 21 (q_pr (cS_X7 19 (q_nx 19 (q_pr (cS_X7 17 (q_nx 17 (q_pr (cS_X7 15 (q_nx 15 (q_pr (cS_X7 13 (q_nx 13 (q_pr (cS_X7 11 (q_nx 11 (q_pr (cS_X7 9 (q_nx 9 (q_pr (cS_X7 7 (q_nx 7 (q_pr (cS_X7 5 (q_nx 5 (q_pi (q_pi (q_pi (q_pl (q_pi (q_pi (q_pi (q_pi (q_pr (q_nx 4 S) 3 0 (some 4)) 3 1 0) 3 2 0) 3 3 0) 3 4 0) 3 5 0) 3 6 0) 3 7 0) 3 8 0))) 4 (0 : Int32).toNatClampNeg (some 5)))) 4 (1 : Int32).toNatClampNeg (some 7)))) 4 (2 : Int32).toNatClampNeg (some 9)))) 4 (3 : Int32).toNatClampNeg (some 11)))) 4 (4 : Int32).toNatClampNeg (some 13)))) 4 (5 : Int32).toNatClampNeg (some 15)))) 4 (6 : Int32).toNatClampNeg (some 17)))) 4 (7 : Int32).toNatClampNeg (some 19)))) 4 (8 : Int32).toNatClampNeg (some 21))
set_option maxRecDepth 100000 in
set_option maxHeartbeats 4000000 in
theorem t_X0_init {g : q_G} {S S' : q_S} (hS : S.1 = 4) (h : cS_X0 S = S') : q_Cn g mX0_init [q_r g 3] S (q_Q none S') := by
  unfold cS_X0 at h
  show q_V g mX0_init q_T _ 19 162 0 [(0, q_r g 3)] [] S
  refine q_aload_n dX0_init_0 rfl ?_
  refine q_objInit dX0_init_1 lX0_3 (Nat.le_of_ble_eq_true rfl) (Nat.le_of_ble_eq_true rfl) ?_
  refine q_aload_n dX0_init_4 rfl ?_
  refine q_bipush (v := 9) dX0_init_5 (by decide) ?_
  refine c_newS (len := 9) 4 hS dX0_init_7 (q_w1 45 rfl rfl) rfl (by decide) (by decide) (by decide) ?_
  refine q_putrF dX0_init_10 fX0_11 rfl rfl (Nat.le_of_ble_eq_true rfl) rfl rfl rfl rfl rfl ?_
  refine q_aload_n dX0_init_13 rfl ?_
  refine q_iconst (v := 0) dX0_init_14 (by decide) ?_
  refine q_puti dX0_init_15 fX0_17 rfl rfl (Nat.le_of_ble_eq_true rfl) rfl rfl rfl ?_
  refine q_aload_n dX0_init_18 rfl ?_
  refine q_iconst (v := 0) dX0_init_19 (by decide) ?_
  refine q_puti dX0_init_20 fX0_21 rfl rfl (Nat.le_of_ble_eq_true rfl) rfl rfl rfl ?_
  refine q_aload_n dX0_init_23 rfl ?_
  refine q_iconst (v := 0) dX0_init_24 (by decide) ?_
  refine q_puti dX0_init_25 fX0_24 rfl rfl (Nat.le_of_ble_eq_true rfl) rfl rfl rfl ?_
  refine q_aload_n dX0_init_28 rfl ?_
  refine q_iconst (v := 0) dX0_init_29 (by decide) ?_
  refine q_puti dX0_init_30 fX0_27 rfl rfl (Nat.le_of_ble_eq_true rfl) rfl rfl rfl ?_
  refine q_aload_n dX0_init_33 rfl ?_
  refine q_lconst (v := 0) dX0_init_34 (by decide) ?_
  refine q_putl dX0_init_35 fX0_30 rfl rfl (Nat.le_of_ble_eq_true rfl) rfl rfl rfl ?_
  refine q_aload_n dX0_init_38 rfl ?_
  refine q_iconst (v := 0) dX0_init_39 (by decide) ?_
  refine q_puti dX0_init_40 fX0_34 rfl rfl (Nat.le_of_ble_eq_true rfl) rfl rfl rfl ?_
  refine q_aload_n dX0_init_43 rfl ?_
  refine q_iconst (v := 0) dX0_init_44 (by decide) ?_
  refine q_puti dX0_init_45 fX0_37 rfl rfl (Nat.le_of_ble_eq_true rfl) rfl rfl rfl ?_
  refine q_aload_n dX0_init_48 rfl ?_
  refine q_iconst (v := 0) dX0_init_49 (by decide) ?_
  refine q_puti dX0_init_50 fX0_40 rfl rfl (Nat.le_of_ble_eq_true rfl) rfl rfl rfl ?_
  refine q_iconst (v := 0) dX0_init_53 (by decide) ?_
  refine q_istore_n (ls' := [(0, _), (1, _)]) [0, 1] dX0_init_54 (Nat.le_of_ble_eq_true rfl) rfl ?_
  refine q_iload_n dX0_init_55 rfl ?_
  refine q_bipush (v := 9) dX0_init_56 (by decide) ?_
  refine q_icmp_ge 80 dX0_init_58 (by decide) (fun hc => absurd hc (by decide)) (fun _ => ?_)
  refine q_aload_n dX0_init_61 rfl ?_
  refine q_getr (t := 4) dX0_init_62 fX0_11 rfl rfl (Nat.le_of_ble_eq_true rfl) rfl ?_
  refine q_iload_n dX0_init_65 rfl ?_
  refine c_new (ci := 7) (N := 7) 5 rfl dX0_init_66 (by decide) nX0_9 rfl rfl ?_
  refine q_dup dX0_init_69 rfl ?_
  refine c_IN (as := []) (st := [_, _, _]) 16 136 (Nat.le_of_ble_eq_true rfl) (Nat.le_of_ble_eq_true rfl) dX0_init_70 okX7_init lX0_43 rfl rfl ⟨Nat.le_of_ble_eq_true rfl, Nat.le_of_ble_eq_true rfl⟩ rfl rfl (Nat.le_of_ble_eq_true rfl) (Nat.le_of_ble_eq_true rfl) (t_X7_init (show q_isShip 5 by simp [q_isShip]) rfl rfl) ?_
  refine q_aastS dX0_init_73 rfl (Nat.le_of_ble_eq_true rfl) rfl (Nat.le_of_ble_eq_true rfl) (q_in_vp (by decide)) ?_
  refine q_iinc1 (w := 1) (ls' := [(0, _), (1, _)]) [0, 1] dX0_init_74 rfl (by decide) (Nat.le_of_ble_eq_true rfl) (show _ = [(0, _), (1, .int 1)] from rfl) ?_
  refine q_goto 55 dX0_init_77 (by decide) ?_
  refine q_iload_n dX0_init_55 rfl ?_
  refine q_bipush (v := 9) dX0_init_56 (by decide) ?_
  refine q_icmp_ge 80 dX0_init_58 (by decide) (fun hc => absurd hc (by decide)) (fun _ => ?_)
  refine q_aload_n dX0_init_61 rfl ?_
  refine q_getr (t := 4) dX0_init_62 fX0_11 rfl rfl (Nat.le_of_ble_eq_true rfl) rfl ?_
  refine q_iload_n dX0_init_65 rfl ?_
  refine c_new (ci := 7) (N := 7) 7 rfl dX0_init_66 (by decide) nX0_9 rfl rfl ?_
  refine q_dup dX0_init_69 rfl ?_
  refine c_IN (as := []) (st := [_, _, _]) 14 119 (Nat.le_of_ble_eq_true rfl) (Nat.le_of_ble_eq_true rfl) dX0_init_70 okX7_init lX0_43 rfl rfl ⟨Nat.le_of_ble_eq_true rfl, Nat.le_of_ble_eq_true rfl⟩ rfl rfl (Nat.le_of_ble_eq_true rfl) (Nat.le_of_ble_eq_true rfl) (t_X7_init (show q_isShip 7 by simp [q_isShip]) rfl rfl) ?_
  refine q_aastS dX0_init_73 rfl (Nat.le_of_ble_eq_true rfl) rfl (Nat.le_of_ble_eq_true rfl) (q_in_vp (by decide)) ?_
  refine q_iinc1 (w := 1) (ls' := [(0, _), (1, _)]) [0, 1] dX0_init_74 rfl (by decide) (Nat.le_of_ble_eq_true rfl) (show _ = [(0, _), (1, .int 2)] from rfl) ?_
  refine q_goto 55 dX0_init_77 (by decide) ?_
  refine q_iload_n dX0_init_55 rfl ?_
  refine q_bipush (v := 9) dX0_init_56 (by decide) ?_
  refine q_icmp_ge 80 dX0_init_58 (by decide) (fun hc => absurd hc (by decide)) (fun _ => ?_)
  refine q_aload_n dX0_init_61 rfl ?_
  refine q_getr (t := 4) dX0_init_62 fX0_11 rfl rfl (Nat.le_of_ble_eq_true rfl) rfl ?_
  refine q_iload_n dX0_init_65 rfl ?_
  refine c_new (ci := 7) (N := 7) 9 rfl dX0_init_66 (by decide) nX0_9 rfl rfl ?_
  refine q_dup dX0_init_69 rfl ?_
  refine c_IN (as := []) (st := [_, _, _]) 12 102 (Nat.le_of_ble_eq_true rfl) (Nat.le_of_ble_eq_true rfl) dX0_init_70 okX7_init lX0_43 rfl rfl ⟨Nat.le_of_ble_eq_true rfl, Nat.le_of_ble_eq_true rfl⟩ rfl rfl (Nat.le_of_ble_eq_true rfl) (Nat.le_of_ble_eq_true rfl) (t_X7_init (show q_isShip 9 by simp [q_isShip]) rfl rfl) ?_
  refine q_aastS dX0_init_73 rfl (Nat.le_of_ble_eq_true rfl) rfl (Nat.le_of_ble_eq_true rfl) (q_in_vp (by decide)) ?_
  refine q_iinc1 (w := 1) (ls' := [(0, _), (1, _)]) [0, 1] dX0_init_74 rfl (by decide) (Nat.le_of_ble_eq_true rfl) (show _ = [(0, _), (1, .int 3)] from rfl) ?_
  refine q_goto 55 dX0_init_77 (by decide) ?_
  refine q_iload_n dX0_init_55 rfl ?_
  refine q_bipush (v := 9) dX0_init_56 (by decide) ?_
  refine q_icmp_ge 80 dX0_init_58 (by decide) (fun hc => absurd hc (by decide)) (fun _ => ?_)
  refine q_aload_n dX0_init_61 rfl ?_
  refine q_getr (t := 4) dX0_init_62 fX0_11 rfl rfl (Nat.le_of_ble_eq_true rfl) rfl ?_
  refine q_iload_n dX0_init_65 rfl ?_
  refine c_new (ci := 7) (N := 7) 11 rfl dX0_init_66 (by decide) nX0_9 rfl rfl ?_
  refine q_dup dX0_init_69 rfl ?_
  refine c_IN (as := []) (st := [_, _, _]) 10 85 (Nat.le_of_ble_eq_true rfl) (Nat.le_of_ble_eq_true rfl) dX0_init_70 okX7_init lX0_43 rfl rfl ⟨Nat.le_of_ble_eq_true rfl, Nat.le_of_ble_eq_true rfl⟩ rfl rfl (Nat.le_of_ble_eq_true rfl) (Nat.le_of_ble_eq_true rfl) (t_X7_init (show q_isShip 11 by simp [q_isShip]) rfl rfl) ?_
  refine q_aastS dX0_init_73 rfl (Nat.le_of_ble_eq_true rfl) rfl (Nat.le_of_ble_eq_true rfl) (q_in_vp (by decide)) ?_
  refine q_iinc1 (w := 1) (ls' := [(0, _), (1, _)]) [0, 1] dX0_init_74 rfl (by decide) (Nat.le_of_ble_eq_true rfl) (show _ = [(0, _), (1, .int 4)] from rfl) ?_
  refine q_goto 55 dX0_init_77 (by decide) ?_
  refine q_iload_n dX0_init_55 rfl ?_
  refine q_bipush (v := 9) dX0_init_56 (by decide) ?_
  refine q_icmp_ge 80 dX0_init_58 (by decide) (fun hc => absurd hc (by decide)) (fun _ => ?_)
  refine q_aload_n dX0_init_61 rfl ?_
  refine q_getr (t := 4) dX0_init_62 fX0_11 rfl rfl (Nat.le_of_ble_eq_true rfl) rfl ?_
  refine q_iload_n dX0_init_65 rfl ?_
  refine c_new (ci := 7) (N := 7) 13 rfl dX0_init_66 (by decide) nX0_9 rfl rfl ?_
  refine q_dup dX0_init_69 rfl ?_
  refine c_IN (as := []) (st := [_, _, _]) 8 68 (Nat.le_of_ble_eq_true rfl) (Nat.le_of_ble_eq_true rfl) dX0_init_70 okX7_init lX0_43 rfl rfl ⟨Nat.le_of_ble_eq_true rfl, Nat.le_of_ble_eq_true rfl⟩ rfl rfl (Nat.le_of_ble_eq_true rfl) (Nat.le_of_ble_eq_true rfl) (t_X7_init (show q_isShip 13 by simp [q_isShip]) rfl rfl) ?_
  refine q_aastS dX0_init_73 rfl (Nat.le_of_ble_eq_true rfl) rfl (Nat.le_of_ble_eq_true rfl) (q_in_vp (by decide)) ?_
  refine q_iinc1 (w := 1) (ls' := [(0, _), (1, _)]) [0, 1] dX0_init_74 rfl (by decide) (Nat.le_of_ble_eq_true rfl) (show _ = [(0, _), (1, .int 5)] from rfl) ?_
  refine q_goto 55 dX0_init_77 (by decide) ?_
  refine q_iload_n dX0_init_55 rfl ?_
  refine q_bipush (v := 9) dX0_init_56 (by decide) ?_
  refine q_icmp_ge 80 dX0_init_58 (by decide) (fun hc => absurd hc (by decide)) (fun _ => ?_)
  refine q_aload_n dX0_init_61 rfl ?_
  refine q_getr (t := 4) dX0_init_62 fX0_11 rfl rfl (Nat.le_of_ble_eq_true rfl) rfl ?_
  refine q_iload_n dX0_init_65 rfl ?_
  refine c_new (ci := 7) (N := 7) 15 rfl dX0_init_66 (by decide) nX0_9 rfl rfl ?_
  refine q_dup dX0_init_69 rfl ?_
  refine c_IN (as := []) (st := [_, _, _]) 6 51 (Nat.le_of_ble_eq_true rfl) (Nat.le_of_ble_eq_true rfl) dX0_init_70 okX7_init lX0_43 rfl rfl ⟨Nat.le_of_ble_eq_true rfl, Nat.le_of_ble_eq_true rfl⟩ rfl rfl (Nat.le_of_ble_eq_true rfl) (Nat.le_of_ble_eq_true rfl) (t_X7_init (show q_isShip 15 by simp [q_isShip]) rfl rfl) ?_
  refine q_aastS dX0_init_73 rfl (Nat.le_of_ble_eq_true rfl) rfl (Nat.le_of_ble_eq_true rfl) (q_in_vp (by decide)) ?_
  refine q_iinc1 (w := 1) (ls' := [(0, _), (1, _)]) [0, 1] dX0_init_74 rfl (by decide) (Nat.le_of_ble_eq_true rfl) (show _ = [(0, _), (1, .int 6)] from rfl) ?_
  refine q_goto 55 dX0_init_77 (by decide) ?_
  refine q_iload_n dX0_init_55 rfl ?_
  refine q_bipush (v := 9) dX0_init_56 (by decide) ?_
  refine q_icmp_ge 80 dX0_init_58 (by decide) (fun hc => absurd hc (by decide)) (fun _ => ?_)
  refine q_aload_n dX0_init_61 rfl ?_
  refine q_getr (t := 4) dX0_init_62 fX0_11 rfl rfl (Nat.le_of_ble_eq_true rfl) rfl ?_
  refine q_iload_n dX0_init_65 rfl ?_
  refine c_new (ci := 7) (N := 7) 17 rfl dX0_init_66 (by decide) nX0_9 rfl rfl ?_
  refine q_dup dX0_init_69 rfl ?_
  refine c_IN (as := []) (st := [_, _, _]) 4 34 (Nat.le_of_ble_eq_true rfl) (Nat.le_of_ble_eq_true rfl) dX0_init_70 okX7_init lX0_43 rfl rfl ⟨Nat.le_of_ble_eq_true rfl, Nat.le_of_ble_eq_true rfl⟩ rfl rfl (Nat.le_of_ble_eq_true rfl) (Nat.le_of_ble_eq_true rfl) (t_X7_init (show q_isShip 17 by simp [q_isShip]) rfl rfl) ?_
  refine q_aastS dX0_init_73 rfl (Nat.le_of_ble_eq_true rfl) rfl (Nat.le_of_ble_eq_true rfl) (q_in_vp (by decide)) ?_
  refine q_iinc1 (w := 1) (ls' := [(0, _), (1, _)]) [0, 1] dX0_init_74 rfl (by decide) (Nat.le_of_ble_eq_true rfl) (show _ = [(0, _), (1, .int 7)] from rfl) ?_
  refine q_goto 55 dX0_init_77 (by decide) ?_
  refine q_iload_n dX0_init_55 rfl ?_
  refine q_bipush (v := 9) dX0_init_56 (by decide) ?_
  refine q_icmp_ge 80 dX0_init_58 (by decide) (fun hc => absurd hc (by decide)) (fun _ => ?_)
  refine q_aload_n dX0_init_61 rfl ?_
  refine q_getr (t := 4) dX0_init_62 fX0_11 rfl rfl (Nat.le_of_ble_eq_true rfl) rfl ?_
  refine q_iload_n dX0_init_65 rfl ?_
  refine c_new (ci := 7) (N := 7) 19 rfl dX0_init_66 (by decide) nX0_9 rfl rfl ?_
  refine q_dup dX0_init_69 rfl ?_
  refine c_IN (as := []) (st := [_, _, _]) 2 17 (Nat.le_of_ble_eq_true rfl) (Nat.le_of_ble_eq_true rfl) dX0_init_70 okX7_init lX0_43 rfl rfl ⟨Nat.le_of_ble_eq_true rfl, Nat.le_of_ble_eq_true rfl⟩ rfl rfl (Nat.le_of_ble_eq_true rfl) (Nat.le_of_ble_eq_true rfl) (t_X7_init (show q_isShip 19 by simp [q_isShip]) rfl rfl) ?_
  refine q_aastS dX0_init_73 rfl (Nat.le_of_ble_eq_true rfl) rfl (Nat.le_of_ble_eq_true rfl) (q_in_vp (by decide)) ?_
  refine q_iinc1 (w := 1) (ls' := [(0, _), (1, _)]) [0, 1] dX0_init_74 rfl (by decide) (Nat.le_of_ble_eq_true rfl) (show _ = [(0, _), (1, .int 8)] from rfl) ?_
  refine q_goto 55 dX0_init_77 (by decide) ?_
  refine q_iload_n dX0_init_55 rfl ?_
  refine q_bipush (v := 9) dX0_init_56 (by decide) ?_
  refine q_icmp_ge 80 dX0_init_58 (by decide) (fun hc => absurd hc (by decide)) (fun _ => ?_)
  refine q_aload_n dX0_init_61 rfl ?_
  refine q_getr (t := 4) dX0_init_62 fX0_11 rfl rfl (Nat.le_of_ble_eq_true rfl) rfl ?_
  refine q_iload_n dX0_init_65 rfl ?_
  refine c_new (ci := 7) (N := 7) 21 rfl dX0_init_66 (by decide) nX0_9 rfl rfl ?_
  refine q_dup dX0_init_69 rfl ?_
  refine c_IN (as := []) (st := [_, _, _]) 0 0 (Nat.le_of_ble_eq_true rfl) (Nat.le_of_ble_eq_true rfl) dX0_init_70 okX7_init lX0_43 rfl rfl ⟨Nat.le_of_ble_eq_true rfl, Nat.le_of_ble_eq_true rfl⟩ rfl rfl (Nat.le_of_ble_eq_true rfl) (Nat.le_of_ble_eq_true rfl) (t_X7_init (show q_isShip 21 by simp [q_isShip]) rfl rfl) ?_
  refine q_aastS dX0_init_73 rfl (Nat.le_of_ble_eq_true rfl) rfl (Nat.le_of_ble_eq_true rfl) (q_in_vp (by decide)) ?_
  refine q_iinc1 (w := 1) (ls' := [(0, _), (1, _)]) [0, 1] dX0_init_74 rfl (by decide) (Nat.le_of_ble_eq_true rfl) (show _ = [(0, _), (1, .int 9)] from rfl) ?_
  refine q_goto 55 dX0_init_77 (by decide) ?_
  refine q_iload_n dX0_init_55 rfl ?_
  refine q_bipush (v := 9) dX0_init_56 (by decide) ?_
  refine q_icmp_ge 80 dX0_init_58 (by decide) (fun _ => ?_) (fun hc => absurd (by decide) hc)
  subst h
  exact q_vret dX0_init_80 rfl ⟨rfl, rfl⟩
def cS_X2 (S : q_S) : q_S :=
  (q_pi (q_pi (q_pi (q_pl (q_pr (q_nx 45 (q_pr (q_nx 44 (q_pr (cS_X7 42 (q_nx 42 (q_pi (q_pr (q_nx 41 (q_pr (q_nx 40 (q_pr (q_nx 39 S) 38 0 (some 39))) 38 1 (some 40))) 38 2 (some 41)) 38 3 0))) 38 4 (some 42))) 38 5 (some 44))) 38 6 (some 45)) 38 7 0) 38 8 0) 38 9 (-6)) 38 10 (-6))
set_option maxRecDepth 100000 in
set_option maxHeartbeats 4000000 in
theorem t_X2_init {g : q_G} {S S' : q_S} (hS : S.1 = 39) (h : cS_X2 S = S') : q_Cn g mX2_init [q_r g 38] S (q_Q none S') := by
  unfold cS_X2 at h
  show q_V g mX2_init q_T _ 7 1255 0 [(0, q_r g 38)] [] S
  refine q_aload_n dX2_init_0 rfl ?_
  refine q_objInit dX2_init_1 lX2_3 (Nat.le_of_ble_eq_true rfl) (Nat.le_of_ble_eq_true rfl) ?_
  refine q_aload_n dX2_init_4 rfl ?_
  refine q_bipush (v := 12) dX2_init_5 (by decide) ?_
  refine c_newI (len := 12) 39 hS dX2_init_7 rfl (by decide) (by decide) (by decide) ?_
  refine q_putrF dX2_init_9 fX2_9 rfl rfl (Nat.le_of_ble_eq_true rfl) rfl rfl rfl rfl rfl ?_
  refine q_aload_n dX2_init_12 rfl ?_
  refine q_bipush (v := 12) dX2_init_13 (by decide) ?_
  refine c_newI (len := 12) 40 rfl dX2_init_15 rfl (by decide) (by decide) (by decide) ?_
  refine q_putrF dX2_init_17 fX2_15 rfl rfl (Nat.le_of_ble_eq_true rfl) rfl rfl rfl rfl rfl ?_
  refine q_aload_n dX2_init_20 rfl ?_
  refine q_bipush (v := 12) dX2_init_21 (by decide) ?_
  refine c_newI (len := 12) 41 rfl dX2_init_23 rfl (by decide) (by decide) (by decide) ?_
  refine q_putrF dX2_init_25 fX2_18 rfl rfl (Nat.le_of_ble_eq_true rfl) rfl rfl rfl rfl rfl ?_
  refine q_aload_n dX2_init_28 rfl ?_
  refine q_iconst (v := 0) dX2_init_29 (by decide) ?_
  refine q_puti dX2_init_30 fX2_21 rfl rfl (Nat.le_of_ble_eq_true rfl) rfl rfl rfl ?_
  refine q_aload_n dX2_init_33 rfl ?_
  refine c_new (ci := 7) (N := 7) 42 rfl dX2_init_34 (by decide) nX2_25 rfl rfl ?_
  refine q_dup dX2_init_37 rfl ?_
  refine c_IN (as := []) (st := [_, _]) 2 1202 (Nat.le_of_ble_eq_true rfl) (Nat.le_of_ble_eq_true rfl) dX2_init_38 okX7_init lX2_27 rfl rfl ⟨Nat.le_of_ble_eq_true rfl, Nat.le_of_ble_eq_true rfl⟩ rfl rfl (Nat.le_of_ble_eq_true rfl) (Nat.le_of_ble_eq_true rfl) (t_X7_init (show q_isShip 42 by simp [q_isShip]) rfl rfl) ?_
  refine q_putrF dX2_init_41 fX2_28 rfl rfl (Nat.le_of_ble_eq_true rfl) rfl rfl rfl rfl rfl ?_
  refine q_aload_n dX2_init_44 rfl ?_
  refine q_sipush (v := 601) dX2_init_45 (by decide) ?_
  refine c_newL (len := 601) 44 rfl dX2_init_48 rfl (by decide) (by decide) (by decide) ?_
  refine q_putrF dX2_init_50 fX2_32 rfl rfl (Nat.le_of_ble_eq_true rfl) rfl rfl rfl rfl rfl ?_
  refine q_aload_n dX2_init_53 rfl ?_
  refine q_sipush (v := 601) dX2_init_54 (by decide) ?_
  refine c_newL (len := 601) 45 rfl dX2_init_57 rfl (by decide) (by decide) (by decide) ?_
  refine q_putrF dX2_init_59 fX2_36 rfl rfl (Nat.le_of_ble_eq_true rfl) rfl rfl rfl rfl rfl ?_
  refine q_aload_n dX2_init_62 rfl ?_
  refine q_lconst (v := 0) dX2_init_63 (by decide) ?_
  refine q_putl dX2_init_64 fX2_39 rfl rfl (Nat.le_of_ble_eq_true rfl) rfl rfl rfl ?_
  refine q_aload_n dX2_init_67 rfl ?_
  refine q_iconst (v := 0) dX2_init_68 (by decide) ?_
  refine q_puti dX2_init_69 fX2_43 rfl rfl (Nat.le_of_ble_eq_true rfl) rfl rfl rfl ?_
  refine q_aload_n dX2_init_72 rfl ?_
  refine q_bipush (v := (-6)) dX2_init_73 (by decide) ?_
  refine q_puti dX2_init_75 fX2_46 rfl rfl (Nat.le_of_ble_eq_true rfl) rfl rfl rfl ?_
  refine q_aload_n dX2_init_78 rfl ?_
  refine q_bipush (v := (-6)) dX2_init_79 (by decide) ?_
  refine q_puti dX2_init_81 fX2_49 rfl rfl (Nat.le_of_ble_eq_true rfl) rfl rfl rfl ?_
  subst h
  exact q_vret dX2_init_84 rfl ⟨rfl, rfl⟩
def cS_X9 (S : q_S) : q_S :=
  (q_pr (cS_X5 55 (q_nx 55 (q_pr (cS_X5 52 (q_nx 52 (q_pr (cS_X5 49 (q_nx 49 (q_pr (cS_X5 46 (q_nx 46 (q_pr (cS_X2 (q_nx 38 (q_pr (q_pr (cS_X8 36 (q_nx 36 (q_pr (cS_X8 34 (q_nx 34 (q_pr (q_nx 33 (q_pr (cS_X6 (q_nx 28 (q_pr (cS_X3 (q_nx 23 (q_pi (q_pr (cS_X0 (q_nx 3 (q_pr (cS_X1 (q_nx 2 (q_pi (q_pr (q_nx 1 S) 0 0 (some 1)) 0 1 0))) 0 2 (some 2)))) 0 3 (some 3)) 0 4 10))) 0 5 (some 23)))) 0 6 (some 28))) 0 7 (some 33)))) 0 8 (some 34)))) 0 9 (some 36)) 0 10 none))) 0 11 (some 38)))) 1 (0 : Int32).toNatClampNeg (some 46)))) 1 (1 : Int32).toNatClampNeg (some 49)))) 1 (2 : Int32).toNatClampNeg (some 52)))) 1 (3 : Int32).toNatClampNeg (some 55))
set_option maxRecDepth 100000 in
set_option maxHeartbeats 4000000 in
theorem t_X9_init {g : q_G} {S S' : q_S} (hS : S.1 = 1) (h : cS_X9 S = S') : q_Cn g mX9_init [q_r g 0] S (q_Q none S') := by
  unfold cS_X9 at h
  show q_V g mX9_init q_T _ 57 2252 0 [(0, q_r g 0)] [] S
  refine q_aload_n dX9_init_0 rfl ?_
  refine q_objInit dX9_init_1 lX9_3 (Nat.le_of_ble_eq_true rfl) (Nat.le_of_ble_eq_true rfl) ?_
  refine q_aload_n dX9_init_4 rfl ?_
  refine q_iconst (v := 4) dX9_init_5 (by decide) ?_
  refine c_newP (len := 4) 1 hS dX9_init_6 (q_w1 22 rfl rfl) rfl (by decide) (by decide) (by decide) ?_
  refine q_putrF dX9_init_9 fX9_11 rfl rfl (Nat.le_of_ble_eq_true rfl) rfl rfl rfl rfl rfl ?_
  refine q_aload_n dX9_init_12 rfl ?_
  refine q_iconst (v := 0) dX9_init_13 (by decide) ?_
  refine q_puti dX9_init_14 fX9_15 rfl rfl (Nat.le_of_ble_eq_true rfl) rfl rfl rfl ?_
  refine q_aload_n dX9_init_17 rfl ?_
  refine c_new (ci := 1) (N := 2) 2 rfl dX9_init_18 (by decide) nX9_19 rfl rfl ?_
  refine q_dup dX9_init_21 rfl ?_
  refine c_IN (as := []) (st := [_, _]) 55 2246 (Nat.le_of_ble_eq_true rfl) (Nat.le_of_ble_eq_true rfl) dX9_init_22 okX1_init lX9_21 rfl rfl ⟨Nat.le_of_ble_eq_true rfl, Nat.le_of_ble_eq_true rfl⟩ rfl rfl (Nat.le_of_ble_eq_true rfl) (Nat.le_of_ble_eq_true rfl) (t_X1_init  rfl rfl) ?_
  refine q_putrF dX9_init_25 fX9_22 rfl rfl (Nat.le_of_ble_eq_true rfl) rfl rfl rfl rfl rfl ?_
  refine q_aload_n dX9_init_28 rfl ?_
  refine c_new (ci := 0) (N := 9) 3 rfl dX9_init_29 (by decide) nX9_26 rfl rfl ?_
  refine q_dup dX9_init_32 rfl ?_
  refine c_I (as := []) (st := [_, _]) 35 2075 (Nat.le_of_ble_eq_true rfl) (Nat.le_of_ble_eq_true rfl) dX9_init_33 okX0_init lX9_28 rfl rfl ⟨Nat.le_of_ble_eq_true rfl, Nat.le_of_ble_eq_true rfl⟩ rfl rfl (Nat.le_of_ble_eq_true rfl) (Nat.le_of_ble_eq_true rfl) (t_X0_init  rfl rfl) ?_
  refine q_putrF dX9_init_36 fX9_29 rfl rfl (Nat.le_of_ble_eq_true rfl) rfl rfl rfl rfl rfl ?_
  refine q_aload_n dX9_init_39 rfl ?_
  refine q_bipush (v := 10) dX9_init_40 (by decide) ?_
  refine q_puti dX9_init_42 fX9_33 rfl rfl (Nat.le_of_ble_eq_true rfl) rfl rfl rfl ?_
  refine q_aload_n dX9_init_45 rfl ?_
  refine c_new (ci := 3) (N := 11) 23 rfl dX9_init_46 (by decide) nX9_36 rfl rfl ?_
  refine q_dup dX9_init_49 rfl ?_
  refine c_IN (as := []) (st := [_, _]) 30 2048 (Nat.le_of_ble_eq_true rfl) (Nat.le_of_ble_eq_true rfl) dX9_init_50 okX3_init lX9_38 rfl rfl ⟨Nat.le_of_ble_eq_true rfl, Nat.le_of_ble_eq_true rfl⟩ rfl rfl (Nat.le_of_ble_eq_true rfl) (Nat.le_of_ble_eq_true rfl) (t_X3_init  rfl rfl) ?_
  refine q_putrF dX9_init_53 fX9_39 rfl rfl (Nat.le_of_ble_eq_true rfl) rfl rfl rfl rfl rfl ?_
  refine q_aload_n dX9_init_56 rfl ?_
  refine c_new (ci := 6) (N := 6) 28 rfl dX9_init_57 (by decide) nX9_43 rfl rfl ?_
  refine q_dup dX9_init_60 rfl ?_
  refine c_IN (as := []) (st := [_, _]) 25 1612 (Nat.le_of_ble_eq_true rfl) (Nat.le_of_ble_eq_true rfl) dX9_init_61 okX6_init lX9_45 rfl rfl ⟨Nat.le_of_ble_eq_true rfl, Nat.le_of_ble_eq_true rfl⟩ rfl rfl (Nat.le_of_ble_eq_true rfl) (Nat.le_of_ble_eq_true rfl) (t_X6_init  rfl rfl) ?_
  refine q_putrF dX9_init_64 fX9_46 rfl rfl (Nat.le_of_ble_eq_true rfl) rfl rfl rfl rfl rfl ?_
  refine q_aload_n dX9_init_67 rfl ?_
  refine q_sipush (v := 144) dX9_init_68 (by decide) ?_
  refine c_newI (len := 144) 33 rfl dX9_init_71 rfl (by decide) (by decide) (by decide) ?_
  refine q_putrF dX9_init_73 fX9_50 rfl rfl (Nat.le_of_ble_eq_true rfl) rfl rfl rfl rfl rfl ?_
  refine q_aload_n dX9_init_76 rfl ?_
  refine c_new (ci := 8) (N := 6) 34 rfl dX9_init_77 (by decide) nX9_54 rfl rfl ?_
  refine q_dup dX9_init_80 rfl ?_
  refine c_IN (as := []) (st := [_, _]) 22 1421 (Nat.le_of_ble_eq_true rfl) (Nat.le_of_ble_eq_true rfl) dX9_init_81 okX8_init lX9_56 rfl rfl ⟨Nat.le_of_ble_eq_true rfl, Nat.le_of_ble_eq_true rfl⟩ rfl rfl (Nat.le_of_ble_eq_true rfl) (Nat.le_of_ble_eq_true rfl) (t_X8_init (show q_isVoy 34 by simp [q_isVoy]) rfl rfl) ?_
  refine q_putrF dX9_init_84 fX9_57 rfl rfl (Nat.le_of_ble_eq_true rfl) rfl rfl rfl rfl rfl ?_
  refine q_aload_n dX9_init_87 rfl ?_
  refine c_new (ci := 8) (N := 6) 36 rfl dX9_init_88 (by decide) nX9_54 rfl rfl ?_
  refine q_dup dX9_init_91 rfl ?_
  refine c_IN (as := []) (st := [_, _]) 20 1374 (Nat.le_of_ble_eq_true rfl) (Nat.le_of_ble_eq_true rfl) dX9_init_92 okX8_init lX9_56 rfl rfl ⟨Nat.le_of_ble_eq_true rfl, Nat.le_of_ble_eq_true rfl⟩ rfl rfl (Nat.le_of_ble_eq_true rfl) (Nat.le_of_ble_eq_true rfl) (t_X8_init (show q_isVoy 36 by simp [q_isVoy]) rfl rfl) ?_
  refine q_putrF dX9_init_95 fX9_61 rfl rfl (Nat.le_of_ble_eq_true rfl) rfl rfl rfl rfl rfl ?_
  refine q_aload_n dX9_init_98 rfl ?_
  refine q_null dX9_init_99 ?_
  refine q_putn dX9_init_100 fX9_64 rfl rfl (Nat.le_of_ble_eq_true rfl) rfl rfl rfl ?_
  refine q_aload_n dX9_init_103 rfl ?_
  refine c_new (ci := 2) (N := 11) 38 rfl dX9_init_104 (by decide) nX9_68 rfl rfl ?_
  refine q_dup dX9_init_107 rfl ?_
  refine c_IN (as := []) (st := [_, _]) 12 108 (Nat.le_of_ble_eq_true rfl) (Nat.le_of_ble_eq_true rfl) dX9_init_108 okX2_init lX9_70 rfl rfl ⟨Nat.le_of_ble_eq_true rfl, Nat.le_of_ble_eq_true rfl⟩ rfl rfl (Nat.le_of_ble_eq_true rfl) (Nat.le_of_ble_eq_true rfl) (t_X2_init  rfl rfl) ?_
  refine q_putrF dX9_init_111 fX9_71 rfl rfl (Nat.le_of_ble_eq_true rfl) rfl rfl rfl rfl rfl ?_
  refine q_iconst (v := 0) dX9_init_114 (by decide) ?_
  refine q_istore_n (ls' := [(0, _), (1, _)]) [0, 1] dX9_init_115 (Nat.le_of_ble_eq_true rfl) rfl ?_
  refine q_iload_n dX9_init_116 rfl ?_
  refine q_iconst (v := 4) dX9_init_117 (by decide) ?_
  refine q_icmp_ge 140 dX9_init_118 (by decide) (fun hc => absurd hc (by decide)) (fun _ => ?_)
  refine q_aload_n dX9_init_121 rfl ?_
  refine q_getr (t := 1) dX9_init_122 fX9_11 rfl rfl (Nat.le_of_ble_eq_true rfl) rfl ?_
  refine q_iload_n dX9_init_125 rfl ?_
  refine c_new (ci := 5) (N := 3) 46 rfl dX9_init_126 (by decide) nX9_9 rfl rfl ?_
  refine q_dup dX9_init_129 rfl ?_
  refine c_IN (as := []) (st := [_, _, _]) 9 81 (Nat.le_of_ble_eq_true rfl) (Nat.le_of_ble_eq_true rfl) dX9_init_130 okX5_init lX9_75 rfl rfl ⟨Nat.le_of_ble_eq_true rfl, Nat.le_of_ble_eq_true rfl⟩ rfl rfl (Nat.le_of_ble_eq_true rfl) (Nat.le_of_ble_eq_true rfl) (t_X5_init (show q_isPlan 46 by simp [q_isPlan]) rfl rfl) ?_
  refine q_aastP dX9_init_133 rfl (Nat.le_of_ble_eq_true rfl) rfl (Nat.le_of_ble_eq_true rfl) (q_in_vp (by decide)) ?_
  refine q_iinc1 (w := 1) (ls' := [(0, _), (1, _)]) [0, 1] dX9_init_134 rfl (by decide) (Nat.le_of_ble_eq_true rfl) (show _ = [(0, _), (1, .int 1)] from rfl) ?_
  refine q_goto 116 dX9_init_137 (by decide) ?_
  refine q_iload_n dX9_init_116 rfl ?_
  refine q_iconst (v := 4) dX9_init_117 (by decide) ?_
  refine q_icmp_ge 140 dX9_init_118 (by decide) (fun hc => absurd hc (by decide)) (fun _ => ?_)
  refine q_aload_n dX9_init_121 rfl ?_
  refine q_getr (t := 1) dX9_init_122 fX9_11 rfl rfl (Nat.le_of_ble_eq_true rfl) rfl ?_
  refine q_iload_n dX9_init_125 rfl ?_
  refine c_new (ci := 5) (N := 3) 49 rfl dX9_init_126 (by decide) nX9_9 rfl rfl ?_
  refine q_dup dX9_init_129 rfl ?_
  refine c_IN (as := []) (st := [_, _, _]) 6 54 (Nat.le_of_ble_eq_true rfl) (Nat.le_of_ble_eq_true rfl) dX9_init_130 okX5_init lX9_75 rfl rfl ⟨Nat.le_of_ble_eq_true rfl, Nat.le_of_ble_eq_true rfl⟩ rfl rfl (Nat.le_of_ble_eq_true rfl) (Nat.le_of_ble_eq_true rfl) (t_X5_init (show q_isPlan 49 by simp [q_isPlan]) rfl rfl) ?_
  refine q_aastP dX9_init_133 rfl (Nat.le_of_ble_eq_true rfl) rfl (Nat.le_of_ble_eq_true rfl) (q_in_vp (by decide)) ?_
  refine q_iinc1 (w := 1) (ls' := [(0, _), (1, _)]) [0, 1] dX9_init_134 rfl (by decide) (Nat.le_of_ble_eq_true rfl) (show _ = [(0, _), (1, .int 2)] from rfl) ?_
  refine q_goto 116 dX9_init_137 (by decide) ?_
  refine q_iload_n dX9_init_116 rfl ?_
  refine q_iconst (v := 4) dX9_init_117 (by decide) ?_
  refine q_icmp_ge 140 dX9_init_118 (by decide) (fun hc => absurd hc (by decide)) (fun _ => ?_)
  refine q_aload_n dX9_init_121 rfl ?_
  refine q_getr (t := 1) dX9_init_122 fX9_11 rfl rfl (Nat.le_of_ble_eq_true rfl) rfl ?_
  refine q_iload_n dX9_init_125 rfl ?_
  refine c_new (ci := 5) (N := 3) 52 rfl dX9_init_126 (by decide) nX9_9 rfl rfl ?_
  refine q_dup dX9_init_129 rfl ?_
  refine c_IN (as := []) (st := [_, _, _]) 3 27 (Nat.le_of_ble_eq_true rfl) (Nat.le_of_ble_eq_true rfl) dX9_init_130 okX5_init lX9_75 rfl rfl ⟨Nat.le_of_ble_eq_true rfl, Nat.le_of_ble_eq_true rfl⟩ rfl rfl (Nat.le_of_ble_eq_true rfl) (Nat.le_of_ble_eq_true rfl) (t_X5_init (show q_isPlan 52 by simp [q_isPlan]) rfl rfl) ?_
  refine q_aastP dX9_init_133 rfl (Nat.le_of_ble_eq_true rfl) rfl (Nat.le_of_ble_eq_true rfl) (q_in_vp (by decide)) ?_
  refine q_iinc1 (w := 1) (ls' := [(0, _), (1, _)]) [0, 1] dX9_init_134 rfl (by decide) (Nat.le_of_ble_eq_true rfl) (show _ = [(0, _), (1, .int 3)] from rfl) ?_
  refine q_goto 116 dX9_init_137 (by decide) ?_
  refine q_iload_n dX9_init_116 rfl ?_
  refine q_iconst (v := 4) dX9_init_117 (by decide) ?_
  refine q_icmp_ge 140 dX9_init_118 (by decide) (fun hc => absurd hc (by decide)) (fun _ => ?_)
  refine q_aload_n dX9_init_121 rfl ?_
  refine q_getr (t := 1) dX9_init_122 fX9_11 rfl rfl (Nat.le_of_ble_eq_true rfl) rfl ?_
  refine q_iload_n dX9_init_125 rfl ?_
  refine c_new (ci := 5) (N := 3) 55 rfl dX9_init_126 (by decide) nX9_9 rfl rfl ?_
  refine q_dup dX9_init_129 rfl ?_
  refine c_IN (as := []) (st := [_, _, _]) 0 0 (Nat.le_of_ble_eq_true rfl) (Nat.le_of_ble_eq_true rfl) dX9_init_130 okX5_init lX9_75 rfl rfl ⟨Nat.le_of_ble_eq_true rfl, Nat.le_of_ble_eq_true rfl⟩ rfl rfl (Nat.le_of_ble_eq_true rfl) (Nat.le_of_ble_eq_true rfl) (t_X5_init (show q_isPlan 55 by simp [q_isPlan]) rfl rfl) ?_
  refine q_aastP dX9_init_133 rfl (Nat.le_of_ble_eq_true rfl) rfl (Nat.le_of_ble_eq_true rfl) (q_in_vp (by decide)) ?_
  refine q_iinc1 (w := 1) (ls' := [(0, _), (1, _)]) [0, 1] dX9_init_134 rfl (by decide) (Nat.le_of_ble_eq_true rfl) (show _ = [(0, _), (1, .int 4)] from rfl) ?_
  refine q_goto 116 dX9_init_137 (by decide) ?_
  refine q_iload_n dX9_init_116 rfl ?_
  refine q_iconst (v := 4) dX9_init_117 (by decide) ?_
  refine q_icmp_ge 140 dX9_init_118 (by decide) (fun _ => ?_) (fun hc => absurd (by decide) hc)
  subst h
  exact q_vret dX9_init_140 rfl ⟨rfl, rfl⟩
def cS_X10 (S : q_S) : q_S :=
  (q_pr (q_nx 88 (q_pr (q_nx 87 (q_pr (q_nx 86 (q_pr (q_nx 85 (q_pi (q_pr (q_nx 84 (q_pr (q_nx 83 (q_pr (q_nx 82 (q_pr (q_nx 81 (q_pr (q_nx 80 (q_pr (q_nx 79 (q_pr (q_nx 78 (q_pr (q_nx 77 (q_pr (q_nx 76 (q_pr (q_nx 75 (q_pr (q_nx 74 (q_pr (q_nx 73 (q_pr (q_nx 72 (q_pi (q_pi (q_pi (q_pi (q_pr (q_nx 71 (q_pr (q_nx 70 (q_pr (q_nx 69 (q_pr (q_nx 68 (q_pr (q_nx 67 (q_pr (q_nx 66 (q_pr (q_nx 65 (q_pr (q_nx 64 (q_pr (q_nx 63 (q_pr (q_nx 62 (q_pr (q_nx 61 (q_pr (q_nx 60 (q_pr (q_nx 59 S) 58 0 (some 59))) 58 1 (some 60))) 58 2 (some 61))) 58 4 (some 62))) 58 7 (some 63))) 58 8 (some 64))) 58 9 (some 65))) 58 10 (some 66))) 58 12 (some 67))) 58 13 (some 68))) 58 14 (some 69))) 58 18 (some 70))) 58 19 (some 71)) 58 20 10) 58 21 300000) 58 23 5) 58 24 20000)) 58 25 (some 72))) 58 26 (some 73))) 58 27 (some 74))) 58 29 (some 75))) 58 30 (some 76))) 58 31 (some 77))) 58 32 (some 78))) 58 33 (some 79))) 58 35 (some 80))) 58 36 (some 81))) 58 37 (some 82))) 58 38 (some 83))) 58 39 (some 84)) 58 42 (-1))) 58 43 (some 85))) 58 44 (some 86))) 58 45 (some 87))) 58 46 (some 88))
set_option maxRecDepth 100000 in
set_option maxHeartbeats 4000000 in
theorem t_X10_init {g : q_G} {S S' : q_S} (hS : S.1 = 59) (h : cS_X10 S = S') : q_Cn g mX10_init [q_r g 58] S (q_Q none S') := by
  unfold cS_X10 at h
  show q_V g mX10_init q_T _ 30 243005 0 [(0, q_r g 58)] [] S
  refine q_aload_n dX10_init_0 rfl ?_
  refine q_objInit dX10_init_1 lX10_1 (Nat.le_of_ble_eq_true rfl) (Nat.le_of_ble_eq_true rfl) ?_
  refine q_aload_n dX10_init_4 rfl ?_
  refine q_bipush (v := 48) dX10_init_5 (by decide) ?_
  refine c_newI (len := 48) 59 hS dX10_init_7 rfl (by decide) (by decide) (by decide) ?_
  refine q_putrF dX10_init_9 fX10_7 rfl rfl (Nat.le_of_ble_eq_true rfl) rfl rfl rfl rfl rfl ?_
  refine q_aload_n dX10_init_12 rfl ?_
  refine q_bipush (v := 48) dX10_init_13 (by decide) ?_
  refine c_newI (len := 48) 60 rfl dX10_init_15 rfl (by decide) (by decide) (by decide) ?_
  refine q_putrF dX10_init_17 fX10_13 rfl rfl (Nat.le_of_ble_eq_true rfl) rfl rfl rfl rfl rfl ?_
  refine q_aload_n dX10_init_20 rfl ?_
  refine q_iconst (v := 4) dX10_init_21 (by decide) ?_
  refine c_newI (len := 4) 61 rfl dX10_init_22 rfl (by decide) (by decide) (by decide) ?_
  refine q_putrF dX10_init_24 fX10_16 rfl rfl (Nat.le_of_ble_eq_true rfl) rfl rfl rfl rfl rfl ?_
  refine q_aload_n dX10_init_27 rfl ?_
  refine q_bipush (v := 11) dX10_init_28 (by decide) ?_
  refine c_newI (len := 11) 62 rfl dX10_init_30 rfl (by decide) (by decide) (by decide) ?_
  refine q_putrF dX10_init_32 fX10_19 rfl rfl (Nat.le_of_ble_eq_true rfl) rfl rfl rfl rfl rfl ?_
  refine q_aload_n dX10_init_35 rfl ?_
  refine q_bipush (v := 9) dX10_init_36 (by decide) ?_
  refine c_newI (len := 9) 63 rfl dX10_init_38 rfl (by decide) (by decide) (by decide) ?_
  refine q_putrF dX10_init_40 fX10_22 rfl rfl (Nat.le_of_ble_eq_true rfl) rfl rfl rfl rfl rfl ?_
  refine q_aload_n dX10_init_43 rfl ?_
  refine q_bipush (v := 9) dX10_init_44 (by decide) ?_
  refine c_newI (len := 9) 64 rfl dX10_init_46 rfl (by decide) (by decide) (by decide) ?_
  refine q_putrF dX10_init_48 fX10_25 rfl rfl (Nat.le_of_ble_eq_true rfl) rfl rfl rfl rfl rfl ?_
  refine q_aload_n dX10_init_51 rfl ?_
  refine q_bipush (v := 9) dX10_init_52 (by decide) ?_
  refine c_newI (len := 9) 65 rfl dX10_init_54 rfl (by decide) (by decide) (by decide) ?_
  refine q_putrF dX10_init_56 fX10_28 rfl rfl (Nat.le_of_ble_eq_true rfl) rfl rfl rfl rfl rfl ?_
  refine q_aload_n dX10_init_59 rfl ?_
  refine q_bipush (v := 9) dX10_init_60 (by decide) ?_
  refine c_newI (len := 9) 66 rfl dX10_init_62 rfl (by decide) (by decide) (by decide) ?_
  refine q_putrF dX10_init_64 fX10_31 rfl rfl (Nat.le_of_ble_eq_true rfl) rfl rfl rfl rfl rfl ?_
  refine q_aload_n dX10_init_67 rfl ?_
  refine q_bipush (v := 20) dX10_init_68 (by decide) ?_
  refine c_newI (len := 20) 67 rfl dX10_init_70 rfl (by decide) (by decide) (by decide) ?_
  refine q_putrF dX10_init_72 fX10_34 rfl rfl (Nat.le_of_ble_eq_true rfl) rfl rfl rfl rfl rfl ?_
  refine q_aload_n dX10_init_75 rfl ?_
  refine q_bipush (v := 20) dX10_init_76 (by decide) ?_
  refine c_newI (len := 20) 68 rfl dX10_init_78 rfl (by decide) (by decide) (by decide) ?_
  refine q_putrF dX10_init_80 fX10_37 rfl rfl (Nat.le_of_ble_eq_true rfl) rfl rfl rfl rfl rfl ?_
  refine q_aload_n dX10_init_83 rfl ?_
  refine q_bipush (v := 20) dX10_init_84 (by decide) ?_
  refine c_newI (len := 20) 69 rfl dX10_init_86 rfl (by decide) (by decide) (by decide) ?_
  refine q_putrF dX10_init_88 fX10_40 rfl rfl (Nat.le_of_ble_eq_true rfl) rfl rfl rfl rfl rfl ?_
  refine q_aload_n dX10_init_91 rfl ?_
  refine q_bipush (v := 9) dX10_init_92 (by decide) ?_
  refine c_newL (len := 9) 70 rfl dX10_init_94 rfl (by decide) (by decide) (by decide) ?_
  refine q_putrF dX10_init_96 fX10_43 rfl rfl (Nat.le_of_ble_eq_true rfl) rfl rfl rfl rfl rfl ?_
  refine q_aload_n dX10_init_99 rfl ?_
  refine q_bipush (v := 9) dX10_init_100 (by decide) ?_
  refine c_newL (len := 9) 71 rfl dX10_init_102 rfl (by decide) (by decide) (by decide) ?_
  refine q_putrF dX10_init_104 fX10_47 rfl rfl (Nat.le_of_ble_eq_true rfl) rfl rfl rfl rfl rfl ?_
  refine q_aload_n dX10_init_107 rfl ?_
  refine q_bipush (v := 10) dX10_init_108 (by decide) ?_
  refine q_puti dX10_init_110 fX10_50 rfl rfl (Nat.le_of_ble_eq_true rfl) rfl rfl rfl ?_
  refine q_aload_n dX10_init_113 rfl ?_
  refine q_ldc dX10_init_114 kX10_54 ?_
  refine q_puti dX10_init_116 fX10_55 rfl rfl (Nat.le_of_ble_eq_true rfl) rfl rfl rfl ?_
  refine q_aload_n dX10_init_119 rfl ?_
  refine q_iconst (v := 5) dX10_init_120 (by decide) ?_
  refine q_puti dX10_init_121 fX10_58 rfl rfl (Nat.le_of_ble_eq_true rfl) rfl rfl rfl ?_
  refine q_aload_n dX10_init_124 rfl ?_
  refine q_sipush (v := 20000) dX10_init_125 (by decide) ?_
  refine q_puti dX10_init_128 fX10_61 rfl rfl (Nat.le_of_ble_eq_true rfl) rfl rfl rfl ?_
  refine q_aload_n dX10_init_131 rfl ?_
  refine q_iconst (v := 4) dX10_init_132 (by decide) ?_
  refine c_newL (len := 4) 72 rfl dX10_init_133 rfl (by decide) (by decide) (by decide) ?_
  refine q_putrF dX10_init_135 fX10_64 rfl rfl (Nat.le_of_ble_eq_true rfl) rfl rfl rfl rfl rfl ?_
  refine q_aload_n dX10_init_138 rfl ?_
  refine q_iconst (v := 4) dX10_init_139 (by decide) ?_
  refine c_newL (len := 4) 73 rfl dX10_init_140 rfl (by decide) (by decide) (by decide) ?_
  refine q_putrF dX10_init_142 fX10_67 rfl rfl (Nat.le_of_ble_eq_true rfl) rfl rfl rfl rfl rfl ?_
  refine q_aload_n dX10_init_145 rfl ?_
  refine q_iconst (v := 4) dX10_init_146 (by decide) ?_
  refine c_newI (len := 4) 74 rfl dX10_init_147 rfl (by decide) (by decide) (by decide) ?_
  refine q_putrF dX10_init_149 fX10_70 rfl rfl (Nat.le_of_ble_eq_true rfl) rfl rfl rfl rfl rfl ?_
  refine q_aload_n dX10_init_152 rfl ?_
  refine q_iconst (v := 4) dX10_init_153 (by decide) ?_
  refine c_newI (len := 4) 75 rfl dX10_init_154 rfl (by decide) (by decide) (by decide) ?_
  refine q_putrF dX10_init_156 fX10_73 rfl rfl (Nat.le_of_ble_eq_true rfl) rfl rfl rfl rfl rfl ?_
  refine q_aload_n dX10_init_159 rfl ?_
  refine q_iconst (v := 4) dX10_init_160 (by decide) ?_
  refine c_newI (len := 4) 76 rfl dX10_init_161 rfl (by decide) (by decide) (by decide) ?_
  refine q_putrF dX10_init_163 fX10_76 rfl rfl (Nat.le_of_ble_eq_true rfl) rfl rfl rfl rfl rfl ?_
  refine q_aload_n dX10_init_166 rfl ?_
  refine q_bipush (v := 10) dX10_init_167 (by decide) ?_
  refine c_newI (len := 10) 77 rfl dX10_init_169 rfl (by decide) (by decide) (by decide) ?_
  refine q_putrF dX10_init_171 fX10_79 rfl rfl (Nat.le_of_ble_eq_true rfl) rfl rfl rfl rfl rfl ?_
  refine q_aload_n dX10_init_174 rfl ?_
  refine q_bipush (v := 10) dX10_init_175 (by decide) ?_
  refine c_newI (len := 10) 78 rfl dX10_init_177 rfl (by decide) (by decide) (by decide) ?_
  refine q_putrF dX10_init_179 fX10_82 rfl rfl (Nat.le_of_ble_eq_true rfl) rfl rfl rfl rfl rfl ?_
  refine q_aload_n dX10_init_182 rfl ?_
  refine q_bipush (v := 10) dX10_init_183 (by decide) ?_
  refine c_newI (len := 10) 79 rfl dX10_init_185 rfl (by decide) (by decide) (by decide) ?_
  refine q_putrF dX10_init_187 fX10_85 rfl rfl (Nat.le_of_ble_eq_true rfl) rfl rfl rfl rfl rfl ?_
  refine q_aload_n dX10_init_190 rfl ?_
  refine q_sipush (v := 400) dX10_init_191 (by decide) ?_
  refine c_newI (len := 400) 80 rfl dX10_init_194 rfl (by decide) (by decide) (by decide) ?_
  refine q_putrF dX10_init_196 fX10_88 rfl rfl (Nat.le_of_ble_eq_true rfl) rfl rfl rfl rfl rfl ?_
  refine q_aload_n dX10_init_199 rfl ?_
  refine q_sipush (v := 144) dX10_init_200 (by decide) ?_
  refine c_newI (len := 144) 81 rfl dX10_init_203 rfl (by decide) (by decide) (by decide) ?_
  refine q_putrF dX10_init_205 fX10_91 rfl rfl (Nat.le_of_ble_eq_true rfl) rfl rfl rfl rfl rfl ?_
  refine q_aload_n dX10_init_208 rfl ?_
  refine q_bipush (v := 82) dX10_init_209 (by decide) ?_
  refine c_newI (len := 82) 82 rfl dX10_init_211 rfl (by decide) (by decide) (by decide) ?_
  refine q_putrF dX10_init_213 fX10_94 rfl rfl (Nat.le_of_ble_eq_true rfl) rfl rfl rfl rfl rfl ?_
  refine q_aload_n dX10_init_216 rfl ?_
  refine q_iconst (v := 2) dX10_init_217 (by decide) ?_
  refine c_newI (len := 2) 83 rfl dX10_init_218 rfl (by decide) (by decide) (by decide) ?_
  refine q_putrF dX10_init_220 fX10_97 rfl rfl (Nat.le_of_ble_eq_true rfl) rfl rfl rfl rfl rfl ?_
  refine q_aload_n dX10_init_223 rfl ?_
  refine q_iconst (v := 2) dX10_init_224 (by decide) ?_
  refine c_newZ (len := 2) 84 rfl dX10_init_225 rfl (by decide) (by decide) (by decide) ?_
  refine q_putrF dX10_init_227 fX10_100 rfl rfl (Nat.le_of_ble_eq_true rfl) rfl rfl rfl rfl rfl ?_
  refine q_aload_n dX10_init_230 rfl ?_
  refine q_iconst (v := (-1)) dX10_init_231 (by decide) ?_
  refine q_puti dX10_init_232 fX10_104 rfl rfl (Nat.le_of_ble_eq_true rfl) rfl rfl rfl ?_
  refine q_aload_n dX10_init_235 rfl ?_
  refine q_ldc dX10_init_236 kX10_107 ?_
  refine c_newI (len := 242064) 85 rfl dX10_init_238 rfl (by decide) (by decide) (by decide) ?_
  refine q_putrF dX10_init_240 fX10_108 rfl rfl (Nat.le_of_ble_eq_true rfl) rfl rfl rfl rfl rfl ?_
  refine q_aload_n dX10_init_243 rfl ?_
  refine q_bipush (v := 12) dX10_init_244 (by decide) ?_
  refine c_newI (len := 12) 86 rfl dX10_init_246 rfl (by decide) (by decide) (by decide) ?_
  refine q_putrF dX10_init_248 fX10_111 rfl rfl (Nat.le_of_ble_eq_true rfl) rfl rfl rfl rfl rfl ?_
  refine q_aload_n dX10_init_251 rfl ?_
  refine q_bipush (v := 12) dX10_init_252 (by decide) ?_
  refine c_newI (len := 12) 87 rfl dX10_init_254 rfl (by decide) (by decide) (by decide) ?_
  refine q_putrF dX10_init_256 fX10_114 rfl rfl (Nat.le_of_ble_eq_true rfl) rfl rfl rfl rfl rfl ?_
  refine q_aload_n dX10_init_259 rfl ?_
  refine q_bipush (v := 12) dX10_init_260 (by decide) ?_
  refine c_newI (len := 12) 88 rfl dX10_init_262 rfl (by decide) (by decide) (by decide) ?_
  refine q_putrF dX10_init_264 fX10_117 rfl rfl (Nat.le_of_ble_eq_true rfl) rfl rfl rfl rfl rfl ?_
  subst h
  exact q_vret dX10_init_267 rfl ⟨rfl, rfl⟩
def cS_X4 (S : q_S) : q_S :=
  (q_pr (q_pr (q_pi (q_pi (q_pi (q_pi (q_pi (q_pi (q_pi (q_pr (q_nx 91 (q_pr (q_nx 90 S) 89 2 (some 90))) 89 3 (some 91)) 89 4 0) 89 5 0) 89 6 0) 89 7 0) 89 8 (-1)) 89 9 0) 89 10 536870912) 89 0 (some 33)) 89 1 (some 34))
set_option maxRecDepth 100000 in
set_option maxHeartbeats 4000000 in
theorem t_X4_init {g : q_G} {S S' : q_S} (hS : S.1 = 90) (h : cS_X4 S = S') : q_Cn g mX4_init [q_r g 89, q_r g 33, q_r g 34] S (q_Q none S') := by
  unfold cS_X4 at h
  show q_V g mX4_init q_T _ 2 9873 0 [(0, q_r g 89), (1, q_r g 33), (2, q_r g 34)] [] S
  refine q_aload_n dX4_init_0 rfl ?_
  refine q_objInit dX4_init_1 lX4_5 (Nat.le_of_ble_eq_true rfl) (Nat.le_of_ble_eq_true rfl) ?_
  refine q_aload_n dX4_init_4 rfl ?_
  refine q_sipush (v := 5904) dX4_init_5 (by decide) ?_
  refine c_newI (len := 5904) 90 hS dX4_init_8 rfl (by decide) (by decide) (by decide) ?_
  refine q_putrF dX4_init_10 fX4_11 rfl rfl (Nat.le_of_ble_eq_true rfl) rfl rfl rfl rfl rfl ?_
  refine q_aload_n dX4_init_13 rfl ?_
  refine q_sipush (v := 3969) dX4_init_14 (by decide) ?_
  refine c_newL (len := 3969) 91 rfl dX4_init_17 rfl (by decide) (by decide) (by decide) ?_
  refine q_putrF dX4_init_19 fX4_15 rfl rfl (Nat.le_of_ble_eq_true rfl) rfl rfl rfl rfl rfl ?_
  refine q_aload_n dX4_init_22 rfl ?_
  refine q_iconst (v := 0) dX4_init_23 (by decide) ?_
  refine q_puti dX4_init_24 fX4_19 rfl rfl (Nat.le_of_ble_eq_true rfl) rfl rfl rfl ?_
  refine q_aload_n dX4_init_27 rfl ?_
  refine q_iconst (v := 0) dX4_init_28 (by decide) ?_
  refine q_puti dX4_init_29 fX4_23 rfl rfl (Nat.le_of_ble_eq_true rfl) rfl rfl rfl ?_
  refine q_aload_n dX4_init_32 rfl ?_
  refine q_iconst (v := 0) dX4_init_33 (by decide) ?_
  refine q_puti dX4_init_34 fX4_26 rfl rfl (Nat.le_of_ble_eq_true rfl) rfl rfl rfl ?_
  refine q_aload_n dX4_init_37 rfl ?_
  refine q_iconst (v := 0) dX4_init_38 (by decide) ?_
  refine q_puti dX4_init_39 fX4_29 rfl rfl (Nat.le_of_ble_eq_true rfl) rfl rfl rfl ?_
  refine q_aload_n dX4_init_42 rfl ?_
  refine q_iconst (v := (-1)) dX4_init_43 (by decide) ?_
  refine q_puti dX4_init_44 fX4_32 rfl rfl (Nat.le_of_ble_eq_true rfl) rfl rfl rfl ?_
  refine q_aload_n dX4_init_47 rfl ?_
  refine q_iconst (v := 0) dX4_init_48 (by decide) ?_
  refine q_puti dX4_init_49 fX4_35 rfl rfl (Nat.le_of_ble_eq_true rfl) rfl rfl rfl ?_
  refine q_aload_n dX4_init_52 rfl ?_
  refine q_ldc dX4_init_53 kX4_38 ?_
  refine q_puti dX4_init_55 fX4_39 rfl rfl (Nat.le_of_ble_eq_true rfl) rfl rfl rfl ?_
  refine q_aload_n dX4_init_58 rfl ?_
  refine q_aload_n dX4_init_59 rfl ?_
  refine q_putrF dX4_init_60 fX4_42 rfl rfl (Nat.le_of_ble_eq_true rfl) rfl rfl rfl rfl rfl ?_
  refine q_aload_n dX4_init_63 rfl ?_
  refine q_aload_n dX4_init_64 rfl ?_
  refine q_putrF dX4_init_65 fX4_45 rfl rfl (Nat.le_of_ble_eq_true rfl) rfl rfl rfl rfl rfl ?_
  subst h
  exact q_vret dX4_init_68 rfl ⟨rfl, rfl⟩
