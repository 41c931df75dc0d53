/-- whether the Pilot stands -/
def q_pst (b : Bool) (n : Nat) (F : Nat → Nat → Option Nat) : Prop := (b = true ∧ n = 92 ∧ q_FP F) ∨ (b = false ∧ n = 89 ∧ F 0 10 = none)
def q_pS (F : Nat → Nat → Option Nat) (m : q_Mm) : q_S := q_pr (cS_X4 (q_nx 89 (q_mk 89 F m))) 0 10 (some 89)
def q_pm0 (m : q_Mm) : q_Mm := ((q_pS (fun _ _ => none) m).2.1, (q_pS (fun _ _ => none) m).2.2.1)
def q_pm (b : Bool) (m : q_Mm) : q_Mm := match b with | true => m | false => q_pm0 m
theorem q_pS_eq (F : Nat → Nat → Option Nat) (m : q_Mm) : q_pS F m = q_mk 92 (q_pS F m).2.2.2 (q_pm0 m) := rfl
theorem q_pS_FF {F : Nat → Nat → Option Nat} (hF : q_FF F) (m : q_Mm) : q_FF (q_pS F m).2.2.2 := by
  intro k j t h
  have h1 : k ≠ 89 := by rintro rfl; cases h
  have h4 : k ≠ 90 := by rintro rfl; cases h
  have h5 : k ≠ 91 := by rintro rfl; cases h
  have h2 : ¬ (k = 0 ∧ j = 10) := by rintro ⟨rfl, rfl⟩; cases h
  have h3 := hF k j t h
  simp only [q_pS, cS_X4, q_nx, q_pr, q_pi, q_pl, q_up, q_mk, h1, h2, h4, h5, if_false, false_and]
  exact h3
theorem q_pS_FP {F : Nat → Nat → Option Nat} (m : q_Mm) : q_FP (q_pS F m).2.2.2 := by
  intro k j t h
  unfold q_F1 at h
  split at h
  · split at h
    · cases h; rfl
    · cases h
  · split at h
    all_goals first | (cases h; rfl) | cases h
  · cases h
theorem c_VA1 {g : q_G} {M : q_M} {E : State → Prop} {Z : List Frame → Array Value → State → State → Prop} {kc ks pc : Nat} {ls : List (Nat × Value)} {st : List Value} {S : q_S} {v : Value} {S' : q_S} {K : q_M} {np idx a ci : Nat} {as : List Value} {st0 : List Value} (kc' ks' : Nat) (hkc : kc' + (q_R K).cells ≤ kc) (hks : ks' + (q_R K).slots ≤ ks) (hd : decode M.2.1 pc = .ok (.invokevirtual idx, 3)) (hK : q_ok K np) (hL : Cond.methodLink M.1.cls idx K.1 ∈ q_WS ∧ Cond.instanceMethod K.1 ∈ q_WS ∧ Cond.selects K.1.cls K.1 K.1 ∈ q_WS) (hR : q_fit M K) (hlt : ci < 11) (hci : (q_cl ci).1 = K.1.cls) (hy : q_lay a = (0, ci)) (ha : a < S.1) (hst : st0 = as.reverse ++ q_r g a :: st) (hnp : as.length = np) (hcat : (st.map fun v => v.category).sum ≤ 8) (hlen : (lg_sl (q_r g a :: as)).length ≤ K.2.2.1) (hc : q_Cn g K (q_r g a :: as) S (q_Q (some v) S')) (k : q_V g M E Z kc' ks' (pc + 3) ls (v :: st) S') : q_V g M E Z kc ks pc ls st0 S :=
  q_callV kc' ks' hkc hks hd hK hL hR hlt hci hy ha hst hnp hcat hlen hc (by rintro _ _ ⟨rfl, rfl⟩; exact k)
set_option maxRecDepth 100000 in
set_option maxHeartbeats 4000000 in
theorem t_X9_readyPilot {g : q_G} {n : Nat} {F : Nat → Nat → Option Nat} {b : Bool} {m : q_Mm} (hst : q_pst b n F) (hn : 89 ≤ n) (hF : q_FF F) : ∃ F1, q_FF F1 ∧ q_FP F1 ∧ q_Cn g mX9_readyPilot [q_r g 0] (q_mk n F m) (q_Q (some (q_r g 89)) (q_mk 92 F1 (q_pm b m))) := by
  have h0 : 0 < n := Nat.lt_of_lt_of_le (by decide) hn
  rcases hst with ⟨rfl, rfl, hP⟩ | ⟨rfl, rfl, hN⟩
  · refine ⟨F, hF, hP, ?_⟩
    show q_V g mX9_readyPilot q_T _ 3 9884 0 [(0, q_r g 0)] [] (q_mk 92 F m)
    refine q_aload_n dX9_readyPilot_0 rfl ?_
    refine u_getr dX9_readyPilot_1 fX9_64 rfl rfl h0 (hP 0 10 89 rfl) ?_
    refine q_ifnonnull 26 dX9_readyPilot_4 (by decide) ?_
    refine q_aload_n dX9_readyPilot_26 rfl ?_
    refine u_getr dX9_readyPilot_27 fX9_64 rfl rfl h0 (hP 0 10 89 rfl) ?_
    exact q_aret dX9_readyPilot_30 rfl ⟨rfl, rfl⟩
  · refine ⟨(q_pS F m).2.2.2, q_pS_FF hF m, q_pS_FP m, ?_⟩
    show q_V g mX9_readyPilot q_T _ 3 9884 0 [(0, q_r g 0)] [] (q_mk 89 F m)
    refine q_aload_n dX9_readyPilot_0 rfl ?_
    refine q_getn dX9_readyPilot_1 fX9_64 rfl rfl h0 hN ?_
    refine q_ifnonnullN dX9_readyPilot_4 ?_
    refine q_aload_n dX9_readyPilot_7 rfl ?_
    refine c_new (ci := 4) (N := 11) 89 rfl dX9_readyPilot_8 (by decide) nX9_253 rfl rfl ?_
    refine q_dup dX9_readyPilot_11 rfl ?_
    refine q_aload_n dX9_readyPilot_12 rfl ?_
    refine q_getr (t := 33) dX9_readyPilot_13 fX9_50 rfl rfl (Nat.le_of_ble_eq_true rfl) (hF 0 7 33 rfl) ?_
    refine q_aload_n dX9_readyPilot_16 rfl ?_
    refine q_getr (t := 34) dX9_readyPilot_17 fX9_57 rfl rfl (Nat.le_of_ble_eq_true rfl) (hF 0 8 34 rfl) ?_
    refine c_I (as := [_, _]) (st := [_, _]) 0 0 (Nat.le_of_ble_eq_true rfl) (Nat.le_of_ble_eq_true rfl) dX9_readyPilot_20 okX4_init lX9_325 rfl rfl ⟨Nat.le_of_ble_eq_true rfl, Nat.le_of_ble_eq_true rfl⟩ rfl rfl (Nat.le_of_ble_eq_true rfl) (Nat.le_of_ble_eq_true rfl) (t_X4_init rfl rfl) ?_
    refine q_putr dX9_readyPilot_23 fX9_64 rfl rfl (Nat.le_of_ble_eq_true rfl) rfl rfl rfl ?_
    refine q_aload_n dX9_readyPilot_26 rfl ?_
    refine q_getr (t := 89) dX9_readyPilot_27 fX9_64 rfl rfl (Nat.le_of_ble_eq_true rfl) rfl ?_
    exact q_aret dX9_readyPilot_30 rfl ⟨rfl, rfl⟩
def f_X9_route (b : Bool) (x1 : Int32) (x2 : Int32) (x3 : Int32) (x4 : Int32) (m : q_Mm) : Option (Int32 × q_Mm) :=
  if (f_X9_isCell x1 m) = 0 then
    some (((-1), m))
  else
    if (f_X9_isCell x2 m) = 0 then
      some (((-1), m))
    else
      if (f_X9_isVoyage x3 x4 m) = 0 then
        some (((-2), m))
      else
        (f_X4_findAlone x1 x2 x3 x4 (q_pm b m)).bind fun r1 =>
        if r1.1 = 0 then
          some (((-5), r1.2))
        else
          (f_X4_write 34 0 0 r1.2).bind fun r3 =>
          some (((f_X4_foundDanger  (q_wi (q_wi r3 34 4 x3) 34 5 x4)), q_wi (q_wi r3 34 4 x3) 34 5 x4))
set_option maxRecDepth 100000 in
set_option maxHeartbeats 4000000 in
theorem t_X9_route {g : q_G} {n : Nat} {F : Nat → Nat → Option Nat} (hn : 89 ≤ n) (hF : q_FF F) {b : Bool} (hst : q_pst b n F)  {x1 : Int32} {x2 : Int32} {x3 : Int32} {x4 : Int32} {m : q_Mm} {r : Int32 × q_Mm} (h : f_X9_route b x1 x2 x3 x4 m = some r) : q_Cn g mX9_route [q_r g 0, .int x1, .int x2, .int x3, .int x4] (q_mk n F m) (fun v S => ∃ b1 n1 F1, q_pst b1 n1 F1 ∧ q_FF F1 ∧ 89 ≤ n1 ∧ v = some (.int r.1) ∧ S = q_mk n1 F1 r.2) := by
  unfold f_X9_route at h
  show q_V g mX9_route q_T _ _ _ 0 [(0, q_r g 0), (1, .int x1), (2, .int x2), (3, .int x3), (4, .int x4)] [] (q_mk n F m)
  refine q_iload_n dX9_route_0 rfl ?_
  refine c_S1 (as := [_]) (st := []) dX9_route_1 okX9_isCell lX9_241 ⟨rfl, rfl⟩ ⟨Nat.le_of_ble_eq_true rfl, Nat.le_of_ble_eq_true rfl⟩ rfl rfl (Nat.le_of_ble_eq_true rfl) (Nat.le_of_ble_eq_true rfl) (t_X9_isCell hn hF  rfl) ?_
  refine q_if_eq 14 dX9_route_4 (by decide) (fun hc => ?_) (fun hc => ?_)
  · have h := q_it hc h
    refine q_iconst (v := (-1)) dX9_route_14 (by decide) ?_
    cases h
    exact q_iret dX9_route_15 rfl ⟨b, n, F, hst, hF, hn, rfl, rfl⟩
  · have h := q_if hc h
    refine q_iload_n dX9_route_7 rfl ?_
    refine c_S1 (as := [_]) (st := []) dX9_route_8 okX9_isCell lX9_241 ⟨rfl, rfl⟩ ⟨Nat.le_of_ble_eq_true rfl, Nat.le_of_ble_eq_true rfl⟩ rfl rfl (Nat.le_of_ble_eq_true rfl) (Nat.le_of_ble_eq_true rfl) (t_X9_isCell hn hF  rfl) ?_
    refine q_if_ne 16 dX9_route_11 (by decide) (fun hc => ?_) (fun hc => ?_)
    · have h := q_if hc h
      refine q_iload_n dX9_route_16 rfl ?_
      refine q_iload dX9_route_17 rfl ?_
      refine c_S1 (as := [_, _]) (st := []) dX9_route_19 okX9_isVoyage lX9_244 ⟨rfl, rfl⟩ ⟨Nat.le_of_ble_eq_true rfl, Nat.le_of_ble_eq_true rfl⟩ rfl rfl (Nat.le_of_ble_eq_true rfl) (Nat.le_of_ble_eq_true rfl) (t_X9_isVoyage hn hF  rfl) ?_
      refine q_if_ne 28 dX9_route_22 (by decide) (fun hc => ?_) (fun hc => ?_)
      · have h := q_if hc h
        refine q_aload_n dX9_route_28 rfl ?_
        obtain ⟨F1, hF1, hP1, hrp⟩ := t_X9_readyPilot (g := g) (m := m) hst hn hF
        refine c_VA1 (as := []) (st := []) (ci := 9) 0 0 (Nat.le_of_ble_eq_true rfl) (Nat.le_of_ble_eq_true rfl) dX9_route_29 okX9_readyPilot lX9_248 ⟨Nat.le_of_ble_eq_true rfl, Nat.le_of_ble_eq_true rfl⟩ (by decide) rfl rfl (Nat.lt_of_lt_of_le (Nat.le_of_ble_eq_true rfl) hn) rfl rfl (Nat.le_of_ble_eq_true rfl) (Nat.le_of_ble_eq_true rfl) hrp ?_
        have hn : 89 ≤ 92 := by decide
        have hp : 92 ≤ 92 := by decide
        have hF := hF1
        have hP := hP1
        refine q_astore (ls' := [(0, _), (1, _), (2, _), (3, _), (4, _), (5, _)]) [0, 1, 2, 3, 4, 5] dX9_route_32 (Nat.le_of_ble_eq_true rfl) rfl ?_
        refine q_aload dX9_route_34 rfl ?_
        refine q_iload_n dX9_route_36 rfl ?_
        refine q_iload_n dX9_route_37 rfl ?_
        refine q_iload_n dX9_route_38 rfl ?_
        refine q_iload dX9_route_39 rfl ?_
        obtain ⟨r1, hr2, h⟩ := q_bd h
        refine c_V1 (as := [_, _, _, _]) (st := []) (ci := 4) dX9_route_41 okX4_findAlone lX9_252 ⟨rfl, rfl⟩ ⟨Nat.le_of_ble_eq_true rfl, Nat.le_of_ble_eq_true rfl⟩ (by decide) rfl rfl (Nat.lt_of_lt_of_le (Nat.le_of_ble_eq_true rfl) hp) rfl rfl (Nat.le_of_ble_eq_true rfl) (Nat.le_of_ble_eq_true rfl) (t_X4_findAlone hn hF hp hP  hr2) ?_
        refine q_if_ne 50 dX9_route_44 (by decide) (fun hc => ?_) (fun hc => ?_)
        · have h := q_if hc h
          refine q_aload dX9_route_50 rfl ?_
          refine q_aload_n dX9_route_52 rfl ?_
          refine u_getr dX9_route_53 fX9_57 rfl rfl (Nat.lt_of_lt_of_le (Nat.le_of_ble_eq_true rfl) hn) (hF 0 8 34 rfl) ?_
          refine q_iconst (v := 0) dX9_route_56 (by decide) ?_
          refine q_iconst (v := 0) dX9_route_57 (by decide) ?_
          obtain ⟨r3, hr4, h⟩ := q_bd h
          refine c_V0 (as := [_, _, _]) (st := []) (ci := 4) dX9_route_58 okX4_write lX9_258 ⟨rfl, rfl⟩ ⟨Nat.le_of_ble_eq_true rfl, Nat.le_of_ble_eq_true rfl⟩ (by decide) rfl rfl (Nat.lt_of_lt_of_le (Nat.le_of_ble_eq_true rfl) hp) rfl rfl (Nat.le_of_ble_eq_true rfl) (Nat.le_of_ble_eq_true rfl) (t_X4_write hn hF hp hP q_is34 hr4) ?_
          refine q_aload_n dX9_route_61 rfl ?_
          refine u_getr dX9_route_62 fX9_57 rfl rfl (Nat.lt_of_lt_of_le (Nat.le_of_ble_eq_true rfl) hn) (hF 0 8 34 rfl) ?_
          refine q_iload_n dX9_route_65 rfl ?_
          refine u_puti dX9_route_66 fX9_262 rfl rfl (Nat.lt_of_lt_of_le (Nat.le_of_ble_eq_true rfl) hn) rfl rfl rfl ?_
          refine q_aload_n dX9_route_69 rfl ?_
          refine u_getr dX9_route_70 fX9_57 rfl rfl (Nat.lt_of_lt_of_le (Nat.le_of_ble_eq_true rfl) hn) (hF 0 8 34 rfl) ?_
          refine q_iload dX9_route_73 rfl ?_
          refine u_puti dX9_route_75 fX9_265 rfl rfl (Nat.lt_of_lt_of_le (Nat.le_of_ble_eq_true rfl) hn) rfl rfl rfl ?_
          refine q_aload dX9_route_78 rfl ?_
          refine c_V1 (as := []) (st := []) (ci := 4) dX9_route_80 okX4_foundDanger lX9_268 ⟨rfl, rfl⟩ ⟨Nat.le_of_ble_eq_true rfl, Nat.le_of_ble_eq_true rfl⟩ (by decide) rfl rfl (Nat.lt_of_lt_of_le (Nat.le_of_ble_eq_true rfl) hp) rfl rfl (Nat.le_of_ble_eq_true rfl) (Nat.le_of_ble_eq_true rfl) (t_X4_foundDanger hn hF hp hP  rfl) ?_
          cases h
          exact q_iret dX9_route_83 rfl ⟨true, 92, F1, Or.inl ⟨rfl, rfl, hP⟩, hF, hn, rfl, rfl⟩
        · have h := q_it hc h
          refine q_bipush (v := (-5)) dX9_route_47 (by decide) ?_
          cases h
          exact q_iret dX9_route_49 rfl ⟨true, 92, F1, Or.inl ⟨rfl, rfl, hP⟩, hF, hn, rfl, rfl⟩
      · have h := q_it hc h
        refine q_bipush (v := (-2)) dX9_route_25 (by decide) ?_
        cases h
        exact q_iret dX9_route_27 rfl ⟨b, n, F, hst, hF, hn, rfl, rfl⟩
    · have h := q_it hc h
      refine q_iconst (v := (-1)) dX9_route_14 (by decide) ?_
      cases h
      exact q_iret dX9_route_15 rfl ⟨b, n, F, hst, hF, hn, rfl, rfl⟩
def f_X9_apart (b : Bool) (x1 : Int32) (x2 : Int32) (x3 : Int32) (x4 : Int32) (x5 : Int32) (m : q_Mm) : Option (Int32 × q_Mm) :=
  if (f_X9_isCell x1 m) = 0 then
    some (((-1), m))
  else
    if (f_X9_isCell x2 m) = 0 then
      some (((-1), m))
    else
      if (f_X9_isVoyage x3 x4 m) = 0 then
        some (((-2), m))
      else
        if (f_X9_within x5 0 5 m) = 0 then
          some (((-2), m))
        else
          if (m.1 34 0) = 0 then
            some (((-3), m))
          else
            (f_X4_findApart x1 x2 x3 x4 x5 (q_pm b m)).bind fun r1 =>
            if r1.1 = 0 then
              some (((-5), r1.2))
            else
              (f_X4_write 36 0 0 r1.2).bind fun r3 =>
              some (((f_X4_foundDanger  r3), r3))
set_option maxRecDepth 100000 in
set_option maxHeartbeats 4000000 in
theorem t_X9_apart {g : q_G} {n : Nat} {F : Nat → Nat → Option Nat} (hn : 89 ≤ n) (hF : q_FF F) {b : Bool} (hst : q_pst b n F)  {x1 : Int32} {x2 : Int32} {x3 : Int32} {x4 : Int32} {x5 : Int32} {m : q_Mm} {r : Int32 × q_Mm} (h : f_X9_apart b x1 x2 x3 x4 x5 m = some r) : q_Cn g mX9_apart [q_r g 0, .int x1, .int x2, .int x3, .int x4, .int x5] (q_mk n F m) (fun v S => ∃ b1 n1 F1, q_pst b1 n1 F1 ∧ q_FF F1 ∧ 89 ≤ n1 ∧ v = some (.int r.1) ∧ S = q_mk n1 F1 r.2) := by
  unfold f_X9_apart at h
  show q_V g mX9_apart q_T _ _ _ 0 [(0, q_r g 0), (1, .int x1), (2, .int x2), (3, .int x3), (4, .int x4), (5, .int x5)] [] (q_mk n F m)
  refine q_iload_n dX9_apart_0 rfl ?_
  refine c_S1 (as := [_]) (st := []) dX9_apart_1 okX9_isCell lX9_241 ⟨rfl, rfl⟩ ⟨Nat.le_of_ble_eq_true rfl, Nat.le_of_ble_eq_true rfl⟩ rfl rfl (Nat.le_of_ble_eq_true rfl) (Nat.le_of_ble_eq_true rfl) (t_X9_isCell hn hF  rfl) ?_
  refine q_if_eq 14 dX9_apart_4 (by decide) (fun hc => ?_) (fun hc => ?_)
  · have h := q_it hc h
    refine q_iconst (v := (-1)) dX9_apart_14 (by decide) ?_
    cases h
    exact q_iret dX9_apart_15 rfl ⟨b, n, F, hst, hF, hn, rfl, rfl⟩
  · have h := q_if hc h
    refine q_iload_n dX9_apart_7 rfl ?_
    refine c_S1 (as := [_]) (st := []) dX9_apart_8 okX9_isCell lX9_241 ⟨rfl, rfl⟩ ⟨Nat.le_of_ble_eq_true rfl, Nat.le_of_ble_eq_true rfl⟩ rfl rfl (Nat.le_of_ble_eq_true rfl) (Nat.le_of_ble_eq_true rfl) (t_X9_isCell hn hF  rfl) ?_
    refine q_if_ne 16 dX9_apart_11 (by decide) (fun hc => ?_) (fun hc => ?_)
    · have h := q_if hc h
      refine q_iload_n dX9_apart_16 rfl ?_
      refine q_iload dX9_apart_17 rfl ?_
      refine c_S1 (as := [_, _]) (st := []) dX9_apart_19 okX9_isVoyage lX9_244 ⟨rfl, rfl⟩ ⟨Nat.le_of_ble_eq_true rfl, Nat.le_of_ble_eq_true rfl⟩ rfl rfl (Nat.le_of_ble_eq_true rfl) (Nat.le_of_ble_eq_true rfl) (t_X9_isVoyage hn hF  rfl) ?_
      refine q_if_eq 35 dX9_apart_22 (by decide) (fun hc => ?_) (fun hc => ?_)
      · have h := q_it hc h
        refine q_bipush (v := (-2)) dX9_apart_35 (by decide) ?_
        cases h
        exact q_iret dX9_apart_37 rfl ⟨b, n, F, hst, hF, hn, rfl, rfl⟩
      · have h := q_if hc h
        refine q_iload dX9_apart_25 rfl ?_
        refine q_iconst (v := 0) dX9_apart_27 (by decide) ?_
        refine q_iconst (v := 5) dX9_apart_28 (by decide) ?_
        refine c_S1 (as := [_, _, _]) (st := []) dX9_apart_29 okX9_within lX9_80 ⟨rfl, rfl⟩ ⟨Nat.le_of_ble_eq_true rfl, Nat.le_of_ble_eq_true rfl⟩ rfl rfl (Nat.le_of_ble_eq_true rfl) (Nat.le_of_ble_eq_true rfl) (t_X9_within hn hF  rfl) ?_
        refine q_if_ne 38 dX9_apart_32 (by decide) (fun hc => ?_) (fun hc => ?_)
        · have h := q_if hc h
          refine q_aload_n dX9_apart_38 rfl ?_
          refine u_getr dX9_apart_39 fX9_57 rfl rfl (Nat.lt_of_lt_of_le (Nat.le_of_ble_eq_true rfl) hn) (hF 0 8 34 rfl) ?_
          refine u_geti dX9_apart_42 fX9_272 rfl rfl (Nat.lt_of_lt_of_le (Nat.le_of_ble_eq_true rfl) hn) ?_
          refine q_if_ne 51 dX9_apart_45 (by decide) (fun hc => ?_) (fun hc => ?_)
          · have h := q_if hc h
            refine q_aload_n dX9_apart_51 rfl ?_
            obtain ⟨F1, hF1, hP1, hrp⟩ := t_X9_readyPilot (g := g) (m := m) hst hn hF
            refine c_VA1 (as := []) (st := []) (ci := 9) 0 0 (Nat.le_of_ble_eq_true rfl) (Nat.le_of_ble_eq_true rfl) dX9_apart_52 okX9_readyPilot lX9_248 ⟨Nat.le_of_ble_eq_true rfl, Nat.le_of_ble_eq_true rfl⟩ (by decide) rfl rfl (Nat.lt_of_lt_of_le (Nat.le_of_ble_eq_true rfl) hn) rfl rfl (Nat.le_of_ble_eq_true rfl) (Nat.le_of_ble_eq_true rfl) hrp ?_
            have hn : 89 ≤ 92 := by decide
            have hp : 92 ≤ 92 := by decide
            have hF := hF1
            have hP := hP1
            refine q_astore (ls' := [(0, _), (1, _), (2, _), (3, _), (4, _), (5, _), (6, _)]) [0, 1, 2, 3, 4, 5, 6] dX9_apart_55 (Nat.le_of_ble_eq_true rfl) rfl ?_
            refine q_aload dX9_apart_57 rfl ?_
            refine q_iload_n dX9_apart_59 rfl ?_
            refine q_iload_n dX9_apart_60 rfl ?_
            refine q_iload_n dX9_apart_61 rfl ?_
            refine q_iload dX9_apart_62 rfl ?_
            refine q_iload dX9_apart_64 rfl ?_
            obtain ⟨r1, hr2, h⟩ := q_bd h
            refine c_V1 (as := [_, _, _, _, _]) (st := []) (ci := 4) dX9_apart_66 okX4_findApart lX9_276 ⟨rfl, rfl⟩ ⟨Nat.le_of_ble_eq_true rfl, Nat.le_of_ble_eq_true rfl⟩ (by decide) rfl rfl (Nat.lt_of_lt_of_le (Nat.le_of_ble_eq_true rfl) hp) rfl rfl (Nat.le_of_ble_eq_true rfl) (Nat.le_of_ble_eq_true rfl) (t_X4_findApart hn hF hp hP  hr2) ?_
            refine q_if_ne 75 dX9_apart_69 (by decide) (fun hc => ?_) (fun hc => ?_)
            · have h := q_if hc h
              refine q_aload dX9_apart_75 rfl ?_
              refine q_aload_n dX9_apart_77 rfl ?_
              refine u_getr dX9_apart_78 fX9_61 rfl rfl (Nat.lt_of_lt_of_le (Nat.le_of_ble_eq_true rfl) hn) (hF 0 9 36 rfl) ?_
              refine q_iconst (v := 0) dX9_apart_81 (by decide) ?_
              refine q_iconst (v := 0) dX9_apart_82 (by decide) ?_
              obtain ⟨r3, hr4, h⟩ := q_bd h
              refine c_V0 (as := [_, _, _]) (st := []) (ci := 4) dX9_apart_83 okX4_write lX9_258 ⟨rfl, rfl⟩ ⟨Nat.le_of_ble_eq_true rfl, Nat.le_of_ble_eq_true rfl⟩ (by decide) rfl rfl (Nat.lt_of_lt_of_le (Nat.le_of_ble_eq_true rfl) hp) rfl rfl (Nat.le_of_ble_eq_true rfl) (Nat.le_of_ble_eq_true rfl) (t_X4_write hn hF hp hP q_is36 hr4) ?_
              refine q_aload dX9_apart_86 rfl ?_
              refine c_V1 (as := []) (st := []) (ci := 4) dX9_apart_88 okX4_foundDanger lX9_268 ⟨rfl, rfl⟩ ⟨Nat.le_of_ble_eq_true rfl, Nat.le_of_ble_eq_true rfl⟩ (by decide) rfl rfl (Nat.lt_of_lt_of_le (Nat.le_of_ble_eq_true rfl) hp) rfl rfl (Nat.le_of_ble_eq_true rfl) (Nat.le_of_ble_eq_true rfl) (t_X4_foundDanger hn hF hp hP  rfl) ?_
              cases h
              exact q_iret dX9_apart_91 rfl ⟨true, 92, F1, Or.inl ⟨rfl, rfl, hP⟩, hF, hn, rfl, rfl⟩
            · have h := q_it hc h
              refine q_bipush (v := (-5)) dX9_apart_72 (by decide) ?_
              cases h
              exact q_iret dX9_apart_74 rfl ⟨true, 92, F1, Or.inl ⟨rfl, rfl, hP⟩, hF, hn, rfl, rfl⟩
          · have h := q_it hc h
            refine q_bipush (v := (-3)) dX9_apart_48 (by decide) ?_
            cases h
            exact q_iret dX9_apart_50 rfl ⟨b, n, F, hst, hF, hn, rfl, rfl⟩
        · have h := q_it hc h
          refine q_bipush (v := (-2)) dX9_apart_35 (by decide) ?_
          cases h
          exact q_iret dX9_apart_37 rfl ⟨b, n, F, hst, hF, hn, rfl, rfl⟩
    · have h := q_it hc h
      refine q_iconst (v := (-1)) dX9_apart_14 (by decide) ?_
      cases h
      exact q_iret dX9_apart_15 rfl ⟨b, n, F, hst, hF, hn, rfl, rfl⟩
def f_X9_word (b : Bool) (x1 : Int32) (x2 : Int32) (m : q_Mm) : Option (Int32 × q_Mm) :=
  if (f_X9_isCell x2 m) = 0 then
    some (((-1), m))
  else
    if (f_X9_within x1 0 40 m) = 0 then
      some (((-2), m))
    else
      if (m.1 34 0) = 0 then
        some (((-3), m))
      else
        if x1 ≤ (m.1 34 2) then
          (f_X8_fuelTill 34 x1 m).bind fun r1 =>
          (f_X8_cellOn 34 x1 (q_pm b m)).bind fun r3 =>
          (f_X4_findAlone r3 x2 (((q_pm b m).1 34 4) - x1) (((q_pm b m).1 34 5) - r1) (q_pm b m)).bind fun r5 =>
          if r5.1 = 0 then
            some (((-5), r5.2))
          else
            (f_X4_write 34 x1 r1 r5.2).bind fun r7 =>
            some (((f_X4_foundDanger  r7), r7))
        else
          some (((-2), m))
set_option maxRecDepth 100000 in
set_option maxHeartbeats 4000000 in
theorem t_X9_word {g : q_G} {n : Nat} {F : Nat → Nat → Option Nat} (hn : 89 ≤ n) (hF : q_FF F) {b : Bool} (hst : q_pst b n F)  {x1 : Int32} {x2 : Int32} {m : q_Mm} {r : Int32 × q_Mm} (h : f_X9_word b x1 x2 m = some r) : q_Cn g mX9_word [q_r g 0, .int x1, .int x2] (q_mk n F m) (fun v S => ∃ b1 n1 F1, q_pst b1 n1 F1 ∧ q_FF F1 ∧ 89 ≤ n1 ∧ v = some (.int r.1) ∧ S = q_mk n1 F1 r.2) := by
  unfold f_X9_word at h
  show q_V g mX9_word q_T _ _ _ 0 [(0, q_r g 0), (1, .int x1), (2, .int x2)] [] (q_mk n F m)
  refine q_iload_n dX9_word_0 rfl ?_
  refine c_S1 (as := [_]) (st := []) dX9_word_1 okX9_isCell lX9_241 ⟨rfl, rfl⟩ ⟨Nat.le_of_ble_eq_true rfl, Nat.le_of_ble_eq_true rfl⟩ rfl rfl (Nat.le_of_ble_eq_true rfl) (Nat.le_of_ble_eq_true rfl) (t_X9_isCell hn hF  rfl) ?_
  refine q_if_ne 9 dX9_word_4 (by decide) (fun hc => ?_) (fun hc => ?_)
  · have h := q_if hc h
    refine q_iload_n dX9_word_9 rfl ?_
    refine q_iconst (v := 0) dX9_word_10 (by decide) ?_
    refine q_bipush (v := 40) dX9_word_11 (by decide) ?_
    refine c_S1 (as := [_, _, _]) (st := []) dX9_word_13 okX9_within lX9_80 ⟨rfl, rfl⟩ ⟨Nat.le_of_ble_eq_true rfl, Nat.le_of_ble_eq_true rfl⟩ rfl rfl (Nat.le_of_ble_eq_true rfl) (Nat.le_of_ble_eq_true rfl) (t_X9_within hn hF  rfl) ?_
    refine q_if_ne 22 dX9_word_16 (by decide) (fun hc => ?_) (fun hc => ?_)
    · have h := q_if hc h
      refine q_aload_n dX9_word_22 rfl ?_
      refine u_getr dX9_word_23 fX9_57 rfl rfl (Nat.lt_of_lt_of_le (Nat.le_of_ble_eq_true rfl) hn) (hF 0 8 34 rfl) ?_
      refine u_geti dX9_word_26 fX9_272 rfl rfl (Nat.lt_of_lt_of_le (Nat.le_of_ble_eq_true rfl) hn) ?_
      refine q_if_ne 35 dX9_word_29 (by decide) (fun hc => ?_) (fun hc => ?_)
      · have h := q_if hc h
        refine q_iload_n dX9_word_35 rfl ?_
        refine q_aload_n dX9_word_36 rfl ?_
        refine u_getr dX9_word_37 fX9_57 rfl rfl (Nat.lt_of_lt_of_le (Nat.le_of_ble_eq_true rfl) hn) (hF 0 8 34 rfl) ?_
        refine u_geti dX9_word_40 fX9_280 rfl rfl (Nat.lt_of_lt_of_le (Nat.le_of_ble_eq_true rfl) hn) ?_
        refine q_icmp_le 49 dX9_word_43 (by decide) (fun hc => ?_) (fun hc => ?_)
        · have h := q_it hc h
          refine q_aload_n dX9_word_49 rfl ?_
          refine u_getr dX9_word_50 fX9_57 rfl rfl (Nat.lt_of_lt_of_le (Nat.le_of_ble_eq_true rfl) hn) (hF 0 8 34 rfl) ?_
          refine q_iload_n dX9_word_53 rfl ?_
          obtain ⟨r1, hr2, h⟩ := q_bd h
          refine c_V1 (as := [_]) (st := []) (ci := 8) dX9_word_54 okX8_fuelTill lX9_289 ⟨rfl, rfl⟩ ⟨Nat.le_of_ble_eq_true rfl, Nat.le_of_ble_eq_true rfl⟩ (by decide) rfl rfl (Nat.lt_of_lt_of_le (Nat.le_of_ble_eq_true rfl) hn) rfl rfl (Nat.le_of_ble_eq_true rfl) (Nat.le_of_ble_eq_true rfl) (t_X8_fuelTill hn hF q_is34 hr2) ?_
          refine q_istore_n (ls' := [(0, _), (1, _), (2, _), (3, _)]) [0, 1, 2, 3] dX9_word_57 (Nat.le_of_ble_eq_true rfl) rfl ?_
          refine q_aload_n dX9_word_58 rfl ?_
          obtain ⟨F1, hF1, hP1, hrp⟩ := t_X9_readyPilot (g := g) (m := m) hst hn hF
          refine c_VA1 (as := []) (st := []) (ci := 9) 0 0 (Nat.le_of_ble_eq_true rfl) (Nat.le_of_ble_eq_true rfl) dX9_word_59 okX9_readyPilot lX9_248 ⟨Nat.le_of_ble_eq_true rfl, Nat.le_of_ble_eq_true rfl⟩ (by decide) rfl rfl (Nat.lt_of_lt_of_le (Nat.le_of_ble_eq_true rfl) hn) rfl rfl (Nat.le_of_ble_eq_true rfl) (Nat.le_of_ble_eq_true rfl) hrp ?_
          have hn : 89 ≤ 92 := by decide
          have hp : 92 ≤ 92 := by decide
          have hF := hF1
          have hP := hP1
          refine q_astore (ls' := [(0, _), (1, _), (2, _), (3, _), (4, _)]) [0, 1, 2, 3, 4] dX9_word_62 (Nat.le_of_ble_eq_true rfl) rfl ?_
          refine q_aload dX9_word_64 rfl ?_
          refine q_aload_n dX9_word_66 rfl ?_
          refine u_getr dX9_word_67 fX9_57 rfl rfl (Nat.lt_of_lt_of_le (Nat.le_of_ble_eq_true rfl) hn) (hF 0 8 34 rfl) ?_
          refine q_iload_n dX9_word_70 rfl ?_
          obtain ⟨r3, hr4, h⟩ := q_bd h
          refine c_V1 (as := [_]) (st := [_]) (ci := 8) dX9_word_71 okX8_cellOn lX9_286 ⟨rfl, rfl⟩ ⟨Nat.le_of_ble_eq_true rfl, Nat.le_of_ble_eq_true rfl⟩ (by decide) rfl rfl (Nat.lt_of_lt_of_le (Nat.le_of_ble_eq_true rfl) hn) rfl rfl (Nat.le_of_ble_eq_true rfl) (Nat.le_of_ble_eq_true rfl) (t_X8_cellOn hn hF q_is34 hr4) ?_
          refine q_iload_n dX9_word_74 rfl ?_
          refine q_aload_n dX9_word_75 rfl ?_
          refine u_getr dX9_word_76 fX9_57 rfl rfl (Nat.lt_of_lt_of_le (Nat.le_of_ble_eq_true rfl) hn) (hF 0 8 34 rfl) ?_
          refine u_geti dX9_word_79 fX9_262 rfl rfl (Nat.lt_of_lt_of_le (Nat.le_of_ble_eq_true rfl) hn) ?_
          refine q_iload_n dX9_word_82 rfl ?_
          refine q_isub dX9_word_83 ?_
          refine q_aload_n dX9_word_84 rfl ?_
          refine u_getr dX9_word_85 fX9_57 rfl rfl (Nat.lt_of_lt_of_le (Nat.le_of_ble_eq_true rfl) hn) (hF 0 8 34 rfl) ?_
          refine u_geti dX9_word_88 fX9_265 rfl rfl (Nat.lt_of_lt_of_le (Nat.le_of_ble_eq_true rfl) hn) ?_
          refine q_iload_n dX9_word_91 rfl ?_
          refine q_isub dX9_word_92 ?_
          obtain ⟨r5, hr6, h⟩ := q_bd h
          refine c_V1 (as := [_, _, _, _]) (st := []) (ci := 4) dX9_word_93 okX4_findAlone lX9_252 ⟨rfl, rfl⟩ ⟨Nat.le_of_ble_eq_true rfl, Nat.le_of_ble_eq_true rfl⟩ (by decide) rfl rfl (Nat.lt_of_lt_of_le (Nat.le_of_ble_eq_true rfl) hp) rfl rfl (Nat.le_of_ble_eq_true rfl) (Nat.le_of_ble_eq_true rfl) (t_X4_findAlone hn hF hp hP  hr6) ?_
          refine q_if_ne 102 dX9_word_96 (by decide) (fun hc => ?_) (fun hc => ?_)
          · have h := q_if hc h
            refine q_aload dX9_word_102 rfl ?_
            refine q_aload_n dX9_word_104 rfl ?_
            refine u_getr dX9_word_105 fX9_57 rfl rfl (Nat.lt_of_lt_of_le (Nat.le_of_ble_eq_true rfl) hn) (hF 0 8 34 rfl) ?_
            refine q_iload_n dX9_word_108 rfl ?_
            refine q_iload_n dX9_word_109 rfl ?_
            obtain ⟨r7, hr8, h⟩ := q_bd h
            refine c_V0 (as := [_, _, _]) (st := []) (ci := 4) dX9_word_110 okX4_write lX9_258 ⟨rfl, rfl⟩ ⟨Nat.le_of_ble_eq_true rfl, Nat.le_of_ble_eq_true rfl⟩ (by decide) rfl rfl (Nat.lt_of_lt_of_le (Nat.le_of_ble_eq_true rfl) hp) rfl rfl (Nat.le_of_ble_eq_true rfl) (Nat.le_of_ble_eq_true rfl) (t_X4_write hn hF hp hP q_is34 hr8) ?_
            refine q_aload dX9_word_113 rfl ?_
            refine c_V1 (as := []) (st := []) (ci := 4) dX9_word_115 okX4_foundDanger lX9_268 ⟨rfl, rfl⟩ ⟨Nat.le_of_ble_eq_true rfl, Nat.le_of_ble_eq_true rfl⟩ (by decide) rfl rfl (Nat.lt_of_lt_of_le (Nat.le_of_ble_eq_true rfl) hp) rfl rfl (Nat.le_of_ble_eq_true rfl) (Nat.le_of_ble_eq_true rfl) (t_X4_foundDanger hn hF hp hP  rfl) ?_
            cases h
            exact q_iret dX9_word_118 rfl ⟨true, 92, F1, Or.inl ⟨rfl, rfl, hP⟩, hF, hn, rfl, rfl⟩
          · have h := q_it hc h
            refine q_bipush (v := (-5)) dX9_word_99 (by decide) ?_
            cases h
            exact q_iret dX9_word_101 rfl ⟨true, 92, F1, Or.inl ⟨rfl, rfl, hP⟩, hF, hn, rfl, rfl⟩
        · have h := q_if hc h
          refine q_bipush (v := (-2)) dX9_word_46 (by decide) ?_
          cases h
          exact q_iret dX9_word_48 rfl ⟨b, n, F, hst, hF, hn, rfl, rfl⟩
      · have h := q_it hc h
        refine q_bipush (v := (-3)) dX9_word_32 (by decide) ?_
        cases h
        exact q_iret dX9_word_34 rfl ⟨b, n, F, hst, hF, hn, rfl, rfl⟩
    · have h := q_it hc h
      refine q_bipush (v := (-2)) dX9_word_19 (by decide) ?_
      cases h
      exact q_iret dX9_word_21 rfl ⟨b, n, F, hst, hF, hn, rfl, rfl⟩
  · have h := q_it hc h
    refine q_iconst (v := (-1)) dX9_word_7 (by decide) ?_
    cases h
    exact q_iret dX9_word_8 rfl ⟨b, n, F, hst, hF, hn, rfl, rfl⟩
