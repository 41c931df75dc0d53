def f_X9_steer (x1 : Int32) (m : q_Mm) : (Int32 × q_Mm) :=
  if (f_X9_isPlan x1.toInt64 m) = 0 then
    ((-1), m)
  else
    (m.1 0 1, q_wi m 0 1 x1)
set_option maxRecDepth 100000 in
set_option maxHeartbeats 4000000 in
theorem t_X9_steer {g : q_G} {n : Nat} {F : Nat → Nat → Option Nat} (hn : 89 ≤ n) (hF : q_FF F)  {x1 : Int32} {m : q_Mm} {r : Int32 × q_Mm} (h : f_X9_steer x1 m = r) : q_Cn g mX9_steer [q_r g 0, .int x1] (q_mk n F m) (q_Q (some (.int r.1)) (q_mk n F r.2)) := by
  unfold f_X9_steer at h
  show q_V g mX9_steer q_T _ _ _ 0 [(0, q_r g 0), (1, .int x1)] [] (q_mk n F m)
  refine q_iload_n dX9_steer_0 rfl ?_
  refine q_i2l dX9_steer_1 ?_
  refine c_S1 (as := [_]) (st := []) dX9_steer_2 okX9_isPlan lX9_76 ⟨rfl, rfl⟩ ⟨Nat.le_of_ble_eq_true rfl, Nat.le_of_ble_eq_true rfl⟩ rfl rfl (Nat.le_of_ble_eq_true rfl) (Nat.le_of_ble_eq_true rfl) (t_X9_isPlan hn hF  rfl) ?_
  refine q_if_ne 10 dX9_steer_5 (by decide) (fun hc => ?_) (fun hc => ?_)
  · have h := q_if hc h
    refine q_aload_n dX9_steer_10 rfl ?_
    refine u_geti dX9_steer_11 fX9_15 rfl rfl (Nat.lt_of_lt_of_le (Nat.le_of_ble_eq_true rfl) hn) ?_
    refine q_istore_n (ls' := [(0, _), (1, _), (2, _)]) [0, 1, 2] dX9_steer_14 (Nat.le_of_ble_eq_true rfl) rfl ?_
    refine q_aload_n dX9_steer_15 rfl ?_
    refine q_iload_n dX9_steer_16 rfl ?_
    refine u_puti dX9_steer_17 fX9_15 rfl rfl (Nat.lt_of_lt_of_le (Nat.le_of_ble_eq_true rfl) hn) rfl rfl rfl ?_
    refine q_iload_n dX9_steer_20 rfl ?_
    subst h
    exact q_iret dX9_steer_21 rfl ⟨rfl, rfl⟩
  · have h := q_it hc h
    refine q_iconst (v := (-1)) dX9_steer_8 (by decide) ?_
    subst h
    exact q_iret dX9_steer_9 rfl ⟨rfl, rfl⟩
def f_X9_isStart (x0 : Int32) (x1 : Int32) (x2 : Int32) (m : q_Mm) : (Int32) :=
  if (f_X9_within x0 (-100000) 100000 m) = 0 then
    0
  else
    if (f_X9_within x1 (-100000) 100000 m) = 0 then
      0
    else
      if (f_X9_within x2 1 20 m) = 0 then
        0
      else
        1
set_option maxRecDepth 100000 in
set_option maxHeartbeats 4000000 in
theorem t_X9_isStart {g : q_G} {n : Nat} {F : Nat → Nat → Option Nat} (hn : 89 ≤ n) (hF : q_FF F)  {x0 : Int32} {x1 : Int32} {x2 : Int32} {m : q_Mm} {r : Int32} (h : f_X9_isStart x0 x1 x2 m = r) : q_Cn g mX9_isStart [.int x0, .int x1, .int x2] (q_mk n F m) (q_Q (some (.int r)) (q_mk n F m)) := by
  unfold f_X9_isStart at h
  show q_V g mX9_isStart q_T _ _ _ 0 [(0, .int x0), (1, .int x1), (2, .int x2)] [] (q_mk n F m)
  refine q_iload_n dX9_isStart_0 rfl ?_
  refine q_ldcw dX9_isStart_1 kX9_323 ?_
  refine q_ldcw dX9_isStart_4 kX9_324 ?_
  refine c_S1 (as := [_, _, _]) (st := []) dX9_isStart_7 okX9_within lX9_80 ⟨rfl, rfl⟩ ⟨Nat.le_of_ble_eq_true rfl, Nat.le_of_ble_eq_true rfl⟩ rfl rfl (Nat.le_of_ble_eq_true rfl) (Nat.le_of_ble_eq_true rfl) (t_X9_within hn hF  rfl) ?_
  refine q_if_eq 40 dX9_isStart_10 (by decide) (fun hc => ?_) (fun hc => ?_)
  · have h := q_it hc h
    refine q_iconst (v := 0) dX9_isStart_40 (by decide) ?_
    subst h
    exact q_zret dX9_isStart_41 rfl rfl ⟨rfl, rfl⟩
  · have h := q_if hc h
    refine q_iload_n dX9_isStart_13 rfl ?_
    refine q_ldcw dX9_isStart_14 kX9_323 ?_
    refine q_ldcw dX9_isStart_17 kX9_324 ?_
    refine c_S1 (as := [_, _, _]) (st := []) dX9_isStart_20 okX9_within lX9_80 ⟨rfl, rfl⟩ ⟨Nat.le_of_ble_eq_true rfl, Nat.le_of_ble_eq_true rfl⟩ rfl rfl (Nat.le_of_ble_eq_true rfl) (Nat.le_of_ble_eq_true rfl) (t_X9_within hn hF  rfl) ?_
    refine q_if_eq 40 dX9_isStart_23 (by decide) (fun hc => ?_) (fun hc => ?_)
    · have h := q_it hc h
      refine q_iconst (v := 0) dX9_isStart_40 (by decide) ?_
      subst h
      exact q_zret dX9_isStart_41 rfl rfl ⟨rfl, rfl⟩
    · have h := q_if hc h
      refine q_iload_n dX9_isStart_26 rfl ?_
      refine q_iconst (v := 1) dX9_isStart_27 (by decide) ?_
      refine q_bipush (v := 20) dX9_isStart_28 (by decide) ?_
      refine c_S1 (as := [_, _, _]) (st := []) dX9_isStart_30 okX9_within lX9_80 ⟨rfl, rfl⟩ ⟨Nat.le_of_ble_eq_true rfl, Nat.le_of_ble_eq_true rfl⟩ rfl rfl (Nat.le_of_ble_eq_true rfl) (Nat.le_of_ble_eq_true rfl) (t_X9_within hn hF  rfl) ?_
      refine q_if_eq 40 dX9_isStart_33 (by decide) (fun hc => ?_) (fun hc => ?_)
      · have h := q_it hc h
        refine q_iconst (v := 0) dX9_isStart_40 (by decide) ?_
        subst h
        exact q_zret dX9_isStart_41 rfl rfl ⟨rfl, rfl⟩
      · have h := q_if hc h
        refine q_iconst (v := 1) dX9_isStart_36 (by decide) ?_
        refine q_goto 41 dX9_isStart_37 (by decide) ?_
        subst h
        exact q_zret dX9_isStart_41 rfl rfl ⟨rfl, rfl⟩
theorem b_X9_isStart {x0 : Int32} {x1 : Int32} {x2 : Int32} {m : q_Mm} : q_bo (f_X9_isStart x0 x1 x2 m) := by
  unfold f_X9_isStart
  repeat' split
  all_goals first | exact Or.inl rfl | exact Or.inr rfl | exact b_X9_within
def f_X9_ship (x1 : Int32) (x2 : Int32) (x3 : Int32) (x4 : Int32) (m : q_Mm) : Option (Int32 × q_Mm) :=
  if (f_X9_isStart x1 x2 x3 m) = 0 then
    some (((-2), m))
  else
    if (f_X9_within x4 (-5) 5 m) = 0 then
      some (((-2), m))
    else
      if (m.1 3 1) < 9 then
        if q_in (m.1 3 1) 9 = true then
        some ((((q_wi (f_X7_set (5 + 2 * (m.1 3 1).toNatClampNeg) x1 x2 x3 x4 m) 3 1 (((f_X7_set (5 + 2 * (m.1 3 1).toNatClampNeg) x1 x2 x3 x4 m).1 3 1) + 1)).1 3 1) - 1, q_wi (f_X7_set (5 + 2 * (m.1 3 1).toNatClampNeg) x1 x2 x3 x4 m) 3 1 (((f_X7_set (5 + 2 * (m.1 3 1).toNatClampNeg) x1 x2 x3 x4 m).1 3 1) + 1)))
        else none
      else
        some (((-4), m))
set_option maxRecDepth 100000 in
set_option maxHeartbeats 4000000 in
theorem t_X9_ship {g : q_G} {n : Nat} {F : Nat → Nat → Option Nat} (hn : 89 ≤ n) (hF : q_FF F)  {x1 : Int32} {x2 : Int32} {x3 : Int32} {x4 : Int32} {m : q_Mm} {r : Int32 × q_Mm} (h : f_X9_ship x1 x2 x3 x4 m = some r) : q_Cn g mX9_ship [q_r g 0, .int x1, .int x2, .int x3, .int x4] (q_mk n F m) (q_Q (some (.int r.1)) (q_mk n F r.2)) := by
  unfold f_X9_ship at h
  show q_V g mX9_ship q_T _ _ _ 0 [(0, q_r g 0), (1, .int x1), (2, .int x2), (3, .int x3), (4, .int x4)] [] (q_mk n F m)
  refine q_iload_n dX9_ship_0 rfl ?_
  refine q_iload_n dX9_ship_1 rfl ?_
  refine q_iload_n dX9_ship_2 rfl ?_
  refine c_S1 (as := [_, _, _]) (st := []) dX9_ship_3 okX9_isStart lX9_113 ⟨rfl, rfl⟩ ⟨Nat.le_of_ble_eq_true rfl, Nat.le_of_ble_eq_true rfl⟩ rfl rfl (Nat.le_of_ble_eq_true rfl) (Nat.le_of_ble_eq_true rfl) (t_X9_isStart hn hF  rfl) ?_
  refine q_if_eq 20 dX9_ship_6 (by decide) (fun hc => ?_) (fun hc => ?_)
  · have h := q_it hc h
    refine q_bipush (v := (-2)) dX9_ship_20 (by decide) ?_
    cases h
    exact q_iret dX9_ship_22 rfl ⟨rfl, rfl⟩
  · have h := q_if hc h
    refine q_iload dX9_ship_9 rfl ?_
    refine q_bipush (v := (-5)) dX9_ship_11 (by decide) ?_
    refine q_iconst (v := 5) dX9_ship_13 (by decide) ?_
    refine c_S1 (as := [_, _, _]) (st := []) dX9_ship_14 okX9_within lX9_80 ⟨rfl, rfl⟩ ⟨Nat.le_of_ble_eq_true rfl, Nat.le_of_ble_eq_true rfl⟩ rfl rfl (Nat.le_of_ble_eq_true rfl) (Nat.le_of_ble_eq_true rfl) (t_X9_within hn hF  rfl) ?_
    refine q_if_ne 23 dX9_ship_17 (by decide) (fun hc => ?_) (fun hc => ?_)
    · have h := q_if hc h
      refine q_aload_n dX9_ship_23 rfl ?_
      refine u_getr dX9_ship_24 fX9_29 rfl rfl (Nat.lt_of_lt_of_le (Nat.le_of_ble_eq_true rfl) hn) (hF 0 3 3 rfl) ?_
      refine u_geti dX9_ship_27 fX9_116 rfl rfl (Nat.lt_of_lt_of_le (Nat.le_of_ble_eq_true rfl) hn) ?_
      refine q_bipush (v := 9) dX9_ship_30 (by decide) ?_
      refine q_icmp_lt 38 dX9_ship_32 (by decide) (fun hc => ?_) (fun hc => ?_)
      · have h := q_it hc h
        refine q_aload_n dX9_ship_38 rfl ?_
        refine u_getr dX9_ship_39 fX9_29 rfl rfl (Nat.lt_of_lt_of_le (Nat.le_of_ble_eq_true rfl) hn) (hF 0 3 3 rfl) ?_
        refine u_getr dX9_ship_42 fX9_117 rfl rfl (Nat.lt_of_lt_of_le (Nat.le_of_ble_eq_true rfl) hn) (hF 3 0 4 rfl) ?_
        refine q_aload_n dX9_ship_45 rfl ?_
        refine u_getr dX9_ship_46 fX9_29 rfl rfl (Nat.lt_of_lt_of_le (Nat.le_of_ble_eq_true rfl) hn) (hF 0 3 3 rfl) ?_
        refine u_geti dX9_ship_49 fX9_116 rfl rfl (Nat.lt_of_lt_of_le (Nat.le_of_ble_eq_true rfl) hn) ?_
        obtain ⟨hi1, h⟩ := q_is h
        refine u_aald dX9_ship_52 (Or.inr rfl) (Nat.lt_of_lt_of_le (Nat.le_of_ble_eq_true rfl) hn) (q_in_vp hi1) (q_at_shipF hF hi1) ?_
        refine q_iload_n dX9_ship_53 rfl ?_
        refine q_iload_n dX9_ship_54 rfl ?_
        refine q_iload_n dX9_ship_55 rfl ?_
        refine q_iload dX9_ship_56 rfl ?_
        refine c_V0 (as := [_, _, _, _]) (st := []) (ci := 7) dX9_ship_58 okX7_set lX9_121 ⟨rfl, rfl⟩ ⟨Nat.le_of_ble_eq_true rfl, Nat.le_of_ble_eq_true rfl⟩ (by decide) rfl (q_ship_0 (q_at_ship hi1)) (q_lt0 (q_ship_n (q_at_ship hi1) hn)) rfl rfl (Nat.le_of_ble_eq_true rfl) (Nat.le_of_ble_eq_true rfl) (t_X7_set hn hF (q_at_ship hi1) rfl) ?_
        refine q_aload_n dX9_ship_61 rfl ?_
        refine u_getr dX9_ship_62 fX9_29 rfl rfl (Nat.lt_of_lt_of_le (Nat.le_of_ble_eq_true rfl) hn) (hF 0 3 3 rfl) ?_
        refine q_dup dX9_ship_65 rfl ?_
        refine u_geti dX9_ship_66 fX9_116 rfl rfl (Nat.lt_of_lt_of_le (Nat.le_of_ble_eq_true rfl) hn) ?_
        refine q_iconst (v := 1) dX9_ship_69 (by decide) ?_
        refine q_iadd dX9_ship_70 ?_
        refine u_puti dX9_ship_71 fX9_116 rfl rfl (Nat.lt_of_lt_of_le (Nat.le_of_ble_eq_true rfl) hn) rfl rfl rfl ?_
        refine q_aload_n dX9_ship_74 rfl ?_
        refine u_getr dX9_ship_75 fX9_29 rfl rfl (Nat.lt_of_lt_of_le (Nat.le_of_ble_eq_true rfl) hn) (hF 0 3 3 rfl) ?_
        refine u_geti dX9_ship_78 fX9_116 rfl rfl (Nat.lt_of_lt_of_le (Nat.le_of_ble_eq_true rfl) hn) ?_
        refine q_iconst (v := 1) dX9_ship_81 (by decide) ?_
        refine q_isub dX9_ship_82 ?_
        cases h
        exact q_iret dX9_ship_83 rfl ⟨rfl, rfl⟩
      · have h := q_if hc h
        refine q_bipush (v := (-4)) dX9_ship_35 (by decide) ?_
        cases h
        exact q_iret dX9_ship_37 rfl ⟨rfl, rfl⟩
    · have h := q_it hc h
      refine q_bipush (v := (-2)) dX9_ship_20 (by decide) ?_
      cases h
      exact q_iret dX9_ship_22 rfl ⟨rfl, rfl⟩
def f_X9_isShip (x1 : Int32) (m : q_Mm) : (Int32) :=
  (f_X9_within x1 0 ((m.1 3 1) - 1) m)
set_option maxRecDepth 100000 in
set_option maxHeartbeats 4000000 in
theorem t_X9_isShip {g : q_G} {n : Nat} {F : Nat → Nat → Option Nat} (hn : 89 ≤ n) (hF : q_FF F)  {x1 : Int32} {m : q_Mm} {r : Int32} (h : f_X9_isShip x1 m = r) : q_Cn g mX9_isShip [q_r g 0, .int x1] (q_mk n F m) (q_Q (some (.int r)) (q_mk n F m)) := by
  unfold f_X9_isShip at h
  show q_V g mX9_isShip q_T _ _ _ 0 [(0, q_r g 0), (1, .int x1)] [] (q_mk n F m)
  refine q_iload_n dX9_isShip_0 rfl ?_
  refine q_iconst (v := 0) dX9_isShip_1 (by decide) ?_
  refine q_aload_n dX9_isShip_2 rfl ?_
  refine u_getr dX9_isShip_3 fX9_29 rfl rfl (Nat.lt_of_lt_of_le (Nat.le_of_ble_eq_true rfl) hn) (hF 0 3 3 rfl) ?_
  refine u_geti dX9_isShip_6 fX9_116 rfl rfl (Nat.lt_of_lt_of_le (Nat.le_of_ble_eq_true rfl) hn) ?_
  refine q_iconst (v := 1) dX9_isShip_9 (by decide) ?_
  refine q_isub dX9_isShip_10 ?_
  refine c_S1 (as := [_, _, _]) (st := []) dX9_isShip_11 okX9_within lX9_80 ⟨rfl, rfl⟩ ⟨Nat.le_of_ble_eq_true rfl, Nat.le_of_ble_eq_true rfl⟩ rfl rfl (Nat.le_of_ble_eq_true rfl) (Nat.le_of_ble_eq_true rfl) (t_X9_within hn hF  rfl) ?_
  subst h
  exact q_zret dX9_isShip_14 rfl (q_bo_n (b_X9_within ..)) ⟨rfl, rfl⟩
theorem b_X9_isShip {x1 : Int32} {m : q_Mm} : q_bo (f_X9_isShip x1 m) := by
  unfold f_X9_isShip
  repeat' split
  all_goals first | exact Or.inl rfl | exact Or.inr rfl | exact b_X9_within
def f_X9_miss (x1 : Int32) (x2 : Int32) (x3 : Int32) (m : q_Mm) : Option (Int32 × q_Mm) :=
  if (f_X9_isShip x1 m) = 0 then
    some (((-1), m))
  else
    if (f_X9_within x2 0 9 m) = 0 then
      some (((-2), m))
    else
      if (f_X9_within x3 0 11 m) = 0 then
        some (((-2), m))
      else
        if (m.1 3 2) < 20 then
          if q_in x1 9 = true then
          if q_in x2 10 = true then
          if (((m.1 ((5 + 2 * x1.toNatClampNeg) + 1) x2.toNatClampNeg) >>> (x3 &&& 31)) &&& 1) = 1 then
            some (((-5), m))
          else
            if q_in x2 10 = true then
            if q_in x2 10 = true then
            some (((q_wi (q_wi m ((5 + 2 * x1.toNatClampNeg) + 1) x2.toNatClampNeg ((m.1 ((5 + 2 * x1.toNatClampNeg) + 1) x2.toNatClampNeg) ||| ((1 : Int32) <<< (x3 &&& 31)))) 3 2 (((q_wi m ((5 + 2 * x1.toNatClampNeg) + 1) x2.toNatClampNeg ((m.1 ((5 + 2 * x1.toNatClampNeg) + 1) x2.toNatClampNeg) ||| ((1 : Int32) <<< (x3 &&& 31)))).1 3 2) + 1)).1 3 2, q_wi (q_wi m ((5 + 2 * x1.toNatClampNeg) + 1) x2.toNatClampNeg ((m.1 ((5 + 2 * x1.toNatClampNeg) + 1) x2.toNatClampNeg) ||| ((1 : Int32) <<< (x3 &&& 31)))) 3 2 (((q_wi m ((5 + 2 * x1.toNatClampNeg) + 1) x2.toNatClampNeg ((m.1 ((5 + 2 * x1.toNatClampNeg) + 1) x2.toNatClampNeg) ||| ((1 : Int32) <<< (x3 &&& 31)))).1 3 2) + 1)))
            else none
            else none
          else none
          else none
        else
          some (((-4), m))
set_option maxRecDepth 100000 in
set_option maxHeartbeats 4000000 in
theorem t_X9_miss {g : q_G} {n : Nat} {F : Nat → Nat → Option Nat} (hn : 89 ≤ n) (hF : q_FF F)  {x1 : Int32} {x2 : Int32} {x3 : Int32} {m : q_Mm} {r : Int32 × q_Mm} (h : f_X9_miss x1 x2 x3 m = some r) : q_Cn g mX9_miss [q_r g 0, .int x1, .int x2, .int x3] (q_mk n F m) (q_Q (some (.int r.1)) (q_mk n F r.2)) := by
  unfold f_X9_miss at h
  show q_V g mX9_miss q_T _ _ _ 0 [(0, q_r g 0), (1, .int x1), (2, .int x2), (3, .int x3)] [] (q_mk n F m)
  refine q_aload_n dX9_miss_0 rfl ?_
  refine q_iload_n dX9_miss_1 rfl ?_
  refine c_V1 (as := [_]) (st := []) (ci := 9) dX9_miss_2 okX9_isShip lX9_127 ⟨rfl, rfl⟩ ⟨Nat.le_of_ble_eq_true rfl, Nat.le_of_ble_eq_true rfl⟩ (by decide) rfl rfl (Nat.lt_of_lt_of_le (Nat.le_of_ble_eq_true rfl) hn) rfl rfl (Nat.le_of_ble_eq_true rfl) (Nat.le_of_ble_eq_true rfl) (t_X9_isShip hn hF  rfl) ?_
  refine q_if_ne 10 dX9_miss_5 (by decide) (fun hc => ?_) (fun hc => ?_)
  · have h := q_if hc h
    refine q_iload_n dX9_miss_10 rfl ?_
    refine q_iconst (v := 0) dX9_miss_11 (by decide) ?_
    refine q_bipush (v := 9) dX9_miss_12 (by decide) ?_
    refine c_S1 (as := [_, _, _]) (st := []) dX9_miss_14 okX9_within lX9_80 ⟨rfl, rfl⟩ ⟨Nat.le_of_ble_eq_true rfl, Nat.le_of_ble_eq_true rfl⟩ rfl rfl (Nat.le_of_ble_eq_true rfl) (Nat.le_of_ble_eq_true rfl) (t_X9_within hn hF  rfl) ?_
    refine q_if_eq 30 dX9_miss_17 (by decide) (fun hc => ?_) (fun hc => ?_)
    · have h := q_it hc h
      refine q_bipush (v := (-2)) dX9_miss_30 (by decide) ?_
      cases h
      exact q_iret dX9_miss_32 rfl ⟨rfl, rfl⟩
    · have h := q_if hc h
      refine q_iload_n dX9_miss_20 rfl ?_
      refine q_iconst (v := 0) dX9_miss_21 (by decide) ?_
      refine q_bipush (v := 11) dX9_miss_22 (by decide) ?_
      refine c_S1 (as := [_, _, _]) (st := []) dX9_miss_24 okX9_within lX9_80 ⟨rfl, rfl⟩ ⟨Nat.le_of_ble_eq_true rfl, Nat.le_of_ble_eq_true rfl⟩ rfl rfl (Nat.le_of_ble_eq_true rfl) (Nat.le_of_ble_eq_true rfl) (t_X9_within hn hF  rfl) ?_
      refine q_if_ne 33 dX9_miss_27 (by decide) (fun hc => ?_) (fun hc => ?_)
      · have h := q_if hc h
        refine q_aload_n dX9_miss_33 rfl ?_
        refine u_getr dX9_miss_34 fX9_29 rfl rfl (Nat.lt_of_lt_of_le (Nat.le_of_ble_eq_true rfl) hn) (hF 0 3 3 rfl) ?_
        refine u_geti dX9_miss_37 fX9_130 rfl rfl (Nat.lt_of_lt_of_le (Nat.le_of_ble_eq_true rfl) hn) ?_
        refine q_bipush (v := 20) dX9_miss_40 (by decide) ?_
        refine q_icmp_lt 48 dX9_miss_42 (by decide) (fun hc => ?_) (fun hc => ?_)
        · have h := q_it hc h
          refine q_aload_n dX9_miss_48 rfl ?_
          refine u_getr dX9_miss_49 fX9_29 rfl rfl (Nat.lt_of_lt_of_le (Nat.le_of_ble_eq_true rfl) hn) (hF 0 3 3 rfl) ?_
          refine u_getr dX9_miss_52 fX9_117 rfl rfl (Nat.lt_of_lt_of_le (Nat.le_of_ble_eq_true rfl) hn) (hF 3 0 4 rfl) ?_
          refine q_iload_n dX9_miss_55 rfl ?_
          obtain ⟨hi1, h⟩ := q_is h
          refine u_aald dX9_miss_56 (Or.inr rfl) (Nat.lt_of_lt_of_le (Nat.le_of_ble_eq_true rfl) hn) (q_in_vp hi1) (q_at_shipF hF hi1) ?_
          refine u_getr dX9_miss_57 fX9_133 rfl (q_ship_0 (q_at_ship hi1)) (q_lt0 (q_ship_n (q_at_ship hi1) hn)) (q_ship_F1 hF (q_at_ship hi1)) ?_
          refine q_astore (ls' := [(0, _), (2, _), (3, _), (4, _)]) [0, 2, 3, 4] dX9_miss_60 (Nat.le_of_ble_eq_true rfl) rfl ?_
          refine q_aload dX9_miss_62 rfl ?_
          refine q_iload_n dX9_miss_64 rfl ?_
          obtain ⟨hi2, h⟩ := q_is h
          refine u_iald dX9_miss_65 (q_ship_1 (q_at_ship hi1)) (q_lt1 (q_ship_n (q_at_ship hi1) hn)) (q_in_vp hi2) ?_
          refine q_iload_n dX9_miss_66 rfl ?_
          refine q_ishr dX9_miss_67 ?_
          refine q_iconst (v := 1) dX9_miss_68 (by decide) ?_
          refine q_iand dX9_miss_69 ?_
          refine q_iconst (v := 1) dX9_miss_70 (by decide) ?_
          refine q_icmp_ne 77 dX9_miss_71 (by decide) (fun hc => ?_) (fun hc => ?_)
          · have h := q_if hc h
            refine q_aload dX9_miss_77 rfl ?_
            refine q_iload_n dX9_miss_79 rfl ?_
            refine q_dup2 dX9_miss_80 rfl rfl ?_
            obtain ⟨hi3, h⟩ := q_is h
            refine u_iald dX9_miss_81 (q_ship_1 (q_at_ship hi1)) (q_lt1 (q_ship_n (q_at_ship hi1) hn)) (q_in_vp hi3) ?_
            refine q_iconst (v := 1) dX9_miss_82 (by decide) ?_
            refine q_iload_n dX9_miss_83 rfl ?_
            refine q_ishl dX9_miss_84 ?_
            refine q_ior dX9_miss_85 ?_
            obtain ⟨hi4, h⟩ := q_is h
            refine u_iast dX9_miss_86 (q_ship_1 (q_at_ship hi1)) (q_lt1 (q_ship_n (q_at_ship hi1) hn)) (q_in_vp hi4) ?_
            refine q_aload_n dX9_miss_87 rfl ?_
            refine u_getr dX9_miss_88 fX9_29 rfl rfl (Nat.lt_of_lt_of_le (Nat.le_of_ble_eq_true rfl) hn) (hF 0 3 3 rfl) ?_
            refine q_dup dX9_miss_91 rfl ?_
            refine u_geti dX9_miss_92 fX9_130 rfl rfl (Nat.lt_of_lt_of_le (Nat.le_of_ble_eq_true rfl) hn) ?_
            refine q_iconst (v := 1) dX9_miss_95 (by decide) ?_
            refine q_iadd dX9_miss_96 ?_
            refine u_puti dX9_miss_97 fX9_130 rfl rfl (Nat.lt_of_lt_of_le (Nat.le_of_ble_eq_true rfl) hn) rfl rfl rfl ?_
            refine q_aload_n dX9_miss_100 rfl ?_
            refine u_getr dX9_miss_101 fX9_29 rfl rfl (Nat.lt_of_lt_of_le (Nat.le_of_ble_eq_true rfl) hn) (hF 0 3 3 rfl) ?_
            refine u_geti dX9_miss_104 fX9_130 rfl rfl (Nat.lt_of_lt_of_le (Nat.le_of_ble_eq_true rfl) hn) ?_
            cases h
            exact q_iret dX9_miss_107 rfl ⟨rfl, rfl⟩
          · have h := q_it hc h
            refine q_bipush (v := (-5)) dX9_miss_74 (by decide) ?_
            cases h
            exact q_iret dX9_miss_76 rfl ⟨rfl, rfl⟩
        · have h := q_if hc h
          refine q_bipush (v := (-4)) dX9_miss_45 (by decide) ?_
          cases h
          exact q_iret dX9_miss_47 rfl ⟨rfl, rfl⟩
      · have h := q_it hc h
        refine q_bipush (v := (-2)) dX9_miss_30 (by decide) ?_
        cases h
        exact q_iret dX9_miss_32 rfl ⟨rfl, rfl⟩
  · have h := q_it hc h
    refine q_iconst (v := (-1)) dX9_miss_8 (by decide) ?_
    cases h
    exact q_iret dX9_miss_9 rfl ⟨rfl, rfl⟩
def f_X9_fog (x1 : Int32) (x2 : Int32) (m : q_Mm) : (Int32 × q_Mm) :=
  if (f_X9_within x1 0 600 m) = 0 then
    ((-2), m)
  else
    if (f_X9_within x2 x1 600 m) = 0 then
      ((-2), m)
    else
      (1, q_wi (q_wi m 2 0 x1) 2 1 x2)
set_option maxRecDepth 100000 in
set_option maxHeartbeats 4000000 in
theorem t_X9_fog {g : q_G} {n : Nat} {F : Nat → Nat → Option Nat} (hn : 89 ≤ n) (hF : q_FF F)  {x1 : Int32} {x2 : Int32} {m : q_Mm} {r : Int32 × q_Mm} (h : f_X9_fog x1 x2 m = r) : q_Cn g mX9_fog [q_r g 0, .int x1, .int x2] (q_mk n F m) (q_Q (some (.int r.1)) (q_mk n F r.2)) := by
  unfold f_X9_fog at h
  show q_V g mX9_fog q_T _ _ _ 0 [(0, q_r g 0), (1, .int x1), (2, .int x2)] [] (q_mk n F m)
  refine q_iload_n dX9_fog_0 rfl ?_
  refine q_iconst (v := 0) dX9_fog_1 (by decide) ?_
  refine q_sipush (v := 600) dX9_fog_2 (by decide) ?_
  refine c_S1 (as := [_, _, _]) (st := []) dX9_fog_5 okX9_within lX9_80 ⟨rfl, rfl⟩ ⟨Nat.le_of_ble_eq_true rfl, Nat.le_of_ble_eq_true rfl⟩ rfl rfl (Nat.le_of_ble_eq_true rfl) (Nat.le_of_ble_eq_true rfl) (t_X9_within hn hF  rfl) ?_
  refine q_if_eq 22 dX9_fog_8 (by decide) (fun hc => ?_) (fun hc => ?_)
  · have h := q_it hc h
    refine q_bipush (v := (-2)) dX9_fog_22 (by decide) ?_
    subst h
    exact q_iret dX9_fog_24 rfl ⟨rfl, rfl⟩
  · have h := q_if hc h
    refine q_iload_n dX9_fog_11 rfl ?_
    refine q_iload_n dX9_fog_12 rfl ?_
    refine q_sipush (v := 600) dX9_fog_13 (by decide) ?_
    refine c_S1 (as := [_, _, _]) (st := []) dX9_fog_16 okX9_within lX9_80 ⟨rfl, rfl⟩ ⟨Nat.le_of_ble_eq_true rfl, Nat.le_of_ble_eq_true rfl⟩ rfl rfl (Nat.le_of_ble_eq_true rfl) (Nat.le_of_ble_eq_true rfl) (t_X9_within hn hF  rfl) ?_
    refine q_if_ne 25 dX9_fog_19 (by decide) (fun hc => ?_) (fun hc => ?_)
    · have h := q_if hc h
      refine q_aload_n dX9_fog_25 rfl ?_
      refine u_getr dX9_fog_26 fX9_22 rfl rfl (Nat.lt_of_lt_of_le (Nat.le_of_ble_eq_true rfl) hn) (hF 0 2 2 rfl) ?_
      refine q_iload_n dX9_fog_29 rfl ?_
      refine u_puti dX9_fog_30 fX9_136 rfl rfl (Nat.lt_of_lt_of_le (Nat.le_of_ble_eq_true rfl) hn) rfl rfl rfl ?_
      refine q_aload_n dX9_fog_33 rfl ?_
      refine u_getr dX9_fog_34 fX9_22 rfl rfl (Nat.lt_of_lt_of_le (Nat.le_of_ble_eq_true rfl) hn) (hF 0 2 2 rfl) ?_
      refine q_iload_n dX9_fog_37 rfl ?_
      refine u_puti dX9_fog_38 fX9_139 rfl rfl (Nat.lt_of_lt_of_le (Nat.le_of_ble_eq_true rfl) hn) rfl rfl rfl ?_
      refine q_iconst (v := 1) dX9_fog_41 (by decide) ?_
      subst h
      exact q_iret dX9_fog_42 rfl ⟨rfl, rfl⟩
    · have h := q_it hc h
      refine q_bipush (v := (-2)) dX9_fog_22 (by decide) ?_
      subst h
      exact q_iret dX9_fog_24 rfl ⟨rfl, rfl⟩
def l_X9_place_55 : Nat → Nat → Int32 → Int32 → Int32 → q_Mm → Option (q_Mm)
  | 0, _, _, _, _, _ => none
  | k + 1, b4, y2, y3, y5, m =>
    if y2 ≤ y5 then
      some (m)
    else
      if q_in (m.1 0 1) 4 = true then
      (f_X7_move b4 (46 + 3 * (m.1 0 1).toNatClampNeg) y5 m).bind fun r3 =>
      l_X9_place_55 k b4 y2 y3 (y5 + 1) r3
      else none
set_option maxRecDepth 100000 in
set_option maxHeartbeats 4000000 in
theorem t_l_X9_place_55 {g : q_G} {n : Nat} {F : Nat → Nat → Option Nat} {Z : List Frame → Array Value → State → State → Prop} {kc ks : Nat} (hn : 89 ≤ n) (hF : q_FF F) {b4 : Nat} (hb4 : q_isShip b4) : ∀ (k : Nat) (y2 : Int32) (y3 : Int32) (y5 : Int32) (m : q_Mm) {r : q_Mm}, l_X9_place_55 k b4 y2 y3 y5 m = some r → (q_V g mX9_place q_T Z kc ks 87 [(3, .int y3), (4, q_r g b4)] [] (q_mk n F r)) → q_V g mX9_place q_T Z kc ks 55 [(0, q_r g 0), (2, .int y2), (3, .int y3), (4, q_r g b4), (5, .int y5)] [] (q_mk n F m) := by
  intro k
  induction k with
  | zero => intro y2 y3 y5 m r h; cases h
  | succ k ih =>
    intro y2 y3 y5 m r h hx0
    unfold l_X9_place_55 at h
    refine q_iload dX9_place_55 rfl ?_
    refine q_iload_n dX9_place_57 rfl ?_
    refine q_icmp_ge 87 dX9_place_58 (by decide) (fun hc => ?_) (fun hc => ?_)
    · have h := q_it hc h
      refine q_drop [3, 4] (ls' := [(3, _), (4, _)]) rfl ?_
      cases h
      exact hx0
    · have h := q_if hc h
      refine q_aload dX9_place_61 rfl ?_
      refine q_aload_n dX9_place_63 rfl ?_
      refine u_getr dX9_place_64 fX9_11 rfl rfl (Nat.lt_of_lt_of_le (Nat.le_of_ble_eq_true rfl) hn) (hF 0 0 1 rfl) ?_
      refine q_aload_n dX9_place_67 rfl ?_
      refine u_geti dX9_place_68 fX9_15 rfl rfl (Nat.lt_of_lt_of_le (Nat.le_of_ble_eq_true rfl) hn) ?_
      obtain ⟨hi2, h⟩ := q_is h
      refine u_aald dX9_place_71 (Or.inl rfl) (Nat.lt_of_lt_of_le (Nat.le_of_ble_eq_true rfl) hn) (q_in_vp hi2) (q_at_planF hF hi2) ?_
      refine q_aload_n dX9_place_72 rfl ?_
      refine u_getr dX9_place_73 fX9_22 rfl rfl (Nat.lt_of_lt_of_le (Nat.le_of_ble_eq_true rfl) hn) (hF 0 2 2 rfl) ?_
      refine q_iload dX9_place_76 rfl ?_
      obtain ⟨r3, hr4, h⟩ := q_bd h
      refine c_V0 (as := [_, _, _]) (st := []) (ci := 7) dX9_place_78 okX7_move lX9_145 ⟨rfl, rfl⟩ ⟨Nat.le_of_ble_eq_true rfl, Nat.le_of_ble_eq_true rfl⟩ (by decide) rfl (q_ship_0 hb4) (q_lt0 (q_ship_n hb4 hn)) rfl rfl (Nat.le_of_ble_eq_true rfl) (Nat.le_of_ble_eq_true rfl) (t_X7_move hn hF hb4 (q_at_plan hi2) hr4) ?_
      refine q_iinc1 (w := 1) (ls' := [(0, _), (2, _), (3, _), (4, _), (5, _)]) [0, 2, 3, 4, 5] dX9_place_81 rfl (by decide) (Nat.le_of_ble_eq_true rfl) rfl ?_
      refine q_goto 55 dX9_place_84 (by decide) ?_
      exact ih _ _ _ _ h hx0
def f_X9_place (x1 : Int32) (x2 : Int32) (x3 : Int32) (m : q_Mm) : Option (Int64 × q_Mm) :=
  if (f_X9_isShip x1 m) = 0 then
    some (((-1000000000001), m))
  else
    if (f_X9_within x2 0 600 m) = 0 then
      some (((-1000000000002), m))
    else
      if (f_X9_within x3 0 1 m) = 0 then
        some (((-1000000000002), m))
      else
        if q_in x1 9 = true then
        (l_X9_place_55 7000 (5 + 2 * x1.toNatClampNeg) x2 x3 0 (f_X7_begin (5 + 2 * x1.toNatClampNeg) m)).bind fun r5 =>
        if x3 = 0 then
          some ((r5.2 (5 + 2 * x1.toNatClampNeg) 5, r5))
        else
          some ((r5.2 (5 + 2 * x1.toNatClampNeg) 6, r5))
        else none
set_option maxRecDepth 100000 in
set_option maxHeartbeats 4000000 in
theorem t_X9_place {g : q_G} {n : Nat} {F : Nat → Nat → Option Nat} (hn : 89 ≤ n) (hF : q_FF F)  {x1 : Int32} {x2 : Int32} {x3 : Int32} {m : q_Mm} {r : Int64 × q_Mm} (h : f_X9_place x1 x2 x3 m = some r) : q_Cn g mX9_place [q_r g 0, .int x1, .int x2, .int x3] (q_mk n F m) (q_Q (some (.long r.1)) (q_mk n F r.2)) := by
  unfold f_X9_place at h
  show q_V g mX9_place q_T _ _ _ 0 [(0, q_r g 0), (1, .int x1), (2, .int x2), (3, .int x3)] [] (q_mk n F m)
  refine q_aload_n dX9_place_0 rfl ?_
  refine q_iload_n dX9_place_1 rfl ?_
  refine c_V1 (as := [_]) (st := []) (ci := 9) dX9_place_2 okX9_isShip lX9_127 ⟨rfl, rfl⟩ ⟨Nat.le_of_ble_eq_true rfl, Nat.le_of_ble_eq_true rfl⟩ (by decide) rfl rfl (Nat.lt_of_lt_of_le (Nat.le_of_ble_eq_true rfl) hn) rfl rfl (Nat.le_of_ble_eq_true rfl) (Nat.le_of_ble_eq_true rfl) (t_X9_isShip hn hF  rfl) ?_
  refine q_if_ne 12 dX9_place_5 (by decide) (fun hc => ?_) (fun hc => ?_)
  · have h := q_if hc h
    refine q_iload_n dX9_place_12 rfl ?_
    refine q_iconst (v := 0) dX9_place_13 (by decide) ?_
    refine q_sipush (v := 600) dX9_place_14 (by decide) ?_
    refine c_S1 (as := [_, _, _]) (st := []) dX9_place_17 okX9_within lX9_80 ⟨rfl, rfl⟩ ⟨Nat.le_of_ble_eq_true rfl, Nat.le_of_ble_eq_true rfl⟩ rfl rfl (Nat.le_of_ble_eq_true rfl) (Nat.le_of_ble_eq_true rfl) (t_X9_within hn hF  rfl) ?_
    refine q_if_eq 32 dX9_place_20 (by decide) (fun hc => ?_) (fun hc => ?_)
    · have h := q_it hc h
      refine q_ldc2 dX9_place_32 kX9_107 ?_
      cases h
      exact q_lret dX9_place_35 rfl ⟨rfl, rfl⟩
    · have h := q_if hc h
      refine q_iload_n dX9_place_23 rfl ?_
      refine q_iconst (v := 0) dX9_place_24 (by decide) ?_
      refine q_iconst (v := 1) dX9_place_25 (by decide) ?_
      refine c_S1 (as := [_, _, _]) (st := []) dX9_place_26 okX9_within lX9_80 ⟨rfl, rfl⟩ ⟨Nat.le_of_ble_eq_true rfl, Nat.le_of_ble_eq_true rfl⟩ rfl rfl (Nat.le_of_ble_eq_true rfl) (Nat.le_of_ble_eq_true rfl) (t_X9_within hn hF  rfl) ?_
      refine q_if_ne 36 dX9_place_29 (by decide) (fun hc => ?_) (fun hc => ?_)
      · have h := q_if hc h
        refine q_aload_n dX9_place_36 rfl ?_
        refine u_getr dX9_place_37 fX9_29 rfl rfl (Nat.lt_of_lt_of_le (Nat.le_of_ble_eq_true rfl) hn) (hF 0 3 3 rfl) ?_
        refine u_getr dX9_place_40 fX9_117 rfl rfl (Nat.lt_of_lt_of_le (Nat.le_of_ble_eq_true rfl) hn) (hF 3 0 4 rfl) ?_
        refine q_iload_n dX9_place_43 rfl ?_
        obtain ⟨hi1, h⟩ := q_is h
        refine u_aald dX9_place_44 (Or.inr rfl) (Nat.lt_of_lt_of_le (Nat.le_of_ble_eq_true rfl) hn) (q_in_vp hi1) (q_at_shipF hF hi1) ?_
        refine q_astore (ls' := [(0, _), (2, _), (3, _), (4, _)]) [0, 2, 3, 4] dX9_place_45 (Nat.le_of_ble_eq_true rfl) rfl ?_
        refine q_aload dX9_place_47 rfl ?_
        refine c_V0 (as := []) (st := []) (ci := 7) dX9_place_49 okX7_begin lX9_142 ⟨rfl, rfl⟩ ⟨Nat.le_of_ble_eq_true rfl, Nat.le_of_ble_eq_true rfl⟩ (by decide) rfl (q_ship_0 (q_at_ship hi1)) (q_lt0 (q_ship_n (q_at_ship hi1) hn)) rfl rfl (Nat.le_of_ble_eq_true rfl) (Nat.le_of_ble_eq_true rfl) (t_X7_begin hn hF (q_at_ship hi1) rfl) ?_
        refine q_iconst (v := 0) dX9_place_52 (by decide) ?_
        refine q_istore (ls' := [(0, _), (2, _), (3, _), (4, _), (5, _)]) [0, 2, 3, 4, 5] dX9_place_53 (Nat.le_of_ble_eq_true rfl) rfl ?_
        obtain ⟨r5, hr6, h⟩ := q_bd h
        refine t_l_X9_place_55 hn hF (q_at_ship hi1) 7000 _ _ _ _ hr6 ?_
        refine q_iload_n dX9_place_87 rfl ?_
        refine q_if_ne 99 dX9_place_88 (by decide) (fun hc => ?_) (fun hc => ?_)
        · have h := q_if hc h
          refine q_aload dX9_place_99 rfl ?_
          refine u_getl dX9_place_101 fX9_153 rfl (q_ship_0 (q_at_ship hi1)) (q_lt0 (q_ship_n (q_at_ship hi1) hn)) ?_
          cases h
          exact q_lret dX9_place_104 rfl ⟨rfl, rfl⟩
        · have h := q_it hc h
          refine q_aload dX9_place_91 rfl ?_
          refine u_getl dX9_place_93 fX9_149 rfl (q_ship_0 (q_at_ship hi1)) (q_lt0 (q_ship_n (q_at_ship hi1) hn)) ?_
          refine q_goto 104 dX9_place_96 (by decide) ?_
          cases h
          exact q_lret dX9_place_104 rfl ⟨rfl, rfl⟩
      · have h := q_it hc h
        refine q_ldc2 dX9_place_32 kX9_107 ?_
        cases h
        exact q_lret dX9_place_35 rfl ⟨rfl, rfl⟩
  · have h := q_it hc h
    refine q_ldc2 dX9_place_8 kX9_105 ?_
    cases h
    exact q_lret dX9_place_11 rfl ⟨rfl, rfl⟩
def f_X9_nearest (x1 : Int32) (x2 : Int32) (m : q_Mm) : Option (Int64 × q_Mm) :=
  if (f_X9_within x1 0 600 m) = 0 then
    some (((-1000000000002), m))
  else
    if (f_X9_within x2 0 3 m) = 0 then
      some (((-1000000000002), m))
    else
      if 2 ≤ (m.1 3 1) then
        if q_in (m.1 0 1) 4 = true then
        (f_X0_findNearest (46 + 3 * (m.1 0 1).toNatClampNeg) x1 m).bind fun r2 =>
        if x2 = 0 then
          some ((r2.2 3 5, r2))
        else
        if x2 = 1 then
          some (((r2.1 3 6).toInt64, r2))
        else
        if x2 = 2 then
          some (((r2.1 3 7).toInt64, r2))
        else
        some (((r2.1 3 8).toInt64, r2))
        else none
      else
        some (((-1000000000003), m))
set_option maxRecDepth 100000 in
set_option maxHeartbeats 4000000 in
theorem t_X9_nearest {g : q_G} {n : Nat} {F : Nat → Nat → Option Nat} (hn : 89 ≤ n) (hF : q_FF F)  {x1 : Int32} {x2 : Int32} {m : q_Mm} {r : Int64 × q_Mm} (h : f_X9_nearest x1 x2 m = some r) : q_Cn g mX9_nearest [q_r g 0, .int x1, .int x2] (q_mk n F m) (q_Q (some (.long r.1)) (q_mk n F r.2)) := by
  unfold f_X9_nearest at h
  show q_V g mX9_nearest q_T _ _ _ 0 [(0, q_r g 0), (1, .int x1), (2, .int x2)] [] (q_mk n F m)
  refine q_iload_n dX9_nearest_0 rfl ?_
  refine q_iconst (v := 0) dX9_nearest_1 (by decide) ?_
  refine q_sipush (v := 600) dX9_nearest_2 (by decide) ?_
  refine c_S1 (as := [_, _, _]) (st := []) dX9_nearest_5 okX9_within lX9_80 ⟨rfl, rfl⟩ ⟨Nat.le_of_ble_eq_true rfl, Nat.le_of_ble_eq_true rfl⟩ rfl rfl (Nat.le_of_ble_eq_true rfl) (Nat.le_of_ble_eq_true rfl) (t_X9_within hn hF  rfl) ?_
  refine q_if_eq 20 dX9_nearest_8 (by decide) (fun hc => ?_) (fun hc => ?_)
  · have h := q_it hc h
    refine q_ldc2 dX9_nearest_20 kX9_107 ?_
    cases h
    exact q_lret dX9_nearest_23 rfl ⟨rfl, rfl⟩
  · have h := q_if hc h
    refine q_iload_n dX9_nearest_11 rfl ?_
    refine q_iconst (v := 0) dX9_nearest_12 (by decide) ?_
    refine q_iconst (v := 3) dX9_nearest_13 (by decide) ?_
    refine c_S1 (as := [_, _, _]) (st := []) dX9_nearest_14 okX9_within lX9_80 ⟨rfl, rfl⟩ ⟨Nat.le_of_ble_eq_true rfl, Nat.le_of_ble_eq_true rfl⟩ rfl rfl (Nat.le_of_ble_eq_true rfl) (Nat.le_of_ble_eq_true rfl) (t_X9_within hn hF  rfl) ?_
    refine q_if_ne 24 dX9_nearest_17 (by decide) (fun hc => ?_) (fun hc => ?_)
    · have h := q_if hc h
      refine q_aload_n dX9_nearest_24 rfl ?_
      refine u_getr dX9_nearest_25 fX9_29 rfl rfl (Nat.lt_of_lt_of_le (Nat.le_of_ble_eq_true rfl) hn) (hF 0 3 3 rfl) ?_
      refine u_geti dX9_nearest_28 fX9_116 rfl rfl (Nat.lt_of_lt_of_le (Nat.le_of_ble_eq_true rfl) hn) ?_
      refine q_iconst (v := 2) dX9_nearest_31 (by decide) ?_
      refine q_icmp_ge 39 dX9_nearest_32 (by decide) (fun hc => ?_) (fun hc => ?_)
      · have h := q_it hc h
        refine q_aload_n dX9_nearest_39 rfl ?_
        refine u_getr dX9_nearest_40 fX9_29 rfl rfl (Nat.lt_of_lt_of_le (Nat.le_of_ble_eq_true rfl) hn) (hF 0 3 3 rfl) ?_
        refine q_aload_n dX9_nearest_43 rfl ?_
        refine u_getr dX9_nearest_44 fX9_11 rfl rfl (Nat.lt_of_lt_of_le (Nat.le_of_ble_eq_true rfl) hn) (hF 0 0 1 rfl) ?_
        refine q_aload_n dX9_nearest_47 rfl ?_
        refine u_geti dX9_nearest_48 fX9_15 rfl rfl (Nat.lt_of_lt_of_le (Nat.le_of_ble_eq_true rfl) hn) ?_
        obtain ⟨hi1, h⟩ := q_is h
        refine u_aald dX9_nearest_51 (Or.inl rfl) (Nat.lt_of_lt_of_le (Nat.le_of_ble_eq_true rfl) hn) (q_in_vp hi1) (q_at_planF hF hi1) ?_
        refine q_aload_n dX9_nearest_52 rfl ?_
        refine u_getr dX9_nearest_53 fX9_22 rfl rfl (Nat.lt_of_lt_of_le (Nat.le_of_ble_eq_true rfl) hn) (hF 0 2 2 rfl) ?_
        refine q_iload_n dX9_nearest_56 rfl ?_
        obtain ⟨r2, hr3, h⟩ := q_bd h
        refine c_V0 (as := [_, _, _]) (st := []) (ci := 0) dX9_nearest_57 okX0_findNearest lX9_158 ⟨rfl, rfl⟩ ⟨Nat.le_of_ble_eq_true rfl, Nat.le_of_ble_eq_true rfl⟩ (by decide) rfl rfl (Nat.lt_of_lt_of_le (Nat.le_of_ble_eq_true rfl) hn) rfl rfl (Nat.le_of_ble_eq_true rfl) (Nat.le_of_ble_eq_true rfl) (t_X0_findNearest hn hF (q_at_plan hi1) hr3) ?_
        refine q_iload_n dX9_nearest_60 rfl ?_
        by_cases hs61_0 : x2 = 0
        · have h := q_it hs61_0 h
          rw [hs61_0]
          refine q_tblIn 88 dX9_nearest_61 (by decide) (by decide) rfl (by decide) ?_
          refine q_aload_n dX9_nearest_88 rfl ?_
          refine u_getr dX9_nearest_89 fX9_29 rfl rfl (Nat.lt_of_lt_of_le (Nat.le_of_ble_eq_true rfl) hn) (hF 0 3 3 rfl) ?_
          refine u_getl dX9_nearest_92 fX9_161 rfl rfl (Nat.lt_of_lt_of_le (Nat.le_of_ble_eq_true rfl) hn) ?_
          cases h
          exact q_lret dX9_nearest_95 rfl ⟨rfl, rfl⟩
        have h := q_if hs61_0 h
        by_cases hs61_1 : x2 = 1
        · have h := q_it hs61_1 h
          rw [hs61_1]
          refine q_tblIn 96 dX9_nearest_61 (by decide) (by decide) rfl (by decide) ?_
          refine q_aload_n dX9_nearest_96 rfl ?_
          refine u_getr dX9_nearest_97 fX9_29 rfl rfl (Nat.lt_of_lt_of_le (Nat.le_of_ble_eq_true rfl) hn) (hF 0 3 3 rfl) ?_
          refine u_geti dX9_nearest_100 fX9_164 rfl rfl (Nat.lt_of_lt_of_le (Nat.le_of_ble_eq_true rfl) hn) ?_
          refine q_i2l dX9_nearest_103 ?_
          cases h
          exact q_lret dX9_nearest_104 rfl ⟨rfl, rfl⟩
        have h := q_if hs61_1 h
        by_cases hs61_2 : x2 = 2
        · have h := q_it hs61_2 h
          rw [hs61_2]
          refine q_tblIn 105 dX9_nearest_61 (by decide) (by decide) rfl (by decide) ?_
          refine q_aload_n dX9_nearest_105 rfl ?_
          refine u_getr dX9_nearest_106 fX9_29 rfl rfl (Nat.lt_of_lt_of_le (Nat.le_of_ble_eq_true rfl) hn) (hF 0 3 3 rfl) ?_
          refine u_geti dX9_nearest_109 fX9_167 rfl rfl (Nat.lt_of_lt_of_le (Nat.le_of_ble_eq_true rfl) hn) ?_
          refine q_i2l dX9_nearest_112 ?_
          cases h
          exact q_lret dX9_nearest_113 rfl ⟨rfl, rfl⟩
        have h := q_if hs61_2 h
        refine q_tblOut 114 dX9_nearest_61 (q_out 3 (by decide) (fun k hk => ?_)) (by decide) ?_
        · match k, hk with
          | 0, _ => exact hs61_0
          | 1, _ => exact hs61_1
          | 2, _ => exact hs61_2
          | k + 3, hk => exact absurd hk (by omega)
        refine q_aload_n dX9_nearest_114 rfl ?_
        refine u_getr dX9_nearest_115 fX9_29 rfl rfl (Nat.lt_of_lt_of_le (Nat.le_of_ble_eq_true rfl) hn) (hF 0 3 3 rfl) ?_
        refine u_geti dX9_nearest_118 fX9_170 rfl rfl (Nat.lt_of_lt_of_le (Nat.le_of_ble_eq_true rfl) hn) ?_
        refine q_i2l dX9_nearest_121 ?_
        cases h
        exact q_lret dX9_nearest_122 rfl ⟨rfl, rfl⟩
      · have h := q_if hc h
        refine q_ldc2 dX9_nearest_35 kX9_156 ?_
        cases h
        exact q_lret dX9_nearest_38 rfl ⟨rfl, rfl⟩
    · have h := q_it hc h
      refine q_ldc2 dX9_nearest_20 kX9_107 ?_
      cases h
      exact q_lret dX9_nearest_23 rfl ⟨rfl, rfl⟩
def f_X9_close (x1 : Int32) (x2 : Int32) (m : q_Mm) : Option (Int32 × q_Mm) :=
  if (f_X9_within x1 0 600 m) = 0 then
    some (((-2), m))
  else
    if (f_X9_within x2 0 1000000 m) = 0 then
      some (((-2), m))
    else
      if q_in (m.1 0 1) 4 = true then
      (f_X0_minutesNearer (46 + 3 * (m.1 0 1).toNatClampNeg) x1 x2 m).bind fun r2 =>
      some ((r2.1, r2.2))
      else none
set_option maxRecDepth 100000 in
set_option maxHeartbeats 4000000 in
theorem t_X9_close {g : q_G} {n : Nat} {F : Nat → Nat → Option Nat} (hn : 89 ≤ n) (hF : q_FF F)  {x1 : Int32} {x2 : Int32} {m : q_Mm} {r : Int32 × q_Mm} (h : f_X9_close x1 x2 m = some r) : q_Cn g mX9_close [q_r g 0, .int x1, .int x2] (q_mk n F m) (q_Q (some (.int r.1)) (q_mk n F r.2)) := by
  unfold f_X9_close at h
  show q_V g mX9_close q_T _ _ _ 0 [(0, q_r g 0), (1, .int x1), (2, .int x2)] [] (q_mk n F m)
  refine q_iload_n dX9_close_0 rfl ?_
  refine q_iconst (v := 0) dX9_close_1 (by decide) ?_
  refine q_sipush (v := 600) dX9_close_2 (by decide) ?_
  refine c_S1 (as := [_, _, _]) (st := []) dX9_close_5 okX9_within lX9_80 ⟨rfl, rfl⟩ ⟨Nat.le_of_ble_eq_true rfl, Nat.le_of_ble_eq_true rfl⟩ rfl rfl (Nat.le_of_ble_eq_true rfl) (Nat.le_of_ble_eq_true rfl) (t_X9_within hn hF  rfl) ?_
  refine q_if_eq 21 dX9_close_8 (by decide) (fun hc => ?_) (fun hc => ?_)
  · have h := q_it hc h
    refine q_bipush (v := (-2)) dX9_close_21 (by decide) ?_
    cases h
    exact q_iret dX9_close_23 rfl ⟨rfl, rfl⟩
  · have h := q_if hc h
    refine q_iload_n dX9_close_11 rfl ?_
    refine q_iconst (v := 0) dX9_close_12 (by decide) ?_
    refine q_ldc dX9_close_13 kX9_173 ?_
    refine c_S1 (as := [_, _, _]) (st := []) dX9_close_15 okX9_within lX9_80 ⟨rfl, rfl⟩ ⟨Nat.le_of_ble_eq_true rfl, Nat.le_of_ble_eq_true rfl⟩ rfl rfl (Nat.le_of_ble_eq_true rfl) (Nat.le_of_ble_eq_true rfl) (t_X9_within hn hF  rfl) ?_
    refine q_if_ne 24 dX9_close_18 (by decide) (fun hc => ?_) (fun hc => ?_)
    · have h := q_if hc h
      refine q_aload_n dX9_close_24 rfl ?_
      refine u_getr dX9_close_25 fX9_29 rfl rfl (Nat.lt_of_lt_of_le (Nat.le_of_ble_eq_true rfl) hn) (hF 0 3 3 rfl) ?_
      refine q_aload_n dX9_close_28 rfl ?_
      refine u_getr dX9_close_29 fX9_11 rfl rfl (Nat.lt_of_lt_of_le (Nat.le_of_ble_eq_true rfl) hn) (hF 0 0 1 rfl) ?_
      refine q_aload_n dX9_close_32 rfl ?_
      refine u_geti dX9_close_33 fX9_15 rfl rfl (Nat.lt_of_lt_of_le (Nat.le_of_ble_eq_true rfl) hn) ?_
      obtain ⟨hi1, h⟩ := q_is h
      refine u_aald dX9_close_36 (Or.inl rfl) (Nat.lt_of_lt_of_le (Nat.le_of_ble_eq_true rfl) hn) (q_in_vp hi1) (q_at_planF hF hi1) ?_
      refine q_aload_n dX9_close_37 rfl ?_
      refine u_getr dX9_close_38 fX9_22 rfl rfl (Nat.lt_of_lt_of_le (Nat.le_of_ble_eq_true rfl) hn) (hF 0 2 2 rfl) ?_
      refine q_iload_n dX9_close_41 rfl ?_
      refine q_iload_n dX9_close_42 rfl ?_
      obtain ⟨r2, hr3, h⟩ := q_bd h
      refine c_V1 (as := [_, _, _, _]) (st := []) (ci := 0) dX9_close_43 okX0_minutesNearer lX9_174 ⟨rfl, rfl⟩ ⟨Nat.le_of_ble_eq_true rfl, Nat.le_of_ble_eq_true rfl⟩ (by decide) rfl rfl (Nat.lt_of_lt_of_le (Nat.le_of_ble_eq_true rfl) hn) rfl rfl (Nat.le_of_ble_eq_true rfl) (Nat.le_of_ble_eq_true rfl) (t_X0_minutesNearer hn hF (q_at_plan hi1) hr3) ?_
      cases h
      exact q_iret dX9_close_46 rfl ⟨rfl, rfl⟩
    · have h := q_it hc h
      refine q_bipush (v := (-2)) dX9_close_21 (by decide) ?_
      cases h
      exact q_iret dX9_close_23 rfl ⟨rfl, rfl⟩
def f_X9_centre (x1 : Int32) (m : q_Mm) : (Int32 × q_Mm) :=
  if (f_X9_within x1 1 20 m) = 0 then
    ((-2), m)
  else
    (m.1 0 4, q_wi m 0 4 x1)
set_option maxRecDepth 100000 in
set_option maxHeartbeats 4000000 in
theorem t_X9_centre {g : q_G} {n : Nat} {F : Nat → Nat → Option Nat} (hn : 89 ≤ n) (hF : q_FF F)  {x1 : Int32} {m : q_Mm} {r : Int32 × q_Mm} (h : f_X9_centre x1 m = r) : q_Cn g mX9_centre [q_r g 0, .int x1] (q_mk n F m) (q_Q (some (.int r.1)) (q_mk n F r.2)) := by
  unfold f_X9_centre at h
  show q_V g mX9_centre q_T _ _ _ 0 [(0, q_r g 0), (1, .int x1)] [] (q_mk n F m)
  refine q_iload_n dX9_centre_0 rfl ?_
  refine q_iconst (v := 1) dX9_centre_1 (by decide) ?_
  refine q_bipush (v := 20) dX9_centre_2 (by decide) ?_
  refine c_S1 (as := [_, _, _]) (st := []) dX9_centre_4 okX9_within lX9_80 ⟨rfl, rfl⟩ ⟨Nat.le_of_ble_eq_true rfl, Nat.le_of_ble_eq_true rfl⟩ rfl rfl (Nat.le_of_ble_eq_true rfl) (Nat.le_of_ble_eq_true rfl) (t_X9_within hn hF  rfl) ?_
  refine q_if_ne 13 dX9_centre_7 (by decide) (fun hc => ?_) (fun hc => ?_)
  · have h := q_if hc h
    refine q_aload_n dX9_centre_13 rfl ?_
    refine u_geti dX9_centre_14 fX9_33 rfl rfl (Nat.lt_of_lt_of_le (Nat.le_of_ble_eq_true rfl) hn) ?_
    refine q_istore_n (ls' := [(0, _), (1, _), (2, _)]) [0, 1, 2] dX9_centre_17 (Nat.le_of_ble_eq_true rfl) rfl ?_
    refine q_aload_n dX9_centre_18 rfl ?_
    refine q_iload_n dX9_centre_19 rfl ?_
    refine u_puti dX9_centre_20 fX9_33 rfl rfl (Nat.lt_of_lt_of_le (Nat.le_of_ble_eq_true rfl) hn) rfl rfl rfl ?_
    refine q_iload_n dX9_centre_23 rfl ?_
    subst h
    exact q_iret dX9_centre_24 rfl ⟨rfl, rfl⟩
  · have h := q_it hc h
    refine q_bipush (v := (-2)) dX9_centre_10 (by decide) ?_
    subst h
    exact q_iret dX9_centre_12 rfl ⟨rfl, rfl⟩
def f_X9_lurk (x1 : Int32) (x2 : Int32) (x3 : Int32) (x4 : Int32) (m : q_Mm) : (Int32 × q_Mm) :=
  if (f_X9_within x1 (-2000000) 2000000 m) = 0 then
    ((-2), m)
  else
    if (f_X9_within x2 (-2000000) 2000000 m) = 0 then
      ((-2), m)
    else
      if (f_X9_within x3 1 20 m) = 0 then
        ((-2), m)
      else
        if (f_X9_within x4 0 200000 m) = 0 then
          ((-2), m)
        else
          (1, q_wi (q_wi (q_wi (q_wi m 23 0 x1) 23 1 x2) 23 2 x3) 23 3 x4)
set_option maxRecDepth 100000 in
set_option maxHeartbeats 4000000 in
theorem t_X9_lurk {g : q_G} {n : Nat} {F : Nat → Nat → Option Nat} (hn : 89 ≤ n) (hF : q_FF F)  {x1 : Int32} {x2 : Int32} {x3 : Int32} {x4 : Int32} {m : q_Mm} {r : Int32 × q_Mm} (h : f_X9_lurk x1 x2 x3 x4 m = r) : q_Cn g mX9_lurk [q_r g 0, .int x1, .int x2, .int x3, .int x4] (q_mk n F m) (q_Q (some (.int r.1)) (q_mk n F r.2)) := by
  unfold f_X9_lurk at h
  show q_V g mX9_lurk q_T _ _ _ 0 [(0, q_r g 0), (1, .int x1), (2, .int x2), (3, .int x3), (4, .int x4)] [] (q_mk n F m)
  refine q_iload_n dX9_lurk_0 rfl ?_
  refine q_ldc dX9_lurk_1 kX9_178 ?_
  refine q_ldc dX9_lurk_3 kX9_179 ?_
  refine c_S1 (as := [_, _, _]) (st := []) dX9_lurk_5 okX9_within lX9_80 ⟨rfl, rfl⟩ ⟨Nat.le_of_ble_eq_true rfl, Nat.le_of_ble_eq_true rfl⟩ rfl rfl (Nat.le_of_ble_eq_true rfl) (Nat.le_of_ble_eq_true rfl) (t_X9_within hn hF  rfl) ?_
  refine q_if_eq 43 dX9_lurk_8 (by decide) (fun hc => ?_) (fun hc => ?_)
  · have h := q_it hc h
    refine q_bipush (v := (-2)) dX9_lurk_43 (by decide) ?_
    subst h
    exact q_iret dX9_lurk_45 rfl ⟨rfl, rfl⟩
  · have h := q_if hc h
    refine q_iload_n dX9_lurk_11 rfl ?_
    refine q_ldc dX9_lurk_12 kX9_178 ?_
    refine q_ldc dX9_lurk_14 kX9_179 ?_
    refine c_S1 (as := [_, _, _]) (st := []) dX9_lurk_16 okX9_within lX9_80 ⟨rfl, rfl⟩ ⟨Nat.le_of_ble_eq_true rfl, Nat.le_of_ble_eq_true rfl⟩ rfl rfl (Nat.le_of_ble_eq_true rfl) (Nat.le_of_ble_eq_true rfl) (t_X9_within hn hF  rfl) ?_
    refine q_if_eq 43 dX9_lurk_19 (by decide) (fun hc => ?_) (fun hc => ?_)
    · have h := q_it hc h
      refine q_bipush (v := (-2)) dX9_lurk_43 (by decide) ?_
      subst h
      exact q_iret dX9_lurk_45 rfl ⟨rfl, rfl⟩
    · have h := q_if hc h
      refine q_iload_n dX9_lurk_22 rfl ?_
      refine q_iconst (v := 1) dX9_lurk_23 (by decide) ?_
      refine q_bipush (v := 20) dX9_lurk_24 (by decide) ?_
      refine c_S1 (as := [_, _, _]) (st := []) dX9_lurk_26 okX9_within lX9_80 ⟨rfl, rfl⟩ ⟨Nat.le_of_ble_eq_true rfl, Nat.le_of_ble_eq_true rfl⟩ rfl rfl (Nat.le_of_ble_eq_true rfl) (Nat.le_of_ble_eq_true rfl) (t_X9_within hn hF  rfl) ?_
      refine q_if_eq 43 dX9_lurk_29 (by decide) (fun hc => ?_) (fun hc => ?_)
      · have h := q_it hc h
        refine q_bipush (v := (-2)) dX9_lurk_43 (by decide) ?_
        subst h
        exact q_iret dX9_lurk_45 rfl ⟨rfl, rfl⟩
      · have h := q_if hc h
        refine q_iload dX9_lurk_32 rfl ?_
        refine q_iconst (v := 0) dX9_lurk_34 (by decide) ?_
        refine q_ldc dX9_lurk_35 kX9_180 ?_
        refine c_S1 (as := [_, _, _]) (st := []) dX9_lurk_37 okX9_within lX9_80 ⟨rfl, rfl⟩ ⟨Nat.le_of_ble_eq_true rfl, Nat.le_of_ble_eq_true rfl⟩ rfl rfl (Nat.le_of_ble_eq_true rfl) (Nat.le_of_ble_eq_true rfl) (t_X9_within hn hF  rfl) ?_
        refine q_if_ne 46 dX9_lurk_40 (by decide) (fun hc => ?_) (fun hc => ?_)
        · have h := q_if hc h
          refine q_aload_n dX9_lurk_46 rfl ?_
          refine u_getr dX9_lurk_47 fX9_39 rfl rfl (Nat.lt_of_lt_of_le (Nat.le_of_ble_eq_true rfl) hn) (hF 0 5 23 rfl) ?_
          refine q_iload_n dX9_lurk_50 rfl ?_
          refine u_puti dX9_lurk_51 fX9_181 rfl rfl (Nat.lt_of_lt_of_le (Nat.le_of_ble_eq_true rfl) hn) rfl rfl rfl ?_
          refine q_aload_n dX9_lurk_54 rfl ?_
          refine u_getr dX9_lurk_55 fX9_39 rfl rfl (Nat.lt_of_lt_of_le (Nat.le_of_ble_eq_true rfl) hn) (hF 0 5 23 rfl) ?_
          refine q_iload_n dX9_lurk_58 rfl ?_
          refine u_puti dX9_lurk_59 fX9_184 rfl rfl (Nat.lt_of_lt_of_le (Nat.le_of_ble_eq_true rfl) hn) rfl rfl rfl ?_
          refine q_aload_n dX9_lurk_62 rfl ?_
          refine u_getr dX9_lurk_63 fX9_39 rfl rfl (Nat.lt_of_lt_of_le (Nat.le_of_ble_eq_true rfl) hn) (hF 0 5 23 rfl) ?_
          refine q_iload_n dX9_lurk_66 rfl ?_
          refine u_puti dX9_lurk_67 fX9_187 rfl rfl (Nat.lt_of_lt_of_le (Nat.le_of_ble_eq_true rfl) hn) rfl rfl rfl ?_
          refine q_aload_n dX9_lurk_70 rfl ?_
          refine u_getr dX9_lurk_71 fX9_39 rfl rfl (Nat.lt_of_lt_of_le (Nat.le_of_ble_eq_true rfl) hn) (hF 0 5 23 rfl) ?_
          refine q_iload dX9_lurk_74 rfl ?_
          refine u_puti dX9_lurk_76 fX9_190 rfl rfl (Nat.lt_of_lt_of_le (Nat.le_of_ble_eq_true rfl) hn) rfl rfl rfl ?_
          refine q_iconst (v := 1) dX9_lurk_79 (by decide) ?_
          subst h
          exact q_iret dX9_lurk_80 rfl ⟨rfl, rfl⟩
        · have h := q_it hc h
          refine q_bipush (v := (-2)) dX9_lurk_43 (by decide) ?_
          subst h
          exact q_iret dX9_lurk_45 rfl ⟨rfl, rfl⟩
def l_X9_comes_12 : Nat → Int32 → Int32 → q_Mm → Option ((Int32) ⊕ (Unit))
  | 0, _, _, _ => none
  | k + 1, y1, y2, m =>
    if 600 < y2 then
      some (.inr ())
    else
      if q_in y1 4 = true then
      (f_X5_gain (46 + 3 * y1.toNatClampNeg) y2 0 m).bind fun r2 =>
      if q_in y1 4 = true then
      (f_X5_gain (46 + 3 * y1.toNatClampNeg) y2 1 m).bind fun r5 =>
      if (f_X3_canBeWithin (((m.1 0 4).toInt64) * r2) (((m.1 0 4).toInt64) * r5) y2 (m.1 23 3) m) = 0 then
        l_X9_comes_12 k  y1 (y2 + 1) m
      else
        some (.inl y2)
      else none
      else none
set_option maxRecDepth 100000 in
set_option maxHeartbeats 4000000 in
theorem t_l_X9_comes_12 {g : q_G} {n : Nat} {F : Nat → Nat → Option Nat} {Z : List Frame → Array Value → State → State → Prop} {kc ks : Nat} (hn : 89 ≤ n) (hF : q_FF F)  : ∀ (k : Nat) (y1 : Int32) (y2 : Int32) (m : q_Mm) {rr : (Int32) ⊕ (Unit)}, l_X9_comes_12 k y1 y2 m = some rr → (∀ r, rr = .inl r → q_V g mX9_comes q_T Z kc ks 77 [(2, .int r)] [] (q_mk n F m)) → (∀ r, rr = .inr r → q_V g mX9_comes q_T Z kc ks 85 [] [] (q_mk n F m)) → q_V g mX9_comes q_T Z kc ks 12 [(0, q_r g 0), (1, .int y1), (2, .int y2)] [] (q_mk n F m) := by
  intro k
  induction k with
  | zero => intro y1 y2 m rr h; cases h
  | succ k ih =>
    intro y1 y2 m rr h hx0 hx1
    unfold l_X9_comes_12 at h
    refine q_iload_n dX9_comes_12 rfl ?_
    refine q_sipush (v := 600) dX9_comes_13 (by decide) ?_
    refine q_icmp_gt 85 dX9_comes_16 (by decide) (fun hc => ?_) (fun hc => ?_)
    · have h := q_it hc h
      refine q_drop [] (ls' := []) rfl ?_
      cases h
      exact hx1 _ rfl
    · have h := q_if hc h
      refine q_aload_n dX9_comes_19 rfl ?_
      refine u_geti dX9_comes_20 fX9_33 rfl rfl (Nat.lt_of_lt_of_le (Nat.le_of_ble_eq_true rfl) hn) ?_
      refine q_i2l dX9_comes_23 ?_
      refine q_aload_n dX9_comes_24 rfl ?_
      refine u_getr dX9_comes_25 fX9_11 rfl rfl (Nat.lt_of_lt_of_le (Nat.le_of_ble_eq_true rfl) hn) (hF 0 0 1 rfl) ?_
      refine q_iload_n dX9_comes_28 rfl ?_
      obtain ⟨hi1, h⟩ := q_is h
      refine u_aald dX9_comes_29 (Or.inl rfl) (Nat.lt_of_lt_of_le (Nat.le_of_ble_eq_true rfl) hn) (q_in_vp hi1) (q_at_planF hF hi1) ?_
      refine q_iload_n dX9_comes_30 rfl ?_
      refine q_iconst (v := 0) dX9_comes_31 (by decide) ?_
      obtain ⟨r2, hr3, h⟩ := q_bd h
      refine c_V1 (as := [_, _]) (st := [_]) (ci := 5) dX9_comes_32 okX5_gain lX9_109 ⟨rfl, rfl⟩ ⟨Nat.le_of_ble_eq_true rfl, Nat.le_of_ble_eq_true rfl⟩ (by decide) rfl (q_plan_0 (q_at_plan hi1)) (q_lt0 (q_plan_n (q_at_plan hi1) hn)) rfl rfl (Nat.le_of_ble_eq_true rfl) (Nat.le_of_ble_eq_true rfl) (t_X5_gain hn hF (q_at_plan hi1) hr3) ?_
      refine q_lmul dX9_comes_35 ?_
      refine q_lstore_n (ls' := [(0, _), (1, _), (2, _), (3, _)]) [0, 1, 2, 3] dX9_comes_36 (Nat.le_of_ble_eq_true rfl) rfl ?_
      refine q_aload_n dX9_comes_37 rfl ?_
      refine u_geti dX9_comes_38 fX9_33 rfl rfl (Nat.lt_of_lt_of_le (Nat.le_of_ble_eq_true rfl) hn) ?_
      refine q_i2l dX9_comes_41 ?_
      refine q_aload_n dX9_comes_42 rfl ?_
      refine u_getr dX9_comes_43 fX9_11 rfl rfl (Nat.lt_of_lt_of_le (Nat.le_of_ble_eq_true rfl) hn) (hF 0 0 1 rfl) ?_
      refine q_iload_n dX9_comes_46 rfl ?_
      obtain ⟨hi4, h⟩ := q_is h
      refine u_aald dX9_comes_47 (Or.inl rfl) (Nat.lt_of_lt_of_le (Nat.le_of_ble_eq_true rfl) hn) (q_in_vp hi4) (q_at_planF hF hi4) ?_
      refine q_iload_n dX9_comes_48 rfl ?_
      refine q_iconst (v := 1) dX9_comes_49 (by decide) ?_
      obtain ⟨r5, hr6, h⟩ := q_bd h
      refine c_V1 (as := [_, _]) (st := [_]) (ci := 5) dX9_comes_50 okX5_gain lX9_109 ⟨rfl, rfl⟩ ⟨Nat.le_of_ble_eq_true rfl, Nat.le_of_ble_eq_true rfl⟩ (by decide) rfl (q_plan_0 (q_at_plan hi4)) (q_lt0 (q_plan_n (q_at_plan hi4) hn)) rfl rfl (Nat.le_of_ble_eq_true rfl) (Nat.le_of_ble_eq_true rfl) (t_X5_gain hn hF (q_at_plan hi4) hr6) ?_
      refine q_lmul dX9_comes_53 ?_
      refine q_lstore (ls' := [(0, _), (1, _), (2, _), (3, _), (5, _)]) [0, 1, 2, 3, 5] dX9_comes_54 (Nat.le_of_ble_eq_true rfl) rfl ?_
      refine q_aload_n dX9_comes_56 rfl ?_
      refine u_getr dX9_comes_57 fX9_39 rfl rfl (Nat.lt_of_lt_of_le (Nat.le_of_ble_eq_true rfl) hn) (hF 0 5 23 rfl) ?_
      refine q_lload_n dX9_comes_60 rfl ?_
      refine q_lload dX9_comes_61 rfl ?_
      refine q_iload_n dX9_comes_63 rfl ?_
      refine q_aload_n dX9_comes_64 rfl ?_
      refine u_getr dX9_comes_65 fX9_39 rfl rfl (Nat.lt_of_lt_of_le (Nat.le_of_ble_eq_true rfl) hn) (hF 0 5 23 rfl) ?_
      refine u_geti dX9_comes_68 fX9_190 rfl rfl (Nat.lt_of_lt_of_le (Nat.le_of_ble_eq_true rfl) hn) ?_
      refine c_V1 (as := [_, _, _, _]) (st := []) (ci := 3) dX9_comes_71 okX3_canBeWithin lX9_193 ⟨rfl, rfl⟩ ⟨Nat.le_of_ble_eq_true rfl, Nat.le_of_ble_eq_true rfl⟩ (by decide) rfl rfl (Nat.lt_of_lt_of_le (Nat.le_of_ble_eq_true rfl) hn) rfl rfl (Nat.le_of_ble_eq_true rfl) (Nat.le_of_ble_eq_true rfl) (t_X3_canBeWithin hn hF  rfl) ?_
      refine q_if_eq 79 dX9_comes_74 (by decide) (fun hc => ?_) (fun hc => ?_)
      · have h := q_it hc h
        refine q_iinc1 (w := 1) (ls' := [(0, _), (1, _), (2, _)]) [0, 1, 2] dX9_comes_79 rfl (by decide) (Nat.le_of_ble_eq_true rfl) rfl ?_
        refine q_goto 12 dX9_comes_82 (by decide) ?_
        exact ih _ _ _ h hx0 hx1
      · have h := q_if hc h
        refine q_drop [2] (ls' := [(2, _)]) rfl ?_
        cases h
        exact hx0 _ rfl
def f_X9_comes (x1 : Int32) (m : q_Mm) : Option (Int32) :=
  if (f_X9_isPlan x1.toInt64 m) = 0 then
    some ((-1))
  else
    (l_X9_comes_12 7000  x1 0 m).bind fun r7 => match r7 with
    | .inl r9 =>
      some (r9)
    | .inr r10 =>
      some ((-6))
set_option maxRecDepth 100000 in
set_option maxHeartbeats 4000000 in
theorem t_X9_comes {g : q_G} {n : Nat} {F : Nat → Nat → Option Nat} (hn : 89 ≤ n) (hF : q_FF F)  {x1 : Int32} {m : q_Mm} {r : Int32} (h : f_X9_comes x1 m = some r) : q_Cn g mX9_comes [q_r g 0, .int x1] (q_mk n F m) (q_Q (some (.int r)) (q_mk n F m)) := by
  unfold f_X9_comes at h
  show q_V g mX9_comes q_T _ _ _ 0 [(0, q_r g 0), (1, .int x1)] [] (q_mk n F m)
  refine q_iload_n dX9_comes_0 rfl ?_
  refine q_i2l dX9_comes_1 ?_
  refine c_S1 (as := [_]) (st := []) dX9_comes_2 okX9_isPlan lX9_76 ⟨rfl, rfl⟩ ⟨Nat.le_of_ble_eq_true rfl, Nat.le_of_ble_eq_true rfl⟩ rfl rfl (Nat.le_of_ble_eq_true rfl) (Nat.le_of_ble_eq_true rfl) (t_X9_isPlan hn hF  rfl) ?_
  refine q_if_ne 10 dX9_comes_5 (by decide) (fun hc => ?_) (fun hc => ?_)
  · have h := q_if hc h
    refine q_iconst (v := 0) dX9_comes_10 (by decide) ?_
    refine q_istore_n (ls' := [(0, _), (1, _), (2, _)]) [0, 1, 2] dX9_comes_11 (Nat.le_of_ble_eq_true rfl) rfl ?_
    obtain ⟨r7, hr8, h⟩ := q_bd h
    refine t_l_X9_comes_12 hn hF  7000 _ _ _ hr8 ?_ ?_
    · intro r9 er9
      subst er9
      dsimp only at h
      refine q_iload_n dX9_comes_77 rfl ?_
      cases h
      exact q_iret dX9_comes_78 rfl ⟨rfl, rfl⟩
    · intro r10 er10
      subst er10
      dsimp only at h
      refine q_bipush (v := (-6)) dX9_comes_85 (by decide) ?_
      cases h
      exact q_iret dX9_comes_87 rfl ⟨rfl, rfl⟩
  · have h := q_it hc h
    refine q_iconst (v := (-1)) dX9_comes_8 (by decide) ?_
    cases h
    exact q_iret dX9_comes_9 rfl ⟨rfl, rfl⟩
def f_X9_gets (x1 : Int32) (x2 : Int32) (m : q_Mm) : Option (Int32 × q_Mm) :=
  if (f_X9_isPlan x1.toInt64 m) = 0 then
    some (((-1), m))
  else
    if (f_X9_within x2 0 600 m) = 0 then
      some (((-2), m))
    else
      (f_X3_waitAt (m.1 0 4) x2 m).bind fun r1 =>
      if q_in x1 4 = true then
      some ((r1.1 26 x1.toNatClampNeg, r1))
      else none
set_option maxRecDepth 100000 in
set_option maxHeartbeats 4000000 in
theorem t_X9_gets {g : q_G} {n : Nat} {F : Nat → Nat → Option Nat} (hn : 89 ≤ n) (hF : q_FF F)  {x1 : Int32} {x2 : Int32} {m : q_Mm} {r : Int32 × q_Mm} (h : f_X9_gets x1 x2 m = some r) : q_Cn g mX9_gets [q_r g 0, .int x1, .int x2] (q_mk n F m) (q_Q (some (.int r.1)) (q_mk n F r.2)) := by
  unfold f_X9_gets at h
  show q_V g mX9_gets q_T _ _ _ 0 [(0, q_r g 0), (1, .int x1), (2, .int x2)] [] (q_mk n F m)
  refine q_iload_n dX9_gets_0 rfl ?_
  refine q_i2l dX9_gets_1 ?_
  refine c_S1 (as := [_]) (st := []) dX9_gets_2 okX9_isPlan lX9_76 ⟨rfl, rfl⟩ ⟨Nat.le_of_ble_eq_true rfl, Nat.le_of_ble_eq_true rfl⟩ rfl rfl (Nat.le_of_ble_eq_true rfl) (Nat.le_of_ble_eq_true rfl) (t_X9_isPlan hn hF  rfl) ?_
  refine q_if_ne 10 dX9_gets_5 (by decide) (fun hc => ?_) (fun hc => ?_)
  · have h := q_if hc h
    refine q_iload_n dX9_gets_10 rfl ?_
    refine q_iconst (v := 0) dX9_gets_11 (by decide) ?_
    refine q_sipush (v := 600) dX9_gets_12 (by decide) ?_
    refine c_S1 (as := [_, _, _]) (st := []) dX9_gets_15 okX9_within lX9_80 ⟨rfl, rfl⟩ ⟨Nat.le_of_ble_eq_true rfl, Nat.le_of_ble_eq_true rfl⟩ rfl rfl (Nat.le_of_ble_eq_true rfl) (Nat.le_of_ble_eq_true rfl) (t_X9_within hn hF  rfl) ?_
    refine q_if_ne 24 dX9_gets_18 (by decide) (fun hc => ?_) (fun hc => ?_)
    · have h := q_if hc h
      refine q_aload_n dX9_gets_24 rfl ?_
      refine u_getr dX9_gets_25 fX9_39 rfl rfl (Nat.lt_of_lt_of_le (Nat.le_of_ble_eq_true rfl) hn) (hF 0 5 23 rfl) ?_
      refine q_aload_n dX9_gets_28 rfl ?_
      refine u_getr dX9_gets_29 fX9_11 rfl rfl (Nat.lt_of_lt_of_le (Nat.le_of_ble_eq_true rfl) hn) (hF 0 0 1 rfl) ?_
      refine q_aload_n dX9_gets_32 rfl ?_
      refine u_geti dX9_gets_33 fX9_33 rfl rfl (Nat.lt_of_lt_of_le (Nat.le_of_ble_eq_true rfl) hn) ?_
      refine q_iload_n dX9_gets_36 rfl ?_
      obtain ⟨r1, hr2, h⟩ := q_bd h
      refine c_V0 (as := [_, _, _]) (st := []) (ci := 3) dX9_gets_37 okX3_waitAt lX9_197 ⟨rfl, rfl⟩ ⟨Nat.le_of_ble_eq_true rfl, Nat.le_of_ble_eq_true rfl⟩ (by decide) rfl rfl (Nat.lt_of_lt_of_le (Nat.le_of_ble_eq_true rfl) hn) rfl rfl (Nat.le_of_ble_eq_true rfl) (Nat.le_of_ble_eq_true rfl) (t_X3_waitAt hn hF  hr2) ?_
      refine q_aload_n dX9_gets_40 rfl ?_
      refine u_getr dX9_gets_41 fX9_39 rfl rfl (Nat.lt_of_lt_of_le (Nat.le_of_ble_eq_true rfl) hn) (hF 0 5 23 rfl) ?_
      refine u_getr dX9_gets_44 fX9_201 rfl rfl (Nat.lt_of_lt_of_le (Nat.le_of_ble_eq_true rfl) hn) (hF 23 6 26 rfl) ?_
      refine q_iload_n dX9_gets_47 rfl ?_
      obtain ⟨hi3, h⟩ := q_is h
      refine u_iald dX9_gets_48 rfl (Nat.lt_of_lt_of_le (Nat.le_of_ble_eq_true rfl) hn) (q_in_vp hi3) ?_
      cases h
      exact q_iret dX9_gets_49 rfl ⟨rfl, rfl⟩
    · have h := q_it hc h
      refine q_bipush (v := (-2)) dX9_gets_21 (by decide) ?_
      cases h
      exact q_iret dX9_gets_23 rfl ⟨rfl, rfl⟩
  · have h := q_it hc h
    refine q_iconst (v := (-1)) dX9_gets_8 (by decide) ?_
    cases h
    exact q_iret dX9_gets_9 rfl ⟨rfl, rfl⟩
def f_X9_isWeight (x0 : Int32) (m : q_Mm) : (Int32) :=
  (f_X9_within x0 0 20 m)
set_option maxRecDepth 100000 in
set_option maxHeartbeats 4000000 in
theorem t_X9_isWeight {g : q_G} {n : Nat} {F : Nat → Nat → Option Nat} (hn : 89 ≤ n) (hF : q_FF F)  {x0 : Int32} {m : q_Mm} {r : Int32} (h : f_X9_isWeight x0 m = r) : q_Cn g mX9_isWeight [.int x0] (q_mk n F m) (q_Q (some (.int r)) (q_mk n F m)) := by
  unfold f_X9_isWeight at h
  show q_V g mX9_isWeight q_T _ _ _ 0 [(0, .int x0)] [] (q_mk n F m)
  refine q_iload_n dX9_isWeight_0 rfl ?_
  refine q_iconst (v := 0) dX9_isWeight_1 (by decide) ?_
  refine q_bipush (v := 20) dX9_isWeight_2 (by decide) ?_
  refine c_S1 (as := [_, _, _]) (st := []) dX9_isWeight_4 okX9_within lX9_80 ⟨rfl, rfl⟩ ⟨Nat.le_of_ble_eq_true rfl, Nat.le_of_ble_eq_true rfl⟩ rfl rfl (Nat.le_of_ble_eq_true rfl) (Nat.le_of_ble_eq_true rfl) (t_X9_within hn hF  rfl) ?_
  subst h
  exact q_zret dX9_isWeight_7 rfl (q_bo_n (b_X9_within ..)) ⟨rfl, rfl⟩
theorem b_X9_isWeight {x0 : Int32} {m : q_Mm} : q_bo (f_X9_isWeight x0 m) := by
  unfold f_X9_isWeight
  repeat' split
  all_goals first | exact Or.inl rfl | exact Or.inr rfl | exact b_X9_within
def f_X9_worst (x1 : Int32) (x2 : Int32) (x3 : Int32) (x4 : Int32) (x5 : Int32) (x6 : Int32) (m : q_Mm) : Option (Int32 × q_Mm) :=
  if (f_X9_within x1 0 600 m) = 0 then
    some (((-2), m))
  else
    if (f_X9_isWeight x2 m) = 0 then
      some (((-2), m))
    else
      if (f_X9_isWeight x3 m) = 0 then
        some (((-2), m))
      else
        if (f_X9_isWeight x4 m) = 0 then
          some (((-2), m))
        else
          if (f_X9_isWeight x5 m) = 0 then
            some (((-2), m))
          else
            if (f_X9_within x6 0 1 m) = 0 then
              some (((-2), m))
            else
              (f_X3_waitAt (m.1 0 4) x1 m).bind fun r1 =>
              (f_X3_choose x2 x3 x4 x5 r1).bind fun r3 =>
              if x6 = 0 then
                some ((r3.1 23 7, r3))
              else
                some ((r3.1 23 8, r3))
set_option maxRecDepth 100000 in
set_option maxHeartbeats 4000000 in
theorem t_X9_worst {g : q_G} {n : Nat} {F : Nat → Nat → Option Nat} (hn : 89 ≤ n) (hF : q_FF F)  {x1 : Int32} {x2 : Int32} {x3 : Int32} {x4 : Int32} {x5 : Int32} {x6 : Int32} {m : q_Mm} {r : Int32 × q_Mm} (h : f_X9_worst x1 x2 x3 x4 x5 x6 m = some r) : q_Cn g mX9_worst [q_r g 0, .int x1, .int x2, .int x3, .int x4, .int x5, .int x6] (q_mk n F m) (q_Q (some (.int r.1)) (q_mk n F r.2)) := by
  unfold f_X9_worst at h
  show q_V g mX9_worst q_T _ _ _ 0 [(0, q_r g 0), (1, .int x1), (2, .int x2), (3, .int x3), (4, .int x4), (5, .int x5), (6, .int x6)] [] (q_mk n F m)
  refine q_iload_n dX9_worst_0 rfl ?_
  refine q_iconst (v := 0) dX9_worst_1 (by decide) ?_
  refine q_sipush (v := 600) dX9_worst_2 (by decide) ?_
  refine c_S1 (as := [_, _, _]) (st := []) dX9_worst_5 okX9_within lX9_80 ⟨rfl, rfl⟩ ⟨Nat.le_of_ble_eq_true rfl, Nat.le_of_ble_eq_true rfl⟩ rfl rfl (Nat.le_of_ble_eq_true rfl) (Nat.le_of_ble_eq_true rfl) (t_X9_within hn hF  rfl) ?_
  refine q_if_eq 51 dX9_worst_8 (by decide) (fun hc => ?_) (fun hc => ?_)
  · have h := q_it hc h
    refine q_bipush (v := (-2)) dX9_worst_51 (by decide) ?_
    cases h
    exact q_iret dX9_worst_53 rfl ⟨rfl, rfl⟩
  · have h := q_if hc h
    refine q_iload_n dX9_worst_11 rfl ?_
    refine c_S1 (as := [_]) (st := []) dX9_worst_12 okX9_isWeight lX9_204 ⟨rfl, rfl⟩ ⟨Nat.le_of_ble_eq_true rfl, Nat.le_of_ble_eq_true rfl⟩ rfl rfl (Nat.le_of_ble_eq_true rfl) (Nat.le_of_ble_eq_true rfl) (t_X9_isWeight hn hF  rfl) ?_
    refine q_if_eq 51 dX9_worst_15 (by decide) (fun hc => ?_) (fun hc => ?_)
    · have h := q_it hc h
      refine q_bipush (v := (-2)) dX9_worst_51 (by decide) ?_
      cases h
      exact q_iret dX9_worst_53 rfl ⟨rfl, rfl⟩
    · have h := q_if hc h
      refine q_iload_n dX9_worst_18 rfl ?_
      refine c_S1 (as := [_]) (st := []) dX9_worst_19 okX9_isWeight lX9_204 ⟨rfl, rfl⟩ ⟨Nat.le_of_ble_eq_true rfl, Nat.le_of_ble_eq_true rfl⟩ rfl rfl (Nat.le_of_ble_eq_true rfl) (Nat.le_of_ble_eq_true rfl) (t_X9_isWeight hn hF  rfl) ?_
      refine q_if_eq 51 dX9_worst_22 (by decide) (fun hc => ?_) (fun hc => ?_)
      · have h := q_it hc h
        refine q_bipush (v := (-2)) dX9_worst_51 (by decide) ?_
        cases h
        exact q_iret dX9_worst_53 rfl ⟨rfl, rfl⟩
      · have h := q_if hc h
        refine q_iload dX9_worst_25 rfl ?_
        refine c_S1 (as := [_]) (st := []) dX9_worst_27 okX9_isWeight lX9_204 ⟨rfl, rfl⟩ ⟨Nat.le_of_ble_eq_true rfl, Nat.le_of_ble_eq_true rfl⟩ rfl rfl (Nat.le_of_ble_eq_true rfl) (Nat.le_of_ble_eq_true rfl) (t_X9_isWeight hn hF  rfl) ?_
        refine q_if_eq 51 dX9_worst_30 (by decide) (fun hc => ?_) (fun hc => ?_)
        · have h := q_it hc h
          refine q_bipush (v := (-2)) dX9_worst_51 (by decide) ?_
          cases h
          exact q_iret dX9_worst_53 rfl ⟨rfl, rfl⟩
        · have h := q_if hc h
          refine q_iload dX9_worst_33 rfl ?_
          refine c_S1 (as := [_]) (st := []) dX9_worst_35 okX9_isWeight lX9_204 ⟨rfl, rfl⟩ ⟨Nat.le_of_ble_eq_true rfl, Nat.le_of_ble_eq_true rfl⟩ rfl rfl (Nat.le_of_ble_eq_true rfl) (Nat.le_of_ble_eq_true rfl) (t_X9_isWeight hn hF  rfl) ?_
          refine q_if_eq 51 dX9_worst_38 (by decide) (fun hc => ?_) (fun hc => ?_)
          · have h := q_it hc h
            refine q_bipush (v := (-2)) dX9_worst_51 (by decide) ?_
            cases h
            exact q_iret dX9_worst_53 rfl ⟨rfl, rfl⟩
          · have h := q_if hc h
            refine q_iload dX9_worst_41 rfl ?_
            refine q_iconst (v := 0) dX9_worst_43 (by decide) ?_
            refine q_iconst (v := 1) dX9_worst_44 (by decide) ?_
            refine c_S1 (as := [_, _, _]) (st := []) dX9_worst_45 okX9_within lX9_80 ⟨rfl, rfl⟩ ⟨Nat.le_of_ble_eq_true rfl, Nat.le_of_ble_eq_true rfl⟩ rfl rfl (Nat.le_of_ble_eq_true rfl) (Nat.le_of_ble_eq_true rfl) (t_X9_within hn hF  rfl) ?_
            refine q_if_ne 54 dX9_worst_48 (by decide) (fun hc => ?_) (fun hc => ?_)
            · have h := q_if hc h
              refine q_aload_n dX9_worst_54 rfl ?_
              refine u_getr dX9_worst_55 fX9_39 rfl rfl (Nat.lt_of_lt_of_le (Nat.le_of_ble_eq_true rfl) hn) (hF 0 5 23 rfl) ?_
              refine q_aload_n dX9_worst_58 rfl ?_
              refine u_getr dX9_worst_59 fX9_11 rfl rfl (Nat.lt_of_lt_of_le (Nat.le_of_ble_eq_true rfl) hn) (hF 0 0 1 rfl) ?_
              refine q_aload_n dX9_worst_62 rfl ?_
              refine u_geti dX9_worst_63 fX9_33 rfl rfl (Nat.lt_of_lt_of_le (Nat.le_of_ble_eq_true rfl) hn) ?_
              refine q_iload_n dX9_worst_66 rfl ?_
              obtain ⟨r1, hr2, h⟩ := q_bd h
              refine c_V0 (as := [_, _, _]) (st := []) (ci := 3) dX9_worst_67 okX3_waitAt lX9_197 ⟨rfl, rfl⟩ ⟨Nat.le_of_ble_eq_true rfl, Nat.le_of_ble_eq_true rfl⟩ (by decide) rfl rfl (Nat.lt_of_lt_of_le (Nat.le_of_ble_eq_true rfl) hn) rfl rfl (Nat.le_of_ble_eq_true rfl) (Nat.le_of_ble_eq_true rfl) (t_X3_waitAt hn hF  hr2) ?_
              refine q_aload_n dX9_worst_70 rfl ?_
              refine u_getr dX9_worst_71 fX9_39 rfl rfl (Nat.lt_of_lt_of_le (Nat.le_of_ble_eq_true rfl) hn) (hF 0 5 23 rfl) ?_
              refine q_iload_n dX9_worst_74 rfl ?_
              refine q_iload_n dX9_worst_75 rfl ?_
              refine q_iload dX9_worst_76 rfl ?_
              refine q_iload dX9_worst_78 rfl ?_
              obtain ⟨r3, hr4, h⟩ := q_bd h
              refine c_V0 (as := [_, _, _, _]) (st := []) (ci := 3) dX9_worst_80 okX3_choose lX9_207 ⟨rfl, rfl⟩ ⟨Nat.le_of_ble_eq_true rfl, Nat.le_of_ble_eq_true rfl⟩ (by decide) rfl rfl (Nat.lt_of_lt_of_le (Nat.le_of_ble_eq_true rfl) hn) rfl rfl (Nat.le_of_ble_eq_true rfl) (Nat.le_of_ble_eq_true rfl) (t_X3_choose hn hF  hr4) ?_
              refine q_iload dX9_worst_83 rfl ?_
              refine q_if_ne 98 dX9_worst_85 (by decide) (fun hc => ?_) (fun hc => ?_)
              · have h := q_if hc h
                refine q_aload_n dX9_worst_98 rfl ?_
                refine u_getr dX9_worst_99 fX9_39 rfl rfl (Nat.lt_of_lt_of_le (Nat.le_of_ble_eq_true rfl) hn) (hF 0 5 23 rfl) ?_
                refine u_geti dX9_worst_102 fX9_213 rfl rfl (Nat.lt_of_lt_of_le (Nat.le_of_ble_eq_true rfl) hn) ?_
                cases h
                exact q_iret dX9_worst_105 rfl ⟨rfl, rfl⟩
              · have h := q_it hc h
                refine q_aload_n dX9_worst_88 rfl ?_
                refine u_getr dX9_worst_89 fX9_39 rfl rfl (Nat.lt_of_lt_of_le (Nat.le_of_ble_eq_true rfl) hn) (hF 0 5 23 rfl) ?_
                refine u_geti dX9_worst_92 fX9_210 rfl rfl (Nat.lt_of_lt_of_le (Nat.le_of_ble_eq_true rfl) hn) ?_
                refine q_goto 105 dX9_worst_95 (by decide) ?_
                cases h
                exact q_iret dX9_worst_105 rfl ⟨rfl, rfl⟩
            · have h := q_it hc h
              refine q_bipush (v := (-2)) dX9_worst_51 (by decide) ?_
              cases h
              exact q_iret dX9_worst_53 rfl ⟨rfl, rfl⟩
