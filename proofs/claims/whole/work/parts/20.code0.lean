def f_X7_begin (a0 : Nat) (m : q_Mm) : (q_Mm) :=
  q_wl (q_wl m a0 5 ((m.1 a0 0).toInt64)) a0 6 (((q_wl m a0 5 ((m.1 a0 0).toInt64)).1 a0 1).toInt64)
set_option maxRecDepth 100000 in
set_option maxHeartbeats 4000000 in
theorem t_X7_begin {g : q_G} {n : Nat} {F : Nat → Nat → Option Nat} (hn : 89 ≤ n) (hF : q_FF F) {a0 : Nat} (ha0 : q_isShip a0)  {m : q_Mm} {r : q_Mm} (h : f_X7_begin a0 m = r) : q_Cn g mX7_begin [q_r g a0] (q_mk n F m) (q_Q none (q_mk n F r)) := by
  unfold f_X7_begin at h
  show q_V g mX7_begin q_T _ _ _ 0 [(0, q_r g a0)] [] (q_mk n F m)
  refine q_aload_n dX7_begin_0 rfl ?_
  refine q_aload_n dX7_begin_1 rfl ?_
  refine u_geti dX7_begin_2 fX7_9 rfl (q_ship_0 ha0) (q_lt0 (q_ship_n ha0 hn)) ?_
  refine q_i2l dX7_begin_5 ?_
  refine u_putl dX7_begin_6 fX7_28 rfl (q_ship_0 ha0) (q_lt0 (q_ship_n ha0 hn)) rfl rfl rfl ?_
  refine q_aload_n dX7_begin_9 rfl ?_
  refine q_aload_n dX7_begin_10 rfl ?_
  refine u_geti dX7_begin_11 fX7_15 rfl (q_ship_0 ha0) (q_lt0 (q_ship_n ha0 hn)) ?_
  refine q_i2l dX7_begin_14 ?_
  refine u_putl dX7_begin_15 fX7_32 rfl (q_ship_0 ha0) (q_lt0 (q_ship_n ha0 hn)) rfl rfl rfl ?_
  subst h
  exact q_vret dX7_begin_18 rfl ⟨rfl, rfl⟩
def l_X0_beginAll_2 : Nat → Int32 → q_Mm → Option (q_Mm)
  | 0, _, _ => none
  | k + 1, y1, m =>
    if (m.1 3 1) ≤ y1 then
      some (m)
    else
      if q_in y1 9 = true then
      l_X0_beginAll_2 k  (y1 + 1) (f_X7_begin (5 + 2 * y1.toNatClampNeg) m)
      else none
set_option maxRecDepth 100000 in
set_option maxHeartbeats 4000000 in
theorem t_l_X0_beginAll_2 {g : q_G} {n : Nat} {F : Nat → Nat → Option Nat} {Z : List Frame → Array Value → State → State → Prop} {kc ks : Nat} (hn : 89 ≤ n) (hF : q_FF F)  : ∀ (k : Nat) (y1 : Int32) (m : q_Mm) {r : q_Mm}, l_X0_beginAll_2 k y1 m = some r → (q_V g mX0_beginAll q_T Z kc ks 25 [] [] (q_mk n F r)) → q_V g mX0_beginAll q_T Z kc ks 2 [(0, q_r g 3), (1, .int y1)] [] (q_mk n F m) := by
  intro k
  induction k with
  | zero => intro y1 m r h; cases h
  | succ k ih =>
    intro y1 m r h hx0
    unfold l_X0_beginAll_2 at h
    refine q_iload_n dX0_beginAll_2 rfl ?_
    refine q_aload_n dX0_beginAll_3 rfl ?_
    refine u_geti dX0_beginAll_4 fX0_17 rfl rfl (Nat.lt_of_lt_of_le (Nat.le_of_ble_eq_true rfl) hn) ?_
    refine q_icmp_ge 25 dX0_beginAll_7 (by decide) (fun hc => ?_) (fun hc => ?_)
    · have h := q_it hc h
      refine q_drop [] (ls' := []) rfl ?_
      cases h
      exact hx0
    · have h := q_if hc h
      refine q_aload_n dX0_beginAll_10 rfl ?_
      refine u_getr dX0_beginAll_11 fX0_11 rfl rfl (Nat.lt_of_lt_of_le (Nat.le_of_ble_eq_true rfl) hn) (hF 3 0 4 rfl) ?_
      refine q_iload_n dX0_beginAll_14 rfl ?_
      obtain ⟨hi1, h⟩ := q_is h
      refine u_aald dX0_beginAll_15 (Or.inr rfl) (Nat.lt_of_lt_of_le (Nat.le_of_ble_eq_true rfl) hn) (q_in_vp hi1) (q_at_shipF hF hi1) ?_
      refine c_V0 (as := []) (st := []) (ci := 7) dX0_beginAll_16 okX7_begin lX0_57 ⟨rfl, rfl⟩ ⟨Nat.le_of_ble_eq_true rfl, Nat.le_of_ble_eq_true rfl⟩ (by decide) rfl (q_ship_0 (q_at_ship hi1)) (q_lt0 (q_ship_n (q_at_ship hi1) hn)) rfl rfl (Nat.le_of_ble_eq_true rfl) (Nat.le_of_ble_eq_true rfl) (t_X7_begin hn hF (q_at_ship hi1) rfl) ?_
      refine q_iinc1 (w := 1) (ls' := [(0, _), (1, _)]) [0, 1] dX0_beginAll_19 rfl (by decide) (Nat.le_of_ble_eq_true rfl) rfl ?_
      refine q_goto 2 dX0_beginAll_22 (by decide) ?_
      exact ih _ _ h hx0
def f_X0_beginAll  (m : q_Mm) : Option (q_Mm) :=
  (l_X0_beginAll_2 7000  0 m).bind fun r2 =>
  some (r2)
set_option maxRecDepth 100000 in
set_option maxHeartbeats 4000000 in
theorem t_X0_beginAll {g : q_G} {n : Nat} {F : Nat → Nat → Option Nat} (hn : 89 ≤ n) (hF : q_FF F)   {m : q_Mm} {r : q_Mm} (h : f_X0_beginAll  m = some r) : q_Cn g mX0_beginAll [q_r g 3] (q_mk n F m) (q_Q none (q_mk n F r)) := by
  unfold f_X0_beginAll at h
  show q_V g mX0_beginAll q_T _ _ _ 0 [(0, q_r g 3)] [] (q_mk n F m)
  refine q_iconst (v := 0) dX0_beginAll_0 (by decide) ?_
  refine q_istore_n (ls' := [(0, _), (1, _)]) [0, 1] dX0_beginAll_1 (Nat.le_of_ble_eq_true rfl) rfl ?_
  obtain ⟨r2, hr3, h⟩ := q_bd h
  refine t_l_X0_beginAll_2 hn hF  7000 _ _ hr3 ?_
  cases h
  exact q_vret dX0_beginAll_25 rfl ⟨rfl, rfl⟩
def f_X1_hides (x1 : Int32) (m : q_Mm) : (Int32) :=
  if x1 < (m.1 2 0) then
    0
  else
    if (m.1 2 1) ≤ x1 then
      0
    else
      1
set_option maxRecDepth 100000 in
set_option maxHeartbeats 4000000 in
theorem t_X1_hides {g : q_G} {n : Nat} {F : Nat → Nat → Option Nat} (hn : 89 ≤ n) (hF : q_FF F)  {x1 : Int32} {m : q_Mm} {r : Int32} (h : f_X1_hides x1 m = r) : q_Cn g mX1_hides [q_r g 2, .int x1] (q_mk n F m) (q_Q (some (.int r)) (q_mk n F m)) := by
  unfold f_X1_hides at h
  show q_V g mX1_hides q_T _ _ _ 0 [(0, q_r g 2), (1, .int x1)] [] (q_mk n F m)
  refine q_iload_n dX1_hides_0 rfl ?_
  refine q_aload_n dX1_hides_1 rfl ?_
  refine u_geti dX1_hides_2 fX1_7 rfl rfl (Nat.lt_of_lt_of_le (Nat.le_of_ble_eq_true rfl) hn) ?_
  refine q_icmp_lt 20 dX1_hides_5 (by decide) (fun hc => ?_) (fun hc => ?_)
  · have h := q_it hc h
    refine q_iconst (v := 0) dX1_hides_20 (by decide) ?_
    subst h
    exact q_zret dX1_hides_21 rfl rfl ⟨rfl, rfl⟩
  · have h := q_if hc h
    refine q_iload_n dX1_hides_8 rfl ?_
    refine q_aload_n dX1_hides_9 rfl ?_
    refine u_geti dX1_hides_10 fX1_13 rfl rfl (Nat.lt_of_lt_of_le (Nat.le_of_ble_eq_true rfl) hn) ?_
    refine q_icmp_ge 20 dX1_hides_13 (by decide) (fun hc => ?_) (fun hc => ?_)
    · have h := q_it hc h
      refine q_iconst (v := 0) dX1_hides_20 (by decide) ?_
      subst h
      exact q_zret dX1_hides_21 rfl rfl ⟨rfl, rfl⟩
    · have h := q_if hc h
      refine q_iconst (v := 1) dX1_hides_16 (by decide) ?_
      refine q_goto 21 dX1_hides_17 (by decide) ?_
      subst h
      exact q_zret dX1_hides_21 rfl rfl ⟨rfl, rfl⟩
theorem b_X1_hides {x1 : Int32} {m : q_Mm} : q_bo (f_X1_hides x1 m) := by
  unfold f_X1_hides
  repeat' split
  all_goals first | exact Or.inl rfl | exact Or.inr rfl
def l_X5_heading_5 : Nat → Nat → Int32 → Int32 → Int32 → Int32 → q_Mm → Option (Int32)
  | 0, _, _, _, _, _, _ => none
  | k + 1, b0, y1, y2, y3, y4, m =>
    if (m.1 b0 2) ≤ y4 then
      some (y3)
    else
      if q_in y4 12 = true then
      if y1 < (m.1 (b0 + 1) y4.toNatClampNeg) then
        some (y3)
      else
        if ((y2 >>> (y4 &&& 31)) &&& 1) = 0 then
          if q_in y4 12 = true then
          l_X5_heading_5 k b0 y1 y2 (m.1 (b0 + 2) y4.toNatClampNeg) (y4 + 1) m
          else none
        else
          l_X5_heading_5 k b0 y1 y2 y3 (y4 + 1) m
      else none
set_option maxRecDepth 100000 in
set_option maxHeartbeats 4000000 in
theorem t_l_X5_heading_5 {g : q_G} {n : Nat} {F : Nat → Nat → Option Nat} {Z : List Frame → Array Value → State → State → Prop} {kc ks : Nat} (hn : 89 ≤ n) (hF : q_FF F) {b0 : Nat} (hb0 : q_isPlan b0) : ∀ (k : Nat) (y1 : Int32) (y2 : Int32) (y3 : Int32) (y4 : Int32) (m : q_Mm) {r : Int32}, l_X5_heading_5 k b0 y1 y2 y3 y4 m = some r → (q_V g mX5_heading q_T Z kc ks 48 [(3, .int r)] [] (q_mk n F m)) → q_V g mX5_heading q_T Z kc ks 5 [(0, q_r g b0), (1, .int y1), (2, .int y2), (3, .int y3), (4, .int y4)] [] (q_mk n F m) := by
  intro k
  induction k with
  | zero => intro y1 y2 y3 y4 m r h; cases h
  | succ k ih =>
    intro y1 y2 y3 y4 m r h hx0
    unfold l_X5_heading_5 at h
    refine q_iload dX5_heading_5 rfl ?_
    refine q_aload_n dX5_heading_7 rfl ?_
    refine u_geti dX5_heading_8 fX5_18 rfl (q_plan_0 hb0) (q_lt0 (q_plan_n hb0 hn)) ?_
    refine q_icmp_ge 48 dX5_heading_11 (by decide) (fun hc => ?_) (fun hc => ?_)
    · have h := q_it hc h
      refine q_drop [3] (ls' := [(3, _)]) rfl ?_
      cases h
      exact hx0
    · have h := q_if hc h
      refine q_aload_n dX5_heading_14 rfl ?_
      refine u_getr dX5_heading_15 fX5_9 rfl (q_plan_0 hb0) (q_lt0 (q_plan_n hb0 hn)) (q_plan_F1 hF hb0) ?_
      refine q_iload dX5_heading_18 rfl ?_
      obtain ⟨hi1, h⟩ := q_is h
      refine u_iald dX5_heading_20 (q_plan_1 hb0) (q_lt1 (q_plan_n hb0 hn)) (q_in_vp hi1) ?_
      refine q_iload_n dX5_heading_21 rfl ?_
      refine q_icmp_gt 48 dX5_heading_22 (by decide) (fun hc => ?_) (fun hc => ?_)
      · have h := q_it hc h
        refine q_drop [3] (ls' := [(3, _)]) rfl ?_
        cases h
        exact hx0
      · have h := q_if hc h
        refine q_iload_n dX5_heading_25 rfl ?_
        refine q_iload dX5_heading_26 rfl ?_
        refine q_ishr dX5_heading_28 ?_
        refine q_iconst (v := 1) dX5_heading_29 (by decide) ?_
        refine q_iand dX5_heading_30 ?_
        refine q_if_ne 42 dX5_heading_31 (by decide) (fun hc => ?_) (fun hc => ?_)
        · have h := q_if hc h
          refine q_iinc1 (w := 1) (ls' := [(0, _), (1, _), (2, _), (3, _), (4, _)]) [0, 1, 2, 3, 4] dX5_heading_42 rfl (by decide) (Nat.le_of_ble_eq_true rfl) rfl ?_
          refine q_goto 5 dX5_heading_45 (by decide) ?_
          exact ih _ _ _ _ _ h hx0
        · have h := q_it hc h
          refine q_aload_n dX5_heading_34 rfl ?_
          refine u_getr dX5_heading_35 fX5_15 rfl (q_plan_0 hb0) (q_lt0 (q_plan_n hb0 hn)) (q_plan_F2 hF hb0) ?_
          refine q_iload dX5_heading_38 rfl ?_
          obtain ⟨hi2, h⟩ := q_is h
          refine u_iald dX5_heading_40 (q_plan_2 hb0) (q_lt2 (q_plan_n hb0 hn)) (q_in_vp hi2) ?_
          refine q_istore_n (ls' := [(0, _), (1, _), (2, _), (3, _), (4, _)]) [0, 1, 2, 3, 4] dX5_heading_41 (Nat.le_of_ble_eq_true rfl) rfl ?_
          refine q_iinc1 (w := 1) (ls' := [(0, _), (1, _), (2, _), (3, _), (4, _)]) [0, 1, 2, 3, 4] dX5_heading_42 rfl (by decide) (Nat.le_of_ble_eq_true rfl) rfl ?_
          refine q_goto 5 dX5_heading_45 (by decide) ?_
          exact ih _ _ _ _ _ h hx0
def f_X5_heading (a0 : Nat) (x1 : Int32) (x2 : Int32) (m : q_Mm) : Option (Int32) :=
  (l_X5_heading_5 7000 a0 x1 x2 0 0 m).bind fun r3 =>
  some (r3)
set_option maxRecDepth 100000 in
set_option maxHeartbeats 4000000 in
theorem t_X5_heading {g : q_G} {n : Nat} {F : Nat → Nat → Option Nat} (hn : 89 ≤ n) (hF : q_FF F) {a0 : Nat} (ha0 : q_isPlan a0) {x1 : Int32} {x2 : Int32} {m : q_Mm} {r : Int32} (h : f_X5_heading a0 x1 x2 m = some r) : q_Cn g mX5_heading [q_r g a0, .int x1, .int x2] (q_mk n F m) (q_Q (some (.int r)) (q_mk n F m)) := by
  unfold f_X5_heading at h
  show q_V g mX5_heading q_T _ _ _ 0 [(0, q_r g a0), (1, .int x1), (2, .int x2)] [] (q_mk n F m)
  refine q_iconst (v := 0) dX5_heading_0 (by decide) ?_
  refine q_istore_n (ls' := [(0, _), (1, _), (2, _), (3, _)]) [0, 1, 2, 3] dX5_heading_1 (Nat.le_of_ble_eq_true rfl) rfl ?_
  refine q_iconst (v := 0) dX5_heading_2 (by decide) ?_
  refine q_istore (ls' := [(0, _), (1, _), (2, _), (3, _), (4, _)]) [0, 1, 2, 3, 4] dX5_heading_3 (Nat.le_of_ble_eq_true rfl) rfl ?_
  obtain ⟨r3, hr4, h⟩ := q_bd h
  refine t_l_X5_heading_5 hn hF ha0 7000 _ _ _ _ _ hr4 ?_
  refine q_iload_n dX5_heading_48 rfl ?_
  cases h
  exact q_iret dX5_heading_49 rfl ⟨rfl, rfl⟩
def f_X7_heading (a0 : Nat) (a1 : Nat) (x2 : Int32) (m : q_Mm) : Option (Int32) :=
  if 0 ≤ x2 then
    if 10 ≤ (x2 / 60) then
      (f_X5_heading a1 (q_rm x2 60) 0 m).bind fun r1 =>
      some (r1)
    else
      if q_in (x2 / 60) 10 = true then
      (f_X5_heading a1 (q_rm x2 60) (m.1 (a0 + 1) (x2 / 60).toNatClampNeg) m).bind fun r4 =>
      some (r4)
      else none
  else
    some (0)
set_option maxRecDepth 100000 in
set_option maxHeartbeats 4000000 in
theorem t_X7_heading {g : q_G} {n : Nat} {F : Nat → Nat → Option Nat} (hn : 89 ≤ n) (hF : q_FF F) {a0 : Nat} (ha0 : q_isShip a0) {a1 : Nat} (ha1 : q_isPlan a1) {x2 : Int32} {m : q_Mm} {r : Int32} (h : f_X7_heading a0 a1 x2 m = some r) : q_Cn g mX7_heading [q_r g a0, q_r g a1, .int x2] (q_mk n F m) (q_Q (some (.int r)) (q_mk n F m)) := by
  unfold f_X7_heading at h
  show q_V g mX7_heading q_T _ _ _ 0 [(0, q_r g a0), (1, q_r g a1), (2, .int x2)] [] (q_mk n F m)
  refine q_iload_n dX7_heading_0 rfl ?_
  refine q_if_ge 6 dX7_heading_1 (by decide) (fun hc => ?_) (fun hc => ?_)
  · have h := q_it hc h
    refine q_iload_n dX7_heading_6 rfl ?_
    refine q_bipush (v := 60) dX7_heading_7 (by decide) ?_
    refine q_idiv dX7_heading_9 (by decide) ?_
    refine q_istore_n (ls' := [(0, _), (1, _), (2, _), (3, _)]) [0, 1, 2, 3] dX7_heading_10 (Nat.le_of_ble_eq_true rfl) rfl ?_
    refine q_aload_n dX7_heading_11 rfl ?_
    refine q_iload_n dX7_heading_12 rfl ?_
    refine q_bipush (v := 60) dX7_heading_13 (by decide) ?_
    refine q_irm dX7_heading_15 (by decide) ?_
    refine q_iload_n dX7_heading_16 rfl ?_
    refine q_bipush (v := 10) dX7_heading_17 (by decide) ?_
    refine q_icmp_ge 31 dX7_heading_19 (by decide) (fun hc => ?_) (fun hc => ?_)
    · have h := q_it hc h
      refine q_iconst (v := 0) dX7_heading_31 (by decide) ?_
      obtain ⟨r1, hr2, h⟩ := q_bd h
      refine c_V1 (as := [_, _]) (st := []) (ci := 5) dX7_heading_32 okX5_heading lX7_49 ⟨rfl, rfl⟩ ⟨Nat.le_of_ble_eq_true rfl, Nat.le_of_ble_eq_true rfl⟩ (by decide) rfl (q_plan_0 ha1) (q_lt0 (q_plan_n ha1 hn)) rfl rfl (Nat.le_of_ble_eq_true rfl) (Nat.le_of_ble_eq_true rfl) (t_X5_heading hn hF ha1 hr2) ?_
      cases h
      exact q_iret dX7_heading_35 rfl ⟨rfl, rfl⟩
    · have h := q_if hc h
      refine q_aload_n dX7_heading_22 rfl ?_
      refine u_getr dX7_heading_23 fX7_24 rfl (q_ship_0 ha0) (q_lt0 (q_ship_n ha0 hn)) (q_ship_F1 hF ha0) ?_
      refine q_iload_n dX7_heading_26 rfl ?_
      obtain ⟨hi3, h⟩ := q_is h
      refine u_iald dX7_heading_27 (q_ship_1 ha0) (q_lt1 (q_ship_n ha0 hn)) (q_in_vp hi3) ?_
      refine q_goto 32 dX7_heading_28 (by decide) ?_
      obtain ⟨r4, hr5, h⟩ := q_bd h
      refine c_V1 (as := [_, _]) (st := []) (ci := 5) dX7_heading_32 okX5_heading lX7_49 ⟨rfl, rfl⟩ ⟨Nat.le_of_ble_eq_true rfl, Nat.le_of_ble_eq_true rfl⟩ (by decide) rfl (q_plan_0 ha1) (q_lt0 (q_plan_n ha1 hn)) rfl rfl (Nat.le_of_ble_eq_true rfl) (Nat.le_of_ble_eq_true rfl) (t_X5_heading hn hF ha1 hr5) ?_
      cases h
      exact q_iret dX7_heading_35 rfl ⟨rfl, rfl⟩
  · have h := q_if hc h
    refine q_iconst (v := 0) dX7_heading_4 (by decide) ?_
    cases h
    exact q_iret dX7_heading_5 rfl ⟨rfl, rfl⟩
def f_X9_pace (x0 : Int32) (x1 : Int32) (m : q_Mm) : Option (Int32) :=
  if x1 = 0 then
    if q_in (q_min (q_abs x0) 4) 5 = true then
    some (q_sv 0 (q_min (q_abs x0) 4).toNatClampNeg)
    else none
  else
    if 0 ≤ x0 then
      if q_in (q_min (q_abs x0) 4) 5 = true then
      some (q_sv 1 (q_min (q_abs x0) 4).toNatClampNeg)
      else none
    else
      if q_in (q_min (q_abs x0) 4) 5 = true then
      some (-(q_sv 1 (q_min (q_abs x0) 4).toNatClampNeg))
      else none
set_option maxRecDepth 100000 in
set_option maxHeartbeats 4000000 in
theorem t_X9_pace {g : q_G} {n : Nat} {F : Nat → Nat → Option Nat} (hn : 89 ≤ n) (hF : q_FF F)  {x0 : Int32} {x1 : Int32} {m : q_Mm} {r : Int32} (h : f_X9_pace x0 x1 m = some r) : q_Cn g mX9_pace [.int x0, .int x1] (q_mk n F m) (q_Q (some (.int r)) (q_mk n F m)) := by
  unfold f_X9_pace at h
  show q_V g mX9_pace q_T _ _ _ 0 [(0, .int x0), (1, .int x1)] [] (q_mk n F m)
  refine q_iload_n dX9_pace_0 rfl ?_
  refine q_mabs dX9_pace_1 lX9_328 (Nat.le_of_ble_eq_true rfl) (Nat.le_of_ble_eq_true rfl) ?_
  refine q_iconst (v := 4) dX9_pace_4 (by decide) ?_
  refine q_mmin dX9_pace_5 lX9_333 (Nat.le_of_ble_eq_true rfl) (Nat.le_of_ble_eq_true rfl) ?_
  refine q_istore_n (ls' := [(0, _), (1, _), (2, _)]) [0, 1, 2] dX9_pace_8 (Nat.le_of_ble_eq_true rfl) rfl ?_
  refine q_iload_n dX9_pace_9 rfl ?_
  refine q_if_ne 19 dX9_pace_10 (by decide) (fun hc => ?_) (fun hc => ?_)
  · have h := q_if hc h
    refine q_iload_n dX9_pace_19 rfl ?_
    refine q_if_ge 32 dX9_pace_20 (by decide) (fun hc => ?_) (fun hc => ?_)
    · have h := q_it hc h
      refine q_gets (i := 1) dX9_pace_32 (by decide) fX9_339 ?_
      refine q_iload_n dX9_pace_35 rfl ?_
      obtain ⟨hi1, h⟩ := q_is h
      refine q_sald (i := 1) dX9_pace_36 (by decide) (q_in_vp hi1) ?_
      cases h
      exact q_iret dX9_pace_37 rfl ⟨rfl, rfl⟩
    · have h := q_if hc h
      refine q_gets (i := 1) dX9_pace_23 (by decide) fX9_339 ?_
      refine q_iload_n dX9_pace_26 rfl ?_
      obtain ⟨hi2, h⟩ := q_is h
      refine q_sald (i := 1) dX9_pace_27 (by decide) (q_in_vp hi2) ?_
      refine q_ineg dX9_pace_28 ?_
      refine q_goto 37 dX9_pace_29 (by decide) ?_
      cases h
      exact q_iret dX9_pace_37 rfl ⟨rfl, rfl⟩
  · have h := q_it hc h
    refine q_gets (i := 0) dX9_pace_13 (by decide) fX9_336 ?_
    refine q_iload_n dX9_pace_16 rfl ?_
    obtain ⟨hi3, h⟩ := q_is h
    refine q_sald (i := 0) dX9_pace_17 (by decide) (q_in_vp hi3) ?_
    cases h
    exact q_iret dX9_pace_18 rfl ⟨rfl, rfl⟩
def f_X7_move (a0 : Nat) (a1 : Nat) (x3 : Int32) (m : q_Mm) : Option (q_Mm) :=
  if (f_X1_hides x3 m) = 0 then
    (f_X7_heading a0 a1 (x3 + (m.1 a0 3)) m).bind fun r1 =>
    (f_X9_pace r1 0 m).bind fun r3 =>
    (f_X9_pace r1 1 (q_wl m a0 5 ((m.2 a0 5) + (((m.1 a0 2) * r3).toInt64)))).bind fun r5 =>
    some (q_wl (q_wl m a0 5 ((m.2 a0 5) + (((m.1 a0 2) * r3).toInt64))) a0 6 (((q_wl m a0 5 ((m.2 a0 5) + (((m.1 a0 2) * r3).toInt64))).2 a0 6) + ((((q_wl m a0 5 ((m.2 a0 5) + (((m.1 a0 2) * r3).toInt64))).1 a0 2) * r5).toInt64)))
  else
    (f_X9_pace 0 0 m).bind fun r7 =>
    (f_X9_pace 0 1 (q_wl m a0 5 ((m.2 a0 5) + (((m.1 a0 2) * r7).toInt64)))).bind fun r9 =>
    some (q_wl (q_wl m a0 5 ((m.2 a0 5) + (((m.1 a0 2) * r7).toInt64))) a0 6 (((q_wl m a0 5 ((m.2 a0 5) + (((m.1 a0 2) * r7).toInt64))).2 a0 6) + ((((q_wl m a0 5 ((m.2 a0 5) + (((m.1 a0 2) * r7).toInt64))).1 a0 2) * r9).toInt64)))
set_option maxRecDepth 100000 in
set_option maxHeartbeats 4000000 in
theorem t_X7_move {g : q_G} {n : Nat} {F : Nat → Nat → Option Nat} (hn : 89 ≤ n) (hF : q_FF F) {a0 : Nat} (ha0 : q_isShip a0) {a1 : Nat} (ha1 : q_isPlan a1) {x3 : Int32} {m : q_Mm} {r : q_Mm} (h : f_X7_move a0 a1 x3 m = some r) : q_Cn g mX7_move [q_r g a0, q_r g a1, q_r g 2, .int x3] (q_mk n F m) (q_Q none (q_mk n F r)) := by
  unfold f_X7_move at h
  show q_V g mX7_move q_T _ _ _ 0 [(0, q_r g a0), (1, q_r g a1), (2, q_r g 2), (3, .int x3)] [] (q_mk n F m)
  refine q_aload_n dX7_move_0 rfl ?_
  refine q_iload_n dX7_move_1 rfl ?_
  refine c_V1 (as := [_]) (st := []) (ci := 1) dX7_move_2 okX1_hides lX7_35 ⟨rfl, rfl⟩ ⟨Nat.le_of_ble_eq_true rfl, Nat.le_of_ble_eq_true rfl⟩ (by decide) rfl rfl (Nat.lt_of_lt_of_le (Nat.le_of_ble_eq_true rfl) hn) rfl rfl (Nat.le_of_ble_eq_true rfl) (Nat.le_of_ble_eq_true rfl) (t_X1_hides hn hF  rfl) ?_
  refine q_if_eq 12 dX7_move_5 (by decide) (fun hc => ?_) (fun hc => ?_)
  · have h := q_it hc h
    refine q_aload_n dX7_move_12 rfl ?_
    refine q_aload_n dX7_move_13 rfl ?_
    refine q_iload_n dX7_move_14 rfl ?_
    refine q_aload_n dX7_move_15 rfl ?_
    refine u_geti dX7_move_16 fX7_21 rfl (q_ship_0 ha0) (q_lt0 (q_ship_n ha0 hn)) ?_
    refine q_iadd dX7_move_19 ?_
    obtain ⟨r1, hr2, h⟩ := q_bd h
    refine c_V1 (as := [_, _]) (st := []) (ci := 7) dX7_move_20 okX7_heading lX7_41 ⟨rfl, rfl⟩ ⟨Nat.le_of_ble_eq_true rfl, Nat.le_of_ble_eq_true rfl⟩ (by decide) rfl (q_ship_0 ha0) (q_lt0 (q_ship_n ha0 hn)) rfl rfl (Nat.le_of_ble_eq_true rfl) (Nat.le_of_ble_eq_true rfl) (t_X7_heading hn hF ha0 ha1 hr2) ?_
    refine q_istore (ls' := [(0, _), (4, _)]) [0, 4] dX7_move_23 (Nat.le_of_ble_eq_true rfl) rfl ?_
    refine q_aload_n dX7_move_25 rfl ?_
    refine q_dup dX7_move_26 rfl ?_
    refine u_getl dX7_move_27 fX7_28 rfl (q_ship_0 ha0) (q_lt0 (q_ship_n ha0 hn)) ?_
    refine q_aload_n dX7_move_30 rfl ?_
    refine u_geti dX7_move_31 fX7_18 rfl (q_ship_0 ha0) (q_lt0 (q_ship_n ha0 hn)) ?_
    refine q_iload dX7_move_34 rfl ?_
    refine q_iconst (v := 0) dX7_move_36 (by decide) ?_
    obtain ⟨r3, hr4, h⟩ := q_bd h
    refine c_SN1 (as := [_, _]) (st := [_, _, _]) dX7_move_37 okX9_pace lX7_45 ⟨rfl, rfl⟩ ⟨Nat.le_of_ble_eq_true rfl, Nat.le_of_ble_eq_true rfl⟩ rfl rfl (Nat.le_of_ble_eq_true rfl) (Nat.le_of_ble_eq_true rfl) (t_X9_pace hn hF  hr4) ?_
    refine q_imul dX7_move_40 ?_
    refine q_i2l dX7_move_41 ?_
    refine q_ladd dX7_move_42 ?_
    refine u_putl dX7_move_43 fX7_28 rfl (q_ship_0 ha0) (q_lt0 (q_ship_n ha0 hn)) rfl rfl rfl ?_
    refine q_aload_n dX7_move_46 rfl ?_
    refine q_dup dX7_move_47 rfl ?_
    refine u_getl dX7_move_48 fX7_32 rfl (q_ship_0 ha0) (q_lt0 (q_ship_n ha0 hn)) ?_
    refine q_aload_n dX7_move_51 rfl ?_
    refine u_geti dX7_move_52 fX7_18 rfl (q_ship_0 ha0) (q_lt0 (q_ship_n ha0 hn)) ?_
    refine q_iload dX7_move_55 rfl ?_
    refine q_iconst (v := 1) dX7_move_57 (by decide) ?_
    obtain ⟨r5, hr6, h⟩ := q_bd h
    refine c_SN1 (as := [_, _]) (st := [_, _, _]) dX7_move_58 okX9_pace lX7_45 ⟨rfl, rfl⟩ ⟨Nat.le_of_ble_eq_true rfl, Nat.le_of_ble_eq_true rfl⟩ rfl rfl (Nat.le_of_ble_eq_true rfl) (Nat.le_of_ble_eq_true rfl) (t_X9_pace hn hF  hr6) ?_
    refine q_imul dX7_move_61 ?_
    refine q_i2l dX7_move_62 ?_
    refine q_ladd dX7_move_63 ?_
    refine u_putl dX7_move_64 fX7_32 rfl (q_ship_0 ha0) (q_lt0 (q_ship_n ha0 hn)) rfl rfl rfl ?_
    cases h
    exact q_vret dX7_move_67 rfl ⟨rfl, rfl⟩
  · have h := q_if hc h
    refine q_iconst (v := 0) dX7_move_8 (by decide) ?_
    refine q_goto 23 dX7_move_9 (by decide) ?_
    refine q_istore (ls' := [(0, _), (4, _)]) [0, 4] dX7_move_23 (Nat.le_of_ble_eq_true rfl) rfl ?_
    refine q_aload_n dX7_move_25 rfl ?_
    refine q_dup dX7_move_26 rfl ?_
    refine u_getl dX7_move_27 fX7_28 rfl (q_ship_0 ha0) (q_lt0 (q_ship_n ha0 hn)) ?_
    refine q_aload_n dX7_move_30 rfl ?_
    refine u_geti dX7_move_31 fX7_18 rfl (q_ship_0 ha0) (q_lt0 (q_ship_n ha0 hn)) ?_
    refine q_iload dX7_move_34 rfl ?_
    refine q_iconst (v := 0) dX7_move_36 (by decide) ?_
    obtain ⟨r7, hr8, h⟩ := q_bd h
    refine c_SN1 (as := [_, _]) (st := [_, _, _]) dX7_move_37 okX9_pace lX7_45 ⟨rfl, rfl⟩ ⟨Nat.le_of_ble_eq_true rfl, Nat.le_of_ble_eq_true rfl⟩ rfl rfl (Nat.le_of_ble_eq_true rfl) (Nat.le_of_ble_eq_true rfl) (t_X9_pace hn hF  hr8) ?_
    refine q_imul dX7_move_40 ?_
    refine q_i2l dX7_move_41 ?_
    refine q_ladd dX7_move_42 ?_
    refine u_putl dX7_move_43 fX7_28 rfl (q_ship_0 ha0) (q_lt0 (q_ship_n ha0 hn)) rfl rfl rfl ?_
    refine q_aload_n dX7_move_46 rfl ?_
    refine q_dup dX7_move_47 rfl ?_
    refine u_getl dX7_move_48 fX7_32 rfl (q_ship_0 ha0) (q_lt0 (q_ship_n ha0 hn)) ?_
    refine q_aload_n dX7_move_51 rfl ?_
    refine u_geti dX7_move_52 fX7_18 rfl (q_ship_0 ha0) (q_lt0 (q_ship_n ha0 hn)) ?_
    refine q_iload dX7_move_55 rfl ?_
    refine q_iconst (v := 1) dX7_move_57 (by decide) ?_
    obtain ⟨r9, hr10, h⟩ := q_bd h
    refine c_SN1 (as := [_, _]) (st := [_, _, _]) dX7_move_58 okX9_pace lX7_45 ⟨rfl, rfl⟩ ⟨Nat.le_of_ble_eq_true rfl, Nat.le_of_ble_eq_true rfl⟩ rfl rfl (Nat.le_of_ble_eq_true rfl) (Nat.le_of_ble_eq_true rfl) (t_X9_pace hn hF  hr10) ?_
    refine q_imul dX7_move_61 ?_
    refine q_i2l dX7_move_62 ?_
    refine q_ladd dX7_move_63 ?_
    refine u_putl dX7_move_64 fX7_32 rfl (q_ship_0 ha0) (q_lt0 (q_ship_n ha0 hn)) rfl rfl rfl ?_
    cases h
    exact q_vret dX7_move_67 rfl ⟨rfl, rfl⟩
def l_X0_moveAll_3 : Nat → Nat → Int32 → Int32 → q_Mm → Option (q_Mm)
  | 0, _, _, _, _ => none
  | k + 1, b1, y3, y4, m =>
    if (m.1 3 1) ≤ y4 then
      some (m)
    else
      if q_in y4 9 = true then
      (f_X7_move (5 + 2 * y4.toNatClampNeg) b1 y3 m).bind fun r2 =>
      l_X0_moveAll_3 k b1 y3 (y4 + 1) r2
      else none
set_option maxRecDepth 100000 in
set_option maxHeartbeats 4000000 in
theorem t_l_X0_moveAll_3 {g : q_G} {n : Nat} {F : Nat → Nat → Option Nat} {Z : List Frame → Array Value → State → State → Prop} {kc ks : Nat} (hn : 89 ≤ n) (hF : q_FF F) {b1 : Nat} (hb1 : q_isPlan b1) : ∀ (k : Nat) (y3 : Int32) (y4 : Int32) (m : q_Mm) {r : q_Mm}, l_X0_moveAll_3 k b1 y3 y4 m = some r → (q_V g mX0_moveAll q_T Z kc ks 31 [] [] (q_mk n F r)) → q_V g mX0_moveAll q_T Z kc ks 3 [(0, q_r g 3), (1, q_r g b1), (2, q_r g 2), (3, .int y3), (4, .int y4)] [] (q_mk n F m) := by
  intro k
  induction k with
  | zero => intro y3 y4 m r h; cases h
  | succ k ih =>
    intro y3 y4 m r h hx0
    unfold l_X0_moveAll_3 at h
    refine q_iload dX0_moveAll_3 rfl ?_
    refine q_aload_n dX0_moveAll_5 rfl ?_
    refine u_geti dX0_moveAll_6 fX0_17 rfl rfl (Nat.lt_of_lt_of_le (Nat.le_of_ble_eq_true rfl) hn) ?_
    refine q_icmp_ge 31 dX0_moveAll_9 (by decide) (fun hc => ?_) (fun hc => ?_)
    · have h := q_it hc h
      refine q_drop [] (ls' := []) rfl ?_
      cases h
      exact hx0
    · have h := q_if hc h
      refine q_aload_n dX0_moveAll_12 rfl ?_
      refine u_getr dX0_moveAll_13 fX0_11 rfl rfl (Nat.lt_of_lt_of_le (Nat.le_of_ble_eq_true rfl) hn) (hF 3 0 4 rfl) ?_
      refine q_iload dX0_moveAll_16 rfl ?_
      obtain ⟨hi1, h⟩ := q_is h
      refine u_aald dX0_moveAll_18 (Or.inr rfl) (Nat.lt_of_lt_of_le (Nat.le_of_ble_eq_true rfl) hn) (q_in_vp hi1) (q_at_shipF hF hi1) ?_
      refine q_aload_n dX0_moveAll_19 rfl ?_
      refine q_aload_n dX0_moveAll_20 rfl ?_
      refine q_iload_n dX0_moveAll_21 rfl ?_
      obtain ⟨r2, hr3, h⟩ := q_bd h
      refine c_V0 (as := [_, _, _]) (st := []) (ci := 7) dX0_moveAll_22 okX7_move lX0_60 ⟨rfl, rfl⟩ ⟨Nat.le_of_ble_eq_true rfl, Nat.le_of_ble_eq_true rfl⟩ (by decide) rfl (q_ship_0 (q_at_ship hi1)) (q_lt0 (q_ship_n (q_at_ship hi1) hn)) rfl rfl (Nat.le_of_ble_eq_true rfl) (Nat.le_of_ble_eq_true rfl) (t_X7_move hn hF (q_at_ship hi1) hb1 hr3) ?_
      refine q_iinc1 (w := 1) (ls' := [(0, _), (1, _), (2, _), (3, _), (4, _)]) [0, 1, 2, 3, 4] dX0_moveAll_25 rfl (by decide) (Nat.le_of_ble_eq_true rfl) rfl ?_
      refine q_goto 3 dX0_moveAll_28 (by decide) ?_
      exact ih _ _ _ h hx0
def f_X0_moveAll (a1 : Nat) (x3 : Int32) (m : q_Mm) : Option (q_Mm) :=
  (l_X0_moveAll_3 7000 a1 x3 0 m).bind fun r4 =>
  some (r4)
set_option maxRecDepth 100000 in
set_option maxHeartbeats 4000000 in
theorem t_X0_moveAll {g : q_G} {n : Nat} {F : Nat → Nat → Option Nat} (hn : 89 ≤ n) (hF : q_FF F) {a1 : Nat} (ha1 : q_isPlan a1) {x3 : Int32} {m : q_Mm} {r : q_Mm} (h : f_X0_moveAll a1 x3 m = some r) : q_Cn g mX0_moveAll [q_r g 3, q_r g a1, q_r g 2, .int x3] (q_mk n F m) (q_Q none (q_mk n F r)) := by
  unfold f_X0_moveAll at h
  show q_V g mX0_moveAll q_T _ _ _ 0 [(0, q_r g 3), (1, q_r g a1), (2, q_r g 2), (3, .int x3)] [] (q_mk n F m)
  refine q_iconst (v := 0) dX0_moveAll_0 (by decide) ?_
  refine q_istore (ls' := [(0, _), (1, _), (2, _), (3, _), (4, _)]) [0, 1, 2, 3, 4] dX0_moveAll_1 (Nat.le_of_ble_eq_true rfl) rfl ?_
  obtain ⟨r4, hr5, h⟩ := q_bd h
  refine t_l_X0_moveAll_3 hn hF ha1 7000 _ _ _ hr5 ?_
  cases h
  exact q_vret dX0_moveAll_31 rfl ⟨rfl, rfl⟩
def f_X9_squareOf (x0 : Int64) (x2 : Int64) (m : q_Mm) : (Int64) :=
  (x0 * x0) + (x2 * x2)
set_option maxRecDepth 100000 in
set_option maxHeartbeats 4000000 in
theorem t_X9_squareOf {g : q_G} {n : Nat} {F : Nat → Nat → Option Nat} (hn : 89 ≤ n) (hF : q_FF F)  {x0 : Int64} {x2 : Int64} {m : q_Mm} {r : Int64} (h : f_X9_squareOf x0 x2 m = r) : q_Cn g mX9_squareOf [.long x0, .long x2] (q_mk n F m) (q_Q (some (.long r)) (q_mk n F m)) := by
  unfold f_X9_squareOf at h
  show q_V g mX9_squareOf q_T _ _ _ 0 [(0, .long x0), (2, .long x2)] [] (q_mk n F m)
  refine q_lload_n dX9_squareOf_0 rfl ?_
  refine q_lload_n dX9_squareOf_1 rfl ?_
  refine q_lmul dX9_squareOf_2 ?_
  refine q_lload_n dX9_squareOf_3 rfl ?_
  refine q_lload_n dX9_squareOf_4 rfl ?_
  refine q_lmul dX9_squareOf_5 ?_
  refine q_ladd dX9_squareOf_6 ?_
  subst h
  exact q_lret dX9_squareOf_7 rfl ⟨rfl, rfl⟩
def l_X0_squareOfPair_19 : Nat → Int64 → Int32 → Int32 → q_Mm → Option (Int64 × q_Mm)
  | 0, _, _, _, _ => none
  | k + 1, y1, y3, y4, m =>
    if (m.1 3 1) ≤ y4 then
      some (y1, m)
    else
      if q_in y3 9 = true then
      if q_in y4 9 = true then
      if q_in y3 9 = true then
      if q_in y4 9 = true then
      if y1 ≤ (f_X9_squareOf ((m.2 (5 + 2 * y3.toNatClampNeg) 5) - (m.2 (5 + 2 * y4.toNatClampNeg) 5)) ((m.2 (5 + 2 * y3.toNatClampNeg) 6) - (m.2 (5 + 2 * y4.toNatClampNeg) 6)) m) then
        l_X0_squareOfPair_19 k  y1 y3 (y4 + 1) m
      else
        l_X0_squareOfPair_19 k  (f_X9_squareOf ((m.2 (5 + 2 * y3.toNatClampNeg) 5) - (m.2 (5 + 2 * y4.toNatClampNeg) 5)) ((m.2 (5 + 2 * y3.toNatClampNeg) 6) - (m.2 (5 + 2 * y4.toNatClampNeg) 6)) m) y3 (y4 + 1) (q_wi (q_wi m 3 3 y3) 3 4 y4)
      else none
      else none
      else none
      else none
set_option maxRecDepth 100000 in
set_option maxHeartbeats 4000000 in
theorem t_l_X0_squareOfPair_19 {g : q_G} {n : Nat} {F : Nat → Nat → Option Nat} {Z : List Frame → Array Value → State → State → Prop} {kc ks : Nat} (hn : 89 ≤ n) (hF : q_FF F)  : ∀ (k : Nat) (y1 : Int64) (y3 : Int32) (y4 : Int32) (m : q_Mm) {r : Int64 × q_Mm}, l_X0_squareOfPair_19 k y1 y3 y4 m = some r → (q_V g mX0_squareOfPair q_T Z kc ks 100 [(0, q_r g 3), (1, .long r.1), (3, .int y3)] [] (q_mk n F r.2)) → q_V g mX0_squareOfPair q_T Z kc ks 19 [(0, q_r g 3), (1, .long y1), (3, .int y3), (4, .int y4)] [] (q_mk n F m) := by
  intro k
  induction k with
  | zero => intro y1 y3 y4 m r h; cases h
  | succ k ih =>
    intro y1 y3 y4 m r h hx0
    unfold l_X0_squareOfPair_19 at h
    refine q_iload dX0_squareOfPair_19 rfl ?_
    refine q_aload_n dX0_squareOfPair_21 rfl ?_
    refine u_geti dX0_squareOfPair_22 fX0_17 rfl rfl (Nat.lt_of_lt_of_le (Nat.le_of_ble_eq_true rfl) hn) ?_
    refine q_icmp_ge 100 dX0_squareOfPair_25 (by decide) (fun hc => ?_) (fun hc => ?_)
    · have h := q_it hc h
      refine q_drop [0, 1, 3] (ls' := [(0, _), (1, _), (3, _)]) rfl ?_
      cases h
      exact hx0
    · have h := q_if hc h
      refine q_aload_n dX0_squareOfPair_28 rfl ?_
      refine u_getr dX0_squareOfPair_29 fX0_11 rfl rfl (Nat.lt_of_lt_of_le (Nat.le_of_ble_eq_true rfl) hn) (hF 3 0 4 rfl) ?_
      refine q_iload_n dX0_squareOfPair_32 rfl ?_
      obtain ⟨hi1, h⟩ := q_is h
      refine u_aald dX0_squareOfPair_33 (Or.inr rfl) (Nat.lt_of_lt_of_le (Nat.le_of_ble_eq_true rfl) hn) (q_in_vp hi1) (q_at_shipF hF hi1) ?_
      refine u_getl dX0_squareOfPair_34 fX0_63 rfl (q_ship_0 (q_at_ship hi1)) (q_lt0 (q_ship_n (q_at_ship hi1) hn)) ?_
      refine q_aload_n dX0_squareOfPair_37 rfl ?_
      refine u_getr dX0_squareOfPair_38 fX0_11 rfl rfl (Nat.lt_of_lt_of_le (Nat.le_of_ble_eq_true rfl) hn) (hF 3 0 4 rfl) ?_
      refine q_iload dX0_squareOfPair_41 rfl ?_
      obtain ⟨hi2, h⟩ := q_is h
      refine u_aald dX0_squareOfPair_43 (Or.inr rfl) (Nat.lt_of_lt_of_le (Nat.le_of_ble_eq_true rfl) hn) (q_in_vp hi2) (q_at_shipF hF hi2) ?_
      refine u_getl dX0_squareOfPair_44 fX0_63 rfl (q_ship_0 (q_at_ship hi2)) (q_lt0 (q_ship_n (q_at_ship hi2) hn)) ?_
      refine q_lsub dX0_squareOfPair_47 ?_
      refine q_aload_n dX0_squareOfPair_48 rfl ?_
      refine u_getr dX0_squareOfPair_49 fX0_11 rfl rfl (Nat.lt_of_lt_of_le (Nat.le_of_ble_eq_true rfl) hn) (hF 3 0 4 rfl) ?_
      refine q_iload_n dX0_squareOfPair_52 rfl ?_
      obtain ⟨hi3, h⟩ := q_is h
      refine u_aald dX0_squareOfPair_53 (Or.inr rfl) (Nat.lt_of_lt_of_le (Nat.le_of_ble_eq_true rfl) hn) (q_in_vp hi3) (q_at_shipF hF hi3) ?_
      refine u_getl dX0_squareOfPair_54 fX0_66 rfl (q_ship_0 (q_at_ship hi3)) (q_lt0 (q_ship_n (q_at_ship hi3) hn)) ?_
      refine q_aload_n dX0_squareOfPair_57 rfl ?_
      refine u_getr dX0_squareOfPair_58 fX0_11 rfl rfl (Nat.lt_of_lt_of_le (Nat.le_of_ble_eq_true rfl) hn) (hF 3 0 4 rfl) ?_
      refine q_iload dX0_squareOfPair_61 rfl ?_
      obtain ⟨hi4, h⟩ := q_is h
      refine u_aald dX0_squareOfPair_63 (Or.inr rfl) (Nat.lt_of_lt_of_le (Nat.le_of_ble_eq_true rfl) hn) (q_in_vp hi4) (q_at_shipF hF hi4) ?_
      refine u_getl dX0_squareOfPair_64 fX0_66 rfl (q_ship_0 (q_at_ship hi4)) (q_lt0 (q_ship_n (q_at_ship hi4) hn)) ?_
      refine q_lsub dX0_squareOfPair_67 ?_
      refine c_SN1 (as := [_, _]) (st := []) dX0_squareOfPair_68 okX9_squareOf lX0_69 ⟨rfl, rfl⟩ ⟨Nat.le_of_ble_eq_true rfl, Nat.le_of_ble_eq_true rfl⟩ rfl rfl (Nat.le_of_ble_eq_true rfl) (Nat.le_of_ble_eq_true rfl) (t_X9_squareOf hn hF  rfl) ?_
      refine q_lstore (ls' := [(0, _), (1, _), (3, _), (4, _), (5, _)]) [0, 1, 3, 4, 5] dX0_squareOfPair_71 (Nat.le_of_ble_eq_true rfl) rfl ?_
      refine q_lload dX0_squareOfPair_73 rfl ?_
      refine q_lload_n dX0_squareOfPair_75 rfl ?_
      refine q_lcmp_ge 94 dX0_squareOfPair_76 dX0_squareOfPair_77 (by decide) (fun hc => ?_) (fun hc => ?_)
      · have h := q_it hc h
        refine q_iinc1 (w := 1) (ls' := [(0, _), (1, _), (3, _), (4, _)]) [0, 1, 3, 4] dX0_squareOfPair_94 rfl (by decide) (Nat.le_of_ble_eq_true rfl) rfl ?_
        refine q_goto 19 dX0_squareOfPair_97 (by decide) ?_
        exact ih _ _ _ _ h hx0
      · have h := q_if hc h
        refine q_lload dX0_squareOfPair_80 rfl ?_
        refine q_lstore_n (ls' := [(0, _), (1, _), (3, _), (4, _)]) [0, 1, 3, 4] dX0_squareOfPair_82 (Nat.le_of_ble_eq_true rfl) rfl ?_
        refine q_aload_n dX0_squareOfPair_83 rfl ?_
        refine q_iload_n dX0_squareOfPair_84 rfl ?_
        refine u_puti dX0_squareOfPair_85 fX0_24 rfl rfl (Nat.lt_of_lt_of_le (Nat.le_of_ble_eq_true rfl) hn) rfl rfl rfl ?_
        refine q_aload_n dX0_squareOfPair_88 rfl ?_
        refine q_iload dX0_squareOfPair_89 rfl ?_
        refine u_puti dX0_squareOfPair_91 fX0_27 rfl rfl (Nat.lt_of_lt_of_le (Nat.le_of_ble_eq_true rfl) hn) rfl rfl rfl ?_
        refine q_iinc1 (w := 1) (ls' := [(0, _), (1, _), (3, _), (4, _)]) [0, 1, 3, 4] dX0_squareOfPair_94 rfl (by decide) (Nat.le_of_ble_eq_true rfl) rfl ?_
        refine q_goto 19 dX0_squareOfPair_97 (by decide) ?_
        exact ih _ _ _ _ h hx0
def l_X0_squareOfPair_6 : Nat → Int64 → Int32 → q_Mm → Option (Int64 × q_Mm)
  | 0, _, _, _ => none
  | k + 1, y1, y3, m =>
    if (m.1 3 1) ≤ y3 then
      some (y1, m)
    else
      (l_X0_squareOfPair_19 7000  y1 y3 (y3 + 1) m).bind fun r5 =>
      l_X0_squareOfPair_6 k  r5.1 (y3 + 1) r5.2
set_option maxRecDepth 100000 in
set_option maxHeartbeats 4000000 in
theorem t_l_X0_squareOfPair_6 {g : q_G} {n : Nat} {F : Nat → Nat → Option Nat} {Z : List Frame → Array Value → State → State → Prop} {kc ks : Nat} (hn : 89 ≤ n) (hF : q_FF F)  : ∀ (k : Nat) (y1 : Int64) (y3 : Int32) (m : q_Mm) {r : Int64 × q_Mm}, l_X0_squareOfPair_6 k y1 y3 m = some r → (q_V g mX0_squareOfPair q_T Z kc ks 106 [(1, .long r.1)] [] (q_mk n F r.2)) → q_V g mX0_squareOfPair q_T Z kc ks 6 [(0, q_r g 3), (1, .long y1), (3, .int y3)] [] (q_mk n F m) := by
  intro k
  induction k with
  | zero => intro y1 y3 m r h; cases h
  | succ k ih =>
    intro y1 y3 m r h hx0
    unfold l_X0_squareOfPair_6 at h
    refine q_iload_n dX0_squareOfPair_6 rfl ?_
    refine q_aload_n dX0_squareOfPair_7 rfl ?_
    refine u_geti dX0_squareOfPair_8 fX0_17 rfl rfl (Nat.lt_of_lt_of_le (Nat.le_of_ble_eq_true rfl) hn) ?_
    refine q_icmp_ge 106 dX0_squareOfPair_11 (by decide) (fun hc => ?_) (fun hc => ?_)
    · have h := q_it hc h
      refine q_drop [1] (ls' := [(1, _)]) rfl ?_
      cases h
      exact hx0
    · have h := q_if hc h
      refine q_iload_n dX0_squareOfPair_14 rfl ?_
      refine q_iconst (v := 1) dX0_squareOfPair_15 (by decide) ?_
      refine q_iadd dX0_squareOfPair_16 ?_
      refine q_istore (ls' := [(0, _), (1, _), (3, _), (4, _)]) [0, 1, 3, 4] dX0_squareOfPair_17 (Nat.le_of_ble_eq_true rfl) rfl ?_
      obtain ⟨r5, hr6, h⟩ := q_bd h
      refine t_l_X0_squareOfPair_19 hn hF  7000 _ _ _ _ hr6 ?_
      refine q_iinc1 (w := 1) (ls' := [(0, _), (1, _), (3, _)]) [0, 1, 3] dX0_squareOfPair_100 rfl (by decide) (Nat.le_of_ble_eq_true rfl) rfl ?_
      refine q_goto 6 dX0_squareOfPair_103 (by decide) ?_
      exact ih _ _ _ h hx0
def f_X0_squareOfPair  (m : q_Mm) : Option (Int64 × q_Mm) :=
  (l_X0_squareOfPair_6 7000  4611686018427387904 0 m).bind fun r7 =>
  some ((r7.1, r7.2))
set_option maxRecDepth 100000 in
set_option maxHeartbeats 4000000 in
theorem t_X0_squareOfPair {g : q_G} {n : Nat} {F : Nat → Nat → Option Nat} (hn : 89 ≤ n) (hF : q_FF F)   {m : q_Mm} {r : Int64 × q_Mm} (h : f_X0_squareOfPair  m = some r) : q_Cn g mX0_squareOfPair [q_r g 3] (q_mk n F m) (q_Q (some (.long r.1)) (q_mk n F r.2)) := by
  unfold f_X0_squareOfPair at h
  show q_V g mX0_squareOfPair q_T _ _ _ 0 [(0, q_r g 3)] [] (q_mk n F m)
  refine q_ldc2 dX0_squareOfPair_0 kX0_44 ?_
  refine q_lstore_n (ls' := [(0, _), (1, _)]) [0, 1] dX0_squareOfPair_3 (Nat.le_of_ble_eq_true rfl) rfl ?_
  refine q_iconst (v := 0) dX0_squareOfPair_4 (by decide) ?_
  refine q_istore_n (ls' := [(0, _), (1, _), (3, _)]) [0, 1, 3] dX0_squareOfPair_5 (Nat.le_of_ble_eq_true rfl) rfl ?_
  obtain ⟨r7, hr8, h⟩ := q_bd h
  refine t_l_X0_squareOfPair_6 hn hF  7000 _ _ _ hr8 ?_
  refine q_lload_n dX0_squareOfPair_106 rfl ?_
  cases h
  exact q_lret dX0_squareOfPair_107 rfl ⟨rfl, rfl⟩
def l_X0_findNearest_14 : Nat → Nat → Int32 → Int32 → q_Mm → Option (q_Mm)
  | 0, _, _, _, _ => none
  | k + 1, b1, y3, y4, m =>
    if y3 < y4 then
      some (m)
    else
      (f_X0_squareOfPair  m).bind fun r3 =>
      if (r3.2.2 3 5) ≤ r3.1 then
        (f_X0_moveAll b1 y4 r3.2).bind fun r5 =>
        l_X0_findNearest_14 k b1 y3 (y4 + 1) r5
      else
        (f_X0_moveAll b1 y4 (q_wi (q_wi (q_wi (q_wl r3.2 3 5 r3.1) 3 6 y4) 3 7 ((q_wi (q_wl r3.2 3 5 r3.1) 3 6 y4).1 3 3)) 3 8 ((q_wi (q_wi (q_wl r3.2 3 5 r3.1) 3 6 y4) 3 7 ((q_wi (q_wl r3.2 3 5 r3.1) 3 6 y4).1 3 3)).1 3 4))).bind fun r7 =>
        l_X0_findNearest_14 k b1 y3 (y4 + 1) r7
set_option maxRecDepth 100000 in
set_option maxHeartbeats 4000000 in
theorem t_l_X0_findNearest_14 {g : q_G} {n : Nat} {F : Nat → Nat → Option Nat} {Z : List Frame → Array Value → State → State → Prop} {kc ks : Nat} (hn : 89 ≤ n) (hF : q_FF F) {b1 : Nat} (hb1 : q_isPlan b1) : ∀ (k : Nat) (y3 : Int32) (y4 : Int32) (m : q_Mm) {r : q_Mm}, l_X0_findNearest_14 k b1 y3 y4 m = some r → (q_V g mX0_findNearest q_T Z kc ks 78 [] [] (q_mk n F r)) → q_V g mX0_findNearest q_T Z kc ks 14 [(0, q_r g 3), (1, q_r g b1), (2, q_r g 2), (3, .int y3), (4, .int y4)] [] (q_mk n F m) := by
  intro k
  induction k with
  | zero => intro y3 y4 m r h; cases h
  | succ k ih =>
    intro y3 y4 m r h hx0
    unfold l_X0_findNearest_14 at h
    refine q_iload dX0_findNearest_14 rfl ?_
    refine q_iload_n dX0_findNearest_16 rfl ?_
    refine q_icmp_gt 78 dX0_findNearest_17 (by decide) (fun hc => ?_) (fun hc => ?_)
    · have h := q_it hc h
      refine q_drop [] (ls' := []) rfl ?_
      cases h
      exact hx0
    · have h := q_if hc h
      refine q_aload_n dX0_findNearest_20 rfl ?_
      obtain ⟨r3, hr4, h⟩ := q_bd h
      refine c_V1 (as := []) (st := []) (ci := 0) dX0_findNearest_21 okX0_squareOfPair lX0_49 ⟨rfl, rfl⟩ ⟨Nat.le_of_ble_eq_true rfl, Nat.le_of_ble_eq_true rfl⟩ (by decide) rfl rfl (Nat.lt_of_lt_of_le (Nat.le_of_ble_eq_true rfl) hn) rfl rfl (Nat.le_of_ble_eq_true rfl) (Nat.le_of_ble_eq_true rfl) (t_X0_squareOfPair hn hF  hr4) ?_
      refine q_lstore (ls' := [(0, _), (1, _), (2, _), (3, _), (4, _), (5, _)]) [0, 1, 2, 3, 4, 5] dX0_findNearest_24 (Nat.le_of_ble_eq_true rfl) rfl ?_
      refine q_lload dX0_findNearest_26 rfl ?_
      refine q_aload_n dX0_findNearest_28 rfl ?_
      refine u_getl dX0_findNearest_29 fX0_30 rfl rfl (Nat.lt_of_lt_of_le (Nat.le_of_ble_eq_true rfl) hn) ?_
      refine q_lcmp_ge 64 dX0_findNearest_32 dX0_findNearest_33 (by decide) (fun hc => ?_) (fun hc => ?_)
      · have h := q_it hc h
        refine q_aload_n dX0_findNearest_64 rfl ?_
        refine q_aload_n dX0_findNearest_65 rfl ?_
        refine q_aload_n dX0_findNearest_66 rfl ?_
        refine q_iload dX0_findNearest_67 rfl ?_
        obtain ⟨r5, hr6, h⟩ := q_bd h
        refine c_V0 (as := [_, _, _]) (st := []) (ci := 0) dX0_findNearest_69 okX0_moveAll lX0_53 ⟨rfl, rfl⟩ ⟨Nat.le_of_ble_eq_true rfl, Nat.le_of_ble_eq_true rfl⟩ (by decide) rfl rfl (Nat.lt_of_lt_of_le (Nat.le_of_ble_eq_true rfl) hn) rfl rfl (Nat.le_of_ble_eq_true rfl) (Nat.le_of_ble_eq_true rfl) (t_X0_moveAll hn hF hb1 hr6) ?_
        refine q_iinc1 (w := 1) (ls' := [(0, _), (1, _), (2, _), (3, _), (4, _)]) [0, 1, 2, 3, 4] dX0_findNearest_72 rfl (by decide) (Nat.le_of_ble_eq_true rfl) rfl ?_
        refine q_goto 14 dX0_findNearest_75 (by decide) ?_
        exact ih _ _ _ h hx0
      · have h := q_if hc h
        refine q_aload_n dX0_findNearest_36 rfl ?_
        refine q_lload dX0_findNearest_37 rfl ?_
        refine u_putl dX0_findNearest_39 fX0_30 rfl rfl (Nat.lt_of_lt_of_le (Nat.le_of_ble_eq_true rfl) hn) rfl rfl rfl ?_
        refine q_aload_n dX0_findNearest_42 rfl ?_
        refine q_iload dX0_findNearest_43 rfl ?_
        refine u_puti dX0_findNearest_45 fX0_34 rfl rfl (Nat.lt_of_lt_of_le (Nat.le_of_ble_eq_true rfl) hn) rfl rfl rfl ?_
        refine q_aload_n dX0_findNearest_48 rfl ?_
        refine q_aload_n dX0_findNearest_49 rfl ?_
        refine u_geti dX0_findNearest_50 fX0_24 rfl rfl (Nat.lt_of_lt_of_le (Nat.le_of_ble_eq_true rfl) hn) ?_
        refine u_puti dX0_findNearest_53 fX0_37 rfl rfl (Nat.lt_of_lt_of_le (Nat.le_of_ble_eq_true rfl) hn) rfl rfl rfl ?_
        refine q_aload_n dX0_findNearest_56 rfl ?_
        refine q_aload_n dX0_findNearest_57 rfl ?_
        refine u_geti dX0_findNearest_58 fX0_27 rfl rfl (Nat.lt_of_lt_of_le (Nat.le_of_ble_eq_true rfl) hn) ?_
        refine u_puti dX0_findNearest_61 fX0_40 rfl rfl (Nat.lt_of_lt_of_le (Nat.le_of_ble_eq_true rfl) hn) rfl rfl rfl ?_
        refine q_aload_n dX0_findNearest_64 rfl ?_
        refine q_aload_n dX0_findNearest_65 rfl ?_
        refine q_aload_n dX0_findNearest_66 rfl ?_
        refine q_iload dX0_findNearest_67 rfl ?_
        obtain ⟨r7, hr8, h⟩ := q_bd h
        refine c_V0 (as := [_, _, _]) (st := []) (ci := 0) dX0_findNearest_69 okX0_moveAll lX0_53 ⟨rfl, rfl⟩ ⟨Nat.le_of_ble_eq_true rfl, Nat.le_of_ble_eq_true rfl⟩ (by decide) rfl rfl (Nat.lt_of_lt_of_le (Nat.le_of_ble_eq_true rfl) hn) rfl rfl (Nat.le_of_ble_eq_true rfl) (Nat.le_of_ble_eq_true rfl) (t_X0_moveAll hn hF hb1 hr8) ?_
        refine q_iinc1 (w := 1) (ls' := [(0, _), (1, _), (2, _), (3, _), (4, _)]) [0, 1, 2, 3, 4] dX0_findNearest_72 rfl (by decide) (Nat.le_of_ble_eq_true rfl) rfl ?_
        refine q_goto 14 dX0_findNearest_75 (by decide) ?_
        exact ih _ _ _ h hx0
def f_X0_findNearest (a1 : Nat) (x3 : Int32) (m : q_Mm) : Option (q_Mm) :=
  (f_X0_beginAll  (q_wl m 3 5 4611686018427387904)).bind fun r1 =>
  (l_X0_findNearest_14 7000 a1 x3 0 r1).bind fun r9 =>
  some (r9)
set_option maxRecDepth 100000 in
set_option maxHeartbeats 4000000 in
theorem t_X0_findNearest {g : q_G} {n : Nat} {F : Nat → Nat → Option Nat} (hn : 89 ≤ n) (hF : q_FF F) {a1 : Nat} (ha1 : q_isPlan a1) {x3 : Int32} {m : q_Mm} {r : q_Mm} (h : f_X0_findNearest a1 x3 m = some r) : q_Cn g mX0_findNearest [q_r g 3, q_r g a1, q_r g 2, .int x3] (q_mk n F m) (q_Q none (q_mk n F r)) := by
  unfold f_X0_findNearest at h
  show q_V g mX0_findNearest q_T _ _ _ 0 [(0, q_r g 3), (1, q_r g a1), (2, q_r g 2), (3, .int x3)] [] (q_mk n F m)
  refine q_aload_n dX0_findNearest_0 rfl ?_
  refine q_ldc2 dX0_findNearest_1 kX0_44 ?_
  refine u_putl dX0_findNearest_4 fX0_30 rfl rfl (Nat.lt_of_lt_of_le (Nat.le_of_ble_eq_true rfl) hn) rfl rfl rfl ?_
  refine q_aload_n dX0_findNearest_7 rfl ?_
  obtain ⟨r1, hr2, h⟩ := q_bd h
  refine c_V0 (as := []) (st := []) (ci := 0) dX0_findNearest_8 okX0_beginAll lX0_46 ⟨rfl, rfl⟩ ⟨Nat.le_of_ble_eq_true rfl, Nat.le_of_ble_eq_true rfl⟩ (by decide) rfl rfl (Nat.lt_of_lt_of_le (Nat.le_of_ble_eq_true rfl) hn) rfl rfl (Nat.le_of_ble_eq_true rfl) (Nat.le_of_ble_eq_true rfl) (t_X0_beginAll hn hF  hr2) ?_
  refine q_iconst (v := 0) dX0_findNearest_11 (by decide) ?_
  refine q_istore (ls' := [(0, _), (1, _), (2, _), (3, _), (4, _)]) [0, 1, 2, 3, 4] dX0_findNearest_12 (Nat.le_of_ble_eq_true rfl) rfl ?_
  obtain ⟨r9, hr10, h⟩ := q_bd h
  refine t_l_X0_findNearest_14 hn hF ha1 7000 _ _ _ hr10 ?_
  cases h
  exact q_vret dX0_findNearest_78 rfl ⟨rfl, rfl⟩
def l_X0_minutesNearer_19 : Nat → Nat → Int32 → Int64 → Int32 → Int32 → q_Mm → Option (Int32 × q_Mm)
  | 0, _, _, _, _, _, _ => none
  | k + 1, b1, y3, y5, y7, y8, m =>
    if y3 < y8 then
      some (y7, m)
    else
      (f_X0_squareOfPair  m).bind fun r3 =>
      if y5 ≤ r3.1 then
        (f_X0_moveAll b1 y8 r3.2).bind fun r5 =>
        l_X0_minutesNearer_19 k b1 y3 y5 y7 (y8 + 1) r5
      else
        (f_X0_moveAll b1 y8 r3.2).bind fun r7 =>
        l_X0_minutesNearer_19 k b1 y3 y5 (y7 + 1) (y8 + 1) r7
set_option maxRecDepth 100000 in
set_option maxHeartbeats 4000000 in
theorem t_l_X0_minutesNearer_19 {g : q_G} {n : Nat} {F : Nat → Nat → Option Nat} {Z : List Frame → Array Value → State → State → Prop} {kc ks : Nat} (hn : 89 ≤ n) (hF : q_FF F) {b1 : Nat} (hb1 : q_isPlan b1) : ∀ (k : Nat) (y3 : Int32) (y5 : Int64) (y7 : Int32) (y8 : Int32) (m : q_Mm) {r : Int32 × q_Mm}, l_X0_minutesNearer_19 k b1 y3 y5 y7 y8 m = some r → (q_V g mX0_minutesNearer q_T Z kc ks 52 [(7, .int r.1)] [] (q_mk n F r.2)) → q_V g mX0_minutesNearer q_T Z kc ks 19 [(0, q_r g 3), (1, q_r g b1), (2, q_r g 2), (3, .int y3), (5, .long y5), (7, .int y7), (8, .int y8)] [] (q_mk n F m) := by
  intro k
  induction k with
  | zero => intro y3 y5 y7 y8 m r h; cases h
  | succ k ih =>
    intro y3 y5 y7 y8 m r h hx0
    unfold l_X0_minutesNearer_19 at h
    refine q_iload dX0_minutesNearer_19 rfl ?_
    refine q_iload_n dX0_minutesNearer_21 rfl ?_
    refine q_icmp_gt 52 dX0_minutesNearer_22 (by decide) (fun hc => ?_) (fun hc => ?_)
    · have h := q_it hc h
      refine q_drop [7] (ls' := [(7, _)]) rfl ?_
      cases h
      exact hx0
    · have h := q_if hc h
      refine q_aload_n dX0_minutesNearer_25 rfl ?_
      obtain ⟨r3, hr4, h⟩ := q_bd h
      refine c_V1 (as := []) (st := []) (ci := 0) dX0_minutesNearer_26 okX0_squareOfPair lX0_49 ⟨rfl, rfl⟩ ⟨Nat.le_of_ble_eq_true rfl, Nat.le_of_ble_eq_true rfl⟩ (by decide) rfl rfl (Nat.lt_of_lt_of_le (Nat.le_of_ble_eq_true rfl) hn) rfl rfl (Nat.le_of_ble_eq_true rfl) (Nat.le_of_ble_eq_true rfl) (t_X0_squareOfPair hn hF  hr4) ?_
      refine q_lload dX0_minutesNearer_29 rfl ?_
      refine q_lcmp_ge 38 dX0_minutesNearer_31 dX0_minutesNearer_32 (by decide) (fun hc => ?_) (fun hc => ?_)
      · have h := q_it hc h
        refine q_aload_n dX0_minutesNearer_38 rfl ?_
        refine q_aload_n dX0_minutesNearer_39 rfl ?_
        refine q_aload_n dX0_minutesNearer_40 rfl ?_
        refine q_iload dX0_minutesNearer_41 rfl ?_
        obtain ⟨r5, hr6, h⟩ := q_bd h
        refine c_V0 (as := [_, _, _]) (st := []) (ci := 0) dX0_minutesNearer_43 okX0_moveAll lX0_53 ⟨rfl, rfl⟩ ⟨Nat.le_of_ble_eq_true rfl, Nat.le_of_ble_eq_true rfl⟩ (by decide) rfl rfl (Nat.lt_of_lt_of_le (Nat.le_of_ble_eq_true rfl) hn) rfl rfl (Nat.le_of_ble_eq_true rfl) (Nat.le_of_ble_eq_true rfl) (t_X0_moveAll hn hF hb1 hr6) ?_
        refine q_iinc1 (w := 1) (ls' := [(0, _), (1, _), (2, _), (3, _), (5, _), (7, _), (8, _)]) [0, 1, 2, 3, 5, 7, 8] dX0_minutesNearer_46 rfl (by decide) (Nat.le_of_ble_eq_true rfl) rfl ?_
        refine q_goto 19 dX0_minutesNearer_49 (by decide) ?_
        exact ih _ _ _ _ _ h hx0
      · have h := q_if hc h
        refine q_iinc1 (w := 1) (ls' := [(0, _), (1, _), (2, _), (3, _), (5, _), (7, _), (8, _)]) [0, 1, 2, 3, 5, 7, 8] dX0_minutesNearer_35 rfl (by decide) (Nat.le_of_ble_eq_true rfl) rfl ?_
        refine q_aload_n dX0_minutesNearer_38 rfl ?_
        refine q_aload_n dX0_minutesNearer_39 rfl ?_
        refine q_aload_n dX0_minutesNearer_40 rfl ?_
        refine q_iload dX0_minutesNearer_41 rfl ?_
        obtain ⟨r7, hr8, h⟩ := q_bd h
        refine c_V0 (as := [_, _, _]) (st := []) (ci := 0) dX0_minutesNearer_43 okX0_moveAll lX0_53 ⟨rfl, rfl⟩ ⟨Nat.le_of_ble_eq_true rfl, Nat.le_of_ble_eq_true rfl⟩ (by decide) rfl rfl (Nat.lt_of_lt_of_le (Nat.le_of_ble_eq_true rfl) hn) rfl rfl (Nat.le_of_ble_eq_true rfl) (Nat.le_of_ble_eq_true rfl) (t_X0_moveAll hn hF hb1 hr8) ?_
        refine q_iinc1 (w := 1) (ls' := [(0, _), (1, _), (2, _), (3, _), (5, _), (7, _), (8, _)]) [0, 1, 2, 3, 5, 7, 8] dX0_minutesNearer_46 rfl (by decide) (Nat.le_of_ble_eq_true rfl) rfl ?_
        refine q_goto 19 dX0_minutesNearer_49 (by decide) ?_
        exact ih _ _ _ _ _ h hx0
def f_X0_minutesNearer (a1 : Nat) (x3 : Int32) (x4 : Int32) (m : q_Mm) : Option (Int32 × q_Mm) :=
  (f_X0_beginAll  m).bind fun r1 =>
  (l_X0_minutesNearer_19 7000 a1 x3 (x4.toInt64 * x4.toInt64) 0 0 r1).bind fun r9 =>
  some ((r9.1, r9.2))
set_option maxRecDepth 100000 in
set_option maxHeartbeats 4000000 in
theorem t_X0_minutesNearer {g : q_G} {n : Nat} {F : Nat → Nat → Option Nat} (hn : 89 ≤ n) (hF : q_FF F) {a1 : Nat} (ha1 : q_isPlan a1) {x3 : Int32} {x4 : Int32} {m : q_Mm} {r : Int32 × q_Mm} (h : f_X0_minutesNearer a1 x3 x4 m = some r) : q_Cn g mX0_minutesNearer [q_r g 3, q_r g a1, q_r g 2, .int x3, .int x4] (q_mk n F m) (q_Q (some (.int r.1)) (q_mk n F r.2)) := by
  unfold f_X0_minutesNearer at h
  show q_V g mX0_minutesNearer q_T _ _ _ 0 [(0, q_r g 3), (1, q_r g a1), (2, q_r g 2), (3, .int x3), (4, .int x4)] [] (q_mk n F m)
  refine q_iload dX0_minutesNearer_0 rfl ?_
  refine q_i2l dX0_minutesNearer_2 ?_
  refine q_iload dX0_minutesNearer_3 rfl ?_
  refine q_i2l dX0_minutesNearer_5 ?_
  refine q_lmul dX0_minutesNearer_6 ?_
  refine q_lstore (ls' := [(0, _), (1, _), (2, _), (3, _), (5, _)]) [0, 1, 2, 3, 5] dX0_minutesNearer_7 (Nat.le_of_ble_eq_true rfl) rfl ?_
  refine q_iconst (v := 0) dX0_minutesNearer_9 (by decide) ?_
  refine q_istore (ls' := [(0, _), (1, _), (2, _), (3, _), (5, _), (7, _)]) [0, 1, 2, 3, 5, 7] dX0_minutesNearer_10 (Nat.le_of_ble_eq_true rfl) rfl ?_
  refine q_aload_n dX0_minutesNearer_12 rfl ?_
  obtain ⟨r1, hr2, h⟩ := q_bd h
  refine c_V0 (as := []) (st := []) (ci := 0) dX0_minutesNearer_13 okX0_beginAll lX0_46 ⟨rfl, rfl⟩ ⟨Nat.le_of_ble_eq_true rfl, Nat.le_of_ble_eq_true rfl⟩ (by decide) rfl rfl (Nat.lt_of_lt_of_le (Nat.le_of_ble_eq_true rfl) hn) rfl rfl (Nat.le_of_ble_eq_true rfl) (Nat.le_of_ble_eq_true rfl) (t_X0_beginAll hn hF  hr2) ?_
  refine q_iconst (v := 0) dX0_minutesNearer_16 (by decide) ?_
  refine q_istore (ls' := [(0, _), (1, _), (2, _), (3, _), (5, _), (7, _), (8, _)]) [0, 1, 2, 3, 5, 7, 8] dX0_minutesNearer_17 (Nat.le_of_ble_eq_true rfl) rfl ?_
  obtain ⟨r9, hr10, h⟩ := q_bd h
  refine t_l_X0_minutesNearer_19 hn hF ha1 7000 _ _ _ _ _ hr10 ?_
  refine q_iload dX0_minutesNearer_52 rfl ?_
  cases h
  exact q_iret dX0_minutesNearer_54 rfl ⟨rfl, rfl⟩
def f_X1_clearMinutes (x1 : Int32) (x2 : Int32) (m : q_Mm) : (Int32) :=
  (q_max 0 (x2 - x1)) - (q_max 0 ((q_min x2 (m.1 2 1)) - (q_max x1 (m.1 2 0))))
set_option maxRecDepth 100000 in
set_option maxHeartbeats 4000000 in
theorem t_X1_clearMinutes {g : q_G} {n : Nat} {F : Nat → Nat → Option Nat} (hn : 89 ≤ n) (hF : q_FF F)  {x1 : Int32} {x2 : Int32} {m : q_Mm} {r : Int32} (h : f_X1_clearMinutes x1 x2 m = r) : q_Cn g mX1_clearMinutes [q_r g 2, .int x1, .int x2] (q_mk n F m) (q_Q (some (.int r)) (q_mk n F m)) := by
  unfold f_X1_clearMinutes at h
  show q_V g mX1_clearMinutes q_T _ _ _ 0 [(0, q_r g 2), (1, .int x1), (2, .int x2)] [] (q_mk n F m)
  refine q_iconst (v := 0) dX1_clearMinutes_0 (by decide) ?_
  refine q_iload_n dX1_clearMinutes_1 rfl ?_
  refine q_iload_n dX1_clearMinutes_2 rfl ?_
  refine q_isub dX1_clearMinutes_3 ?_
  refine q_mmax dX1_clearMinutes_4 lX1_16 (Nat.le_of_ble_eq_true rfl) (Nat.le_of_ble_eq_true rfl) ?_
  refine q_istore_n (ls' := [(0, _), (1, _), (2, _), (3, _)]) [0, 1, 2, 3] dX1_clearMinutes_7 (Nat.le_of_ble_eq_true rfl) rfl ?_
  refine q_iload_n dX1_clearMinutes_8 rfl ?_
  refine q_iconst (v := 0) dX1_clearMinutes_9 (by decide) ?_
  refine q_iload_n dX1_clearMinutes_10 rfl ?_
  refine q_aload_n dX1_clearMinutes_11 rfl ?_
  refine u_geti dX1_clearMinutes_12 fX1_13 rfl rfl (Nat.lt_of_lt_of_le (Nat.le_of_ble_eq_true rfl) hn) ?_
  refine q_mmin dX1_clearMinutes_15 lX1_22 (Nat.le_of_ble_eq_true rfl) (Nat.le_of_ble_eq_true rfl) ?_
  refine q_iload_n dX1_clearMinutes_18 rfl ?_
  refine q_aload_n dX1_clearMinutes_19 rfl ?_
  refine u_geti dX1_clearMinutes_20 fX1_7 rfl rfl (Nat.lt_of_lt_of_le (Nat.le_of_ble_eq_true rfl) hn) ?_
  refine q_mmax dX1_clearMinutes_23 lX1_16 (Nat.le_of_ble_eq_true rfl) (Nat.le_of_ble_eq_true rfl) ?_
  refine q_isub dX1_clearMinutes_26 ?_
  refine q_mmax dX1_clearMinutes_27 lX1_16 (Nat.le_of_ble_eq_true rfl) (Nat.le_of_ble_eq_true rfl) ?_
  refine q_isub dX1_clearMinutes_30 ?_
  subst h
  exact q_iret dX1_clearMinutes_31 rfl ⟨rfl, rfl⟩
def f_X2_add (x1 : Int32) (x2 : Int32) (x3 : Int32) (m : q_Mm) : Option (q_Mm) :=
  if q_in (m.1 38 3) 12 = true then
  if q_in ((q_wi m 39 ((m.1 38 3).toNatClampNeg) x1).1 38 3) 12 = true then
  if q_in ((q_wi (q_wi m 39 ((m.1 38 3).toNatClampNeg) x1) 40 (((q_wi m 39 ((m.1 38 3).toNatClampNeg) x1).1 38 3).toNatClampNeg) x2).1 38 3) 12 = true then
  some (q_wi (q_wi (q_wi (q_wi m 39 ((m.1 38 3).toNatClampNeg) x1) 40 (((q_wi m 39 ((m.1 38 3).toNatClampNeg) x1).1 38 3).toNatClampNeg) x2) 41 (((q_wi (q_wi m 39 ((m.1 38 3).toNatClampNeg) x1) 40 (((q_wi m 39 ((m.1 38 3).toNatClampNeg) x1).1 38 3).toNatClampNeg) x2).1 38 3).toNatClampNeg) x3) 38 3 (((q_wi (q_wi (q_wi m 39 ((m.1 38 3).toNatClampNeg) x1) 40 (((q_wi m 39 ((m.1 38 3).toNatClampNeg) x1).1 38 3).toNatClampNeg) x2) 41 (((q_wi (q_wi m 39 ((m.1 38 3).toNatClampNeg) x1) 40 (((q_wi m 39 ((m.1 38 3).toNatClampNeg) x1).1 38 3).toNatClampNeg) x2).1 38 3).toNatClampNeg) x3).1 38 3) + 1))
  else none
  else none
  else none
set_option maxRecDepth 100000 in
set_option maxHeartbeats 4000000 in
theorem t_X2_add {g : q_G} {n : Nat} {F : Nat → Nat → Option Nat} (hn : 89 ≤ n) (hF : q_FF F)  {x1 : Int32} {x2 : Int32} {x3 : Int32} {m : q_Mm} {r : q_Mm} (h : f_X2_add x1 x2 x3 m = some r) : q_Cn g mX2_add [q_r g 38, .int x1, .int x2, .int x3] (q_mk n F m) (q_Q none (q_mk n F r)) := by
  unfold f_X2_add at h
  show q_V g mX2_add q_T _ _ _ 0 [(0, q_r g 38), (1, .int x1), (2, .int x2), (3, .int x3)] [] (q_mk n F m)
  refine q_aload_n dX2_add_0 rfl ?_
  refine u_getr dX2_add_1 fX2_9 rfl rfl (Nat.lt_of_lt_of_le (Nat.le_of_ble_eq_true rfl) hn) (hF 38 0 39 rfl) ?_
  refine q_aload_n dX2_add_4 rfl ?_
  refine u_geti dX2_add_5 fX2_21 rfl rfl (Nat.lt_of_lt_of_le (Nat.le_of_ble_eq_true rfl) hn) ?_
  refine q_iload_n dX2_add_8 rfl ?_
  obtain ⟨hi1, h⟩ := q_is h
  refine u_iast dX2_add_9 rfl (Nat.lt_of_lt_of_le (Nat.le_of_ble_eq_true rfl) hn) (q_in_vp hi1) ?_
  refine q_aload_n dX2_add_10 rfl ?_
  refine u_getr dX2_add_11 fX2_15 rfl rfl (Nat.lt_of_lt_of_le (Nat.le_of_ble_eq_true rfl) hn) (hF 38 1 40 rfl) ?_
  refine q_aload_n dX2_add_14 rfl ?_
  refine u_geti dX2_add_15 fX2_21 rfl rfl (Nat.lt_of_lt_of_le (Nat.le_of_ble_eq_true rfl) hn) ?_
  refine q_iload_n dX2_add_18 rfl ?_
  obtain ⟨hi2, h⟩ := q_is h
  refine u_iast dX2_add_19 rfl (Nat.lt_of_lt_of_le (Nat.le_of_ble_eq_true rfl) hn) (q_in_vp hi2) ?_
  refine q_aload_n dX2_add_20 rfl ?_
  refine u_getr dX2_add_21 fX2_18 rfl rfl (Nat.lt_of_lt_of_le (Nat.le_of_ble_eq_true rfl) hn) (hF 38 2 41 rfl) ?_
  refine q_aload_n dX2_add_24 rfl ?_
  refine u_geti dX2_add_25 fX2_21 rfl rfl (Nat.lt_of_lt_of_le (Nat.le_of_ble_eq_true rfl) hn) ?_
  refine q_iload_n dX2_add_28 rfl ?_
  obtain ⟨hi3, h⟩ := q_is h
  refine u_iast dX2_add_29 rfl (Nat.lt_of_lt_of_le (Nat.le_of_ble_eq_true rfl) hn) (q_in_vp hi3) ?_
  refine q_aload_n dX2_add_30 rfl ?_
  refine q_dup dX2_add_31 rfl ?_
  refine u_geti dX2_add_32 fX2_21 rfl rfl (Nat.lt_of_lt_of_le (Nat.le_of_ble_eq_true rfl) hn) ?_
  refine q_iconst (v := 1) dX2_add_35 (by decide) ?_
  refine q_iadd dX2_add_36 ?_
  refine u_puti dX2_add_37 fX2_21 rfl rfl (Nat.lt_of_lt_of_le (Nat.le_of_ble_eq_true rfl) hn) rfl rfl rfl ?_
  cases h
  exact q_vret dX2_add_40 rfl ⟨rfl, rfl⟩
def f_X2_consider (x1 : Int64) (x3 : Int32) (x4 : Int32) (m : q_Mm) : (q_Mm) :=
  if (m.2 38 7) ≤ x1 then
    m
  else
    q_wi (q_wi (q_wi (q_wl m 38 7 x1) 38 8 ((q_wl m 38 7 x1).1 42 3)) 38 9 x3) 38 10 x4
set_option maxRecDepth 100000 in
set_option maxHeartbeats 4000000 in
theorem t_X2_consider {g : q_G} {n : Nat} {F : Nat → Nat → Option Nat} (hn : 89 ≤ n) (hF : q_FF F)  {x1 : Int64} {x3 : Int32} {x4 : Int32} {m : q_Mm} {r : q_Mm} (h : f_X2_consider x1 x3 x4 m = r) : q_Cn g mX2_consider [q_r g 38, .long x1, .int x3, .int x4] (q_mk n F m) (q_Q none (q_mk n F r)) := by
  unfold f_X2_consider at h
  show q_V g mX2_consider q_T _ _ _ 0 [(0, q_r g 38), (1, .long x1), (3, .int x3), (4, .int x4)] [] (q_mk n F m)
  refine q_lload_n dX2_consider_0 rfl ?_
  refine q_aload_n dX2_consider_1 rfl ?_
  refine u_getl dX2_consider_2 fX2_39 rfl rfl (Nat.lt_of_lt_of_le (Nat.le_of_ble_eq_true rfl) hn) ?_
  refine q_lcmp_ge 36 dX2_consider_5 dX2_consider_6 (by decide) (fun hc => ?_) (fun hc => ?_)
  · have h := q_it hc h
    subst h
    exact q_vret dX2_consider_36 rfl ⟨rfl, rfl⟩
  · have h := q_if hc h
    refine q_aload_n dX2_consider_9 rfl ?_
    refine q_lload_n dX2_consider_10 rfl ?_
    refine u_putl dX2_consider_11 fX2_39 rfl rfl (Nat.lt_of_lt_of_le (Nat.le_of_ble_eq_true rfl) hn) rfl rfl rfl ?_
    refine q_aload_n dX2_consider_14 rfl ?_
    refine q_aload_n dX2_consider_15 rfl ?_
    refine u_getr dX2_consider_16 fX2_28 rfl rfl (Nat.lt_of_lt_of_le (Nat.le_of_ble_eq_true rfl) hn) (hF 38 4 42 rfl) ?_
    refine u_geti dX2_consider_19 fX2_57 rfl rfl (Nat.lt_of_lt_of_le (Nat.le_of_ble_eq_true rfl) hn) ?_
    refine u_puti dX2_consider_22 fX2_43 rfl rfl (Nat.lt_of_lt_of_le (Nat.le_of_ble_eq_true rfl) hn) rfl rfl rfl ?_
    refine q_aload_n dX2_consider_25 rfl ?_
    refine q_iload_n dX2_consider_26 rfl ?_
    refine u_puti dX2_consider_27 fX2_46 rfl rfl (Nat.lt_of_lt_of_le (Nat.le_of_ble_eq_true rfl) hn) rfl rfl rfl ?_
    refine q_aload_n dX2_consider_30 rfl ?_
    refine q_iload dX2_consider_31 rfl ?_
    refine u_puti dX2_consider_33 fX2_49 rfl rfl (Nat.lt_of_lt_of_le (Nat.le_of_ble_eq_true rfl) hn) rfl rfl rfl ?_
    subst h
    exact q_vret dX2_consider_36 rfl ⟨rfl, rfl⟩
def l_X2_misfitLess_6 : Nat → Int32 → Int32 → Int32 → Int32 → Int64 → Int32 → q_Mm → Option (Int64)
  | 0, _, _, _, _, _, _, _ => none
  | k + 1, y2, y3, y4, y5, y6, y8, m =>
    if (m.1 38 3) ≤ y8 then
      some (y6)
    else
      if q_in y8 12 = true then
      if q_in (m.1 39 y8.toNatClampNeg) 601 = true then
      if q_in y8 12 = true then
      if q_in (m.1 39 y8.toNatClampNeg) 601 = true then
      if q_in y8 12 = true then
      l_X2_misfitLess_6 k  y2 y3 y4 y5 ((y6 + (q_absL (((m.2 44 (m.1 39 y8.toNatClampNeg).toNatClampNeg) + (((f_X1_clearMinutes y2 (q_min y3 (m.1 39 y8.toNatClampNeg)) m).toInt64) * y4.toInt64)) - ((m.1 40 y8.toNatClampNeg).toInt64)))) + (q_absL (((m.2 45 (m.1 39 y8.toNatClampNeg).toNatClampNeg) + (((f_X1_clearMinutes y2 (q_min y3 (m.1 39 y8.toNatClampNeg)) m).toInt64) * y5.toInt64)) - ((m.1 41 y8.toNatClampNeg).toInt64)))) (y8 + 1) m
      else none
      else none
      else none
      else none
      else none
set_option maxRecDepth 100000 in
set_option maxHeartbeats 4000000 in
theorem t_l_X2_misfitLess_6 {g : q_G} {n : Nat} {F : Nat → Nat → Option Nat} {Z : List Frame → Array Value → State → State → Prop} {kc ks : Nat} (hn : 89 ≤ n) (hF : q_FF F)  : ∀ (k : Nat) (y2 : Int32) (y3 : Int32) (y4 : Int32) (y5 : Int32) (y6 : Int64) (y8 : Int32) (m : q_Mm) {r : Int64}, l_X2_misfitLess_6 k y2 y3 y4 y5 y6 y8 m = some r → (q_V g mX2_misfitLess q_T Z kc ks 106 [(6, .long r)] [] (q_mk n F m)) → q_V g mX2_misfitLess q_T Z kc ks 6 [(0, q_r g 38), (1, q_r g 2), (2, .int y2), (3, .int y3), (4, .int y4), (5, .int y5), (6, .long y6), (8, .int y8)] [] (q_mk n F m) := by
  intro k
  induction k with
  | zero => intro y2 y3 y4 y5 y6 y8 m r h; cases h
  | succ k ih =>
    intro y2 y3 y4 y5 y6 y8 m r h hx0
    unfold l_X2_misfitLess_6 at h
    refine q_iload dX2_misfitLess_6 rfl ?_
    refine q_aload_n dX2_misfitLess_8 rfl ?_
    refine u_geti dX2_misfitLess_9 fX2_21 rfl rfl (Nat.lt_of_lt_of_le (Nat.le_of_ble_eq_true rfl) hn) ?_
    refine q_icmp_ge 106 dX2_misfitLess_12 (by decide) (fun hc => ?_) (fun hc => ?_)
    · have h := q_it hc h
      refine q_drop [6] (ls' := [(6, _)]) rfl ?_
      cases h
      exact hx0
    · have h := q_if hc h
      refine q_aload_n dX2_misfitLess_15 rfl ?_
      refine u_getr dX2_misfitLess_16 fX2_9 rfl rfl (Nat.lt_of_lt_of_le (Nat.le_of_ble_eq_true rfl) hn) (hF 38 0 39 rfl) ?_
      refine q_iload dX2_misfitLess_19 rfl ?_
      obtain ⟨hi1, h⟩ := q_is h
      refine u_iald dX2_misfitLess_21 rfl (Nat.lt_of_lt_of_le (Nat.le_of_ble_eq_true rfl) hn) (q_in_vp hi1) ?_
      refine q_istore (ls' := [(0, _), (1, _), (2, _), (3, _), (4, _), (5, _), (6, _), (8, _), (9, _)]) [0, 1, 2, 3, 4, 5, 6, 8, 9] dX2_misfitLess_22 (Nat.le_of_ble_eq_true rfl) rfl ?_
      refine q_aload_n dX2_misfitLess_24 rfl ?_
      refine q_iload_n dX2_misfitLess_25 rfl ?_
      refine q_iload_n dX2_misfitLess_26 rfl ?_
      refine q_iload dX2_misfitLess_27 rfl ?_
      refine q_mmin dX2_misfitLess_29 lX2_112 (Nat.le_of_ble_eq_true rfl) (Nat.le_of_ble_eq_true rfl) ?_
      refine c_V1 (as := [_, _]) (st := []) (ci := 1) dX2_misfitLess_32 okX1_clearMinutes lX2_115 ⟨rfl, rfl⟩ ⟨Nat.le_of_ble_eq_true rfl, Nat.le_of_ble_eq_true rfl⟩ (by decide) rfl rfl (Nat.lt_of_lt_of_le (Nat.le_of_ble_eq_true rfl) hn) rfl rfl (Nat.le_of_ble_eq_true rfl) (Nat.le_of_ble_eq_true rfl) (t_X1_clearMinutes hn hF  rfl) ?_
      refine q_i2l dX2_misfitLess_35 ?_
      refine q_lstore (ls' := [(0, _), (1, _), (2, _), (3, _), (4, _), (5, _), (6, _), (8, _), (9, _), (10, _)]) [0, 1, 2, 3, 4, 5, 6, 8, 9, 10] dX2_misfitLess_36 (Nat.le_of_ble_eq_true rfl) rfl ?_
      refine q_lload dX2_misfitLess_38 rfl ?_
      refine q_aload_n dX2_misfitLess_40 rfl ?_
      refine u_getr dX2_misfitLess_41 fX2_32 rfl rfl (Nat.lt_of_lt_of_le (Nat.le_of_ble_eq_true rfl) hn) (hF 38 5 44 rfl) ?_
      refine q_iload dX2_misfitLess_44 rfl ?_
      obtain ⟨hi2, h⟩ := q_is h
      refine u_lald dX2_misfitLess_46 rfl (Nat.lt_of_lt_of_le (Nat.le_of_ble_eq_true rfl) hn) (q_in_vp hi2) ?_
      refine q_lload dX2_misfitLess_47 rfl ?_
      refine q_iload dX2_misfitLess_49 rfl ?_
      refine q_i2l dX2_misfitLess_51 ?_
      refine q_lmul dX2_misfitLess_52 ?_
      refine q_ladd dX2_misfitLess_53 ?_
      refine q_aload_n dX2_misfitLess_54 rfl ?_
      refine u_getr dX2_misfitLess_55 fX2_15 rfl rfl (Nat.lt_of_lt_of_le (Nat.le_of_ble_eq_true rfl) hn) (hF 38 1 40 rfl) ?_
      refine q_iload dX2_misfitLess_58 rfl ?_
      obtain ⟨hi3, h⟩ := q_is h
      refine u_iald dX2_misfitLess_60 rfl (Nat.lt_of_lt_of_le (Nat.le_of_ble_eq_true rfl) hn) (q_in_vp hi3) ?_
      refine q_i2l dX2_misfitLess_61 ?_
      refine q_lsub dX2_misfitLess_62 ?_
      refine q_mabsL dX2_misfitLess_63 lX2_120 (Nat.le_of_ble_eq_true rfl) (Nat.le_of_ble_eq_true rfl) ?_
      refine q_ladd dX2_misfitLess_66 ?_
      refine q_lstore (ls' := [(0, _), (1, _), (2, _), (3, _), (4, _), (5, _), (6, _), (8, _), (9, _), (10, _)]) [0, 1, 2, 3, 4, 5, 6, 8, 9, 10] dX2_misfitLess_67 (Nat.le_of_ble_eq_true rfl) rfl ?_
      refine q_lload dX2_misfitLess_69 rfl ?_
      refine q_aload_n dX2_misfitLess_71 rfl ?_
      refine u_getr dX2_misfitLess_72 fX2_36 rfl rfl (Nat.lt_of_lt_of_le (Nat.le_of_ble_eq_true rfl) hn) (hF 38 6 45 rfl) ?_
      refine q_iload dX2_misfitLess_75 rfl ?_
      obtain ⟨hi4, h⟩ := q_is h
      refine u_lald dX2_misfitLess_77 rfl (Nat.lt_of_lt_of_le (Nat.le_of_ble_eq_true rfl) hn) (q_in_vp hi4) ?_
      refine q_lload dX2_misfitLess_78 rfl ?_
      refine q_iload dX2_misfitLess_80 rfl ?_
      refine q_i2l dX2_misfitLess_82 ?_
      refine q_lmul dX2_misfitLess_83 ?_
      refine q_ladd dX2_misfitLess_84 ?_
      refine q_aload_n dX2_misfitLess_85 rfl ?_
      refine u_getr dX2_misfitLess_86 fX2_18 rfl rfl (Nat.lt_of_lt_of_le (Nat.le_of_ble_eq_true rfl) hn) (hF 38 2 41 rfl) ?_
      refine q_iload dX2_misfitLess_89 rfl ?_
      obtain ⟨hi5, h⟩ := q_is h
      refine u_iald dX2_misfitLess_91 rfl (Nat.lt_of_lt_of_le (Nat.le_of_ble_eq_true rfl) hn) (q_in_vp hi5) ?_
      refine q_i2l dX2_misfitLess_92 ?_
      refine q_lsub dX2_misfitLess_93 ?_
      refine q_mabsL dX2_misfitLess_94 lX2_120 (Nat.le_of_ble_eq_true rfl) (Nat.le_of_ble_eq_true rfl) ?_
      refine q_ladd dX2_misfitLess_97 ?_
      refine q_lstore (ls' := [(0, _), (1, _), (2, _), (3, _), (4, _), (5, _), (6, _), (8, _)]) [0, 1, 2, 3, 4, 5, 6, 8] dX2_misfitLess_98 (Nat.le_of_ble_eq_true rfl) rfl ?_
      refine q_iinc1 (w := 1) (ls' := [(0, _), (1, _), (2, _), (3, _), (4, _), (5, _), (6, _), (8, _)]) [0, 1, 2, 3, 4, 5, 6, 8] dX2_misfitLess_100 rfl (by decide) (Nat.le_of_ble_eq_true rfl) rfl ?_
      refine q_goto 6 dX2_misfitLess_103 (by decide) ?_
      exact ih _ _ _ _ _ _ _ h hx0
def f_X2_misfitLess (x2 : Int32) (x3 : Int32) (x4 : Int32) (x5 : Int32) (m : q_Mm) : Option (Int64) :=
  (l_X2_misfitLess_6 7000  x2 x3 x4 x5 0 0 m).bind fun r6 =>
  some (r6)
set_option maxRecDepth 100000 in
set_option maxHeartbeats 4000000 in
theorem t_X2_misfitLess {g : q_G} {n : Nat} {F : Nat → Nat → Option Nat} (hn : 89 ≤ n) (hF : q_FF F)  {x2 : Int32} {x3 : Int32} {x4 : Int32} {x5 : Int32} {m : q_Mm} {r : Int64} (h : f_X2_misfitLess x2 x3 x4 x5 m = some r) : q_Cn g mX2_misfitLess [q_r g 38, q_r g 2, .int x2, .int x3, .int x4, .int x5] (q_mk n F m) (q_Q (some (.long r)) (q_mk n F m)) := by
  unfold f_X2_misfitLess at h
  show q_V g mX2_misfitLess q_T _ _ _ 0 [(0, q_r g 38), (1, q_r g 2), (2, .int x2), (3, .int x3), (4, .int x4), (5, .int x5)] [] (q_mk n F m)
  refine q_lconst (v := 0) dX2_misfitLess_0 (by decide) ?_
  refine q_lstore (ls' := [(0, _), (1, _), (2, _), (3, _), (4, _), (5, _), (6, _)]) [0, 1, 2, 3, 4, 5, 6] dX2_misfitLess_1 (Nat.le_of_ble_eq_true rfl) rfl ?_
  refine q_iconst (v := 0) dX2_misfitLess_3 (by decide) ?_
  refine q_istore (ls' := [(0, _), (1, _), (2, _), (3, _), (4, _), (5, _), (6, _), (8, _)]) [0, 1, 2, 3, 4, 5, 6, 8] dX2_misfitLess_4 (Nat.le_of_ble_eq_true rfl) rfl ?_
  obtain ⟨r6, hr7, h⟩ := q_bd h
  refine t_l_X2_misfitLess_6 hn hF  7000 _ _ _ _ _ _ _ hr7 ?_
  refine q_lload dX2_misfitLess_106 rfl ?_
  cases h
  exact q_lret dX2_misfitLess_108 rfl ⟨rfl, rfl⟩
