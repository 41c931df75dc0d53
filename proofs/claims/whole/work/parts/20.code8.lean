def f_X10_fog (x1 : Int32) (x2 : Int32) (m : q_Mm) : (Int32 × q_Mm) :=
  if (f_X10_in x1.toInt64 0 x2.toInt64 m) = 0 then
    ((-2), m)
  else
    if (f_X10_in x2.toInt64 0 600 m) = 0 then
      ((-2), m)
    else
      (1, q_wi (q_wi m 58 16 x1) 58 17 x2)
set_option maxRecDepth 100000 in
set_option maxHeartbeats 4000000 in
theorem t_X10_fog {g : q_G} {n : Nat} {F : Nat → Nat → Option Nat} (hn : 89 ≤ n) (hF : q_FF F)  {x1 : Int32} {x2 : Int32} {m : q_Mm} {r : Int32 × q_Mm} (h : f_X10_fog x1 x2 m = r) : q_Cn g mX10_fog [q_r g 58, .int x1, .int x2] (q_mk n F m) (q_Q (some (.int r.1)) (q_mk n F r.2)) := by
  unfold f_X10_fog at h
  show q_V g mX10_fog q_T _ _ _ 0 [(0, q_r g 58), (1, .int x1), (2, .int x2)] [] (q_mk n F m)
  refine q_iload_n dX10_fog_0 rfl ?_
  refine q_i2l dX10_fog_1 ?_
  refine q_lconst (v := 0) dX10_fog_2 (by decide) ?_
  refine q_iload_n dX10_fog_3 rfl ?_
  refine q_i2l dX10_fog_4 ?_
  refine c_S1 (as := [_, _, _]) (st := []) dX10_fog_5 okX10_in lX10_122 ⟨rfl, rfl⟩ ⟨Nat.le_of_ble_eq_true rfl, Nat.le_of_ble_eq_true rfl⟩ rfl rfl (Nat.le_of_ble_eq_true rfl) (Nat.le_of_ble_eq_true rfl) (t_X10_in hn hF  rfl) ?_
  refine q_if_eq 23 dX10_fog_8 (by decide) (fun hc => ?_) (fun hc => ?_)
  · have h := q_it hc h
    refine q_bipush (v := (-2)) dX10_fog_23 (by decide) ?_
    subst h
    exact q_iret dX10_fog_25 rfl ⟨rfl, rfl⟩
  · have h := q_if hc h
    refine q_iload_n dX10_fog_11 rfl ?_
    refine q_i2l dX10_fog_12 ?_
    refine q_lconst (v := 0) dX10_fog_13 (by decide) ?_
    refine q_ldc2 dX10_fog_14 kX10_136 ?_
    refine c_S1 (as := [_, _, _]) (st := []) dX10_fog_17 okX10_in lX10_122 ⟨rfl, rfl⟩ ⟨Nat.le_of_ble_eq_true rfl, Nat.le_of_ble_eq_true rfl⟩ rfl rfl (Nat.le_of_ble_eq_true rfl) (Nat.le_of_ble_eq_true rfl) (t_X10_in hn hF  rfl) ?_
    refine q_if_ne 26 dX10_fog_20 (by decide) (fun hc => ?_) (fun hc => ?_)
    · have h := q_if hc h
      refine q_aload_n dX10_fog_26 rfl ?_
      refine q_iload_n dX10_fog_27 rfl ?_
      refine u_puti dX10_fog_28 fX10_204 rfl rfl (Nat.lt_of_lt_of_le (Nat.le_of_ble_eq_true rfl) hn) rfl rfl rfl ?_
      refine q_aload_n dX10_fog_31 rfl ?_
      refine q_iload_n dX10_fog_32 rfl ?_
      refine u_puti dX10_fog_33 fX10_207 rfl rfl (Nat.lt_of_lt_of_le (Nat.le_of_ble_eq_true rfl) hn) rfl rfl rfl ?_
      refine q_iconst (v := 1) dX10_fog_36 (by decide) ?_
      subst h
      exact q_iret dX10_fog_37 rfl ⟨rfl, rfl⟩
    · have h := q_it hc h
      refine q_bipush (v := (-2)) dX10_fog_23 (by decide) ?_
      subst h
      exact q_iret dX10_fog_25 rfl ⟨rfl, rfl⟩
def f_X10_step (x1 : Int32) (x2 : Int32) (x3 : Int32) (m : q_Mm) : Option (q_Mm) :=
  if x1 < (m.1 58 16) then
    if (0 : Int32) = 0 then
      (f_X10_courseAt (m.1 58 3) (x1 + x2) m).bind fun r1 =>
      some ((f_X10_go r1 x3 m))
    else
      some ((f_X10_go 0 x3 m))
  else
    if (m.1 58 17) ≤ x1 then
      if (0 : Int32) = 0 then
        (f_X10_courseAt (m.1 58 3) (x1 + x2) m).bind fun r3 =>
        some ((f_X10_go r3 x3 m))
      else
        some ((f_X10_go 0 x3 m))
    else
      if (1 : Int32) = 0 then
        (f_X10_courseAt (m.1 58 3) (x1 + x2) m).bind fun r5 =>
        some ((f_X10_go r5 x3 m))
      else
        some ((f_X10_go 0 x3 m))
set_option maxRecDepth 100000 in
set_option maxHeartbeats 4000000 in
theorem t_X10_step {g : q_G} {n : Nat} {F : Nat → Nat → Option Nat} (hn : 89 ≤ n) (hF : q_FF F)  {x1 : Int32} {x2 : Int32} {x3 : Int32} {m : q_Mm} {r : q_Mm} (h : f_X10_step x1 x2 x3 m = some r) : q_Cn g mX10_step [q_r g 58, .int x1, .int x2, .int x3] (q_mk n F m) (q_Q none (q_mk n F r)) := by
  unfold f_X10_step at h
  show q_V g mX10_step q_T _ _ _ 0 [(0, q_r g 58), (1, .int x1), (2, .int x2), (3, .int x3)] [] (q_mk n F m)
  refine q_iload_n dX10_step_0 rfl ?_
  refine q_aload_n dX10_step_1 rfl ?_
  refine u_geti dX10_step_2 fX10_204 rfl rfl (Nat.lt_of_lt_of_le (Nat.le_of_ble_eq_true rfl) hn) ?_
  refine q_icmp_lt 20 dX10_step_5 (by decide) (fun hc => ?_) (fun hc => ?_)
  · have h := q_it hc h
    refine q_iconst (v := 0) dX10_step_20 (by decide) ?_
    refine q_istore (ls' := [(0, _), (1, _), (2, _), (3, _), (4, _)]) [0, 1, 2, 3, 4] dX10_step_21 (Nat.le_of_ble_eq_true rfl) rfl ?_
    refine q_aload_n dX10_step_23 rfl ?_
    refine q_iload dX10_step_24 rfl ?_
    refine q_if_eq 33 dX10_step_26 (by decide) (fun hc => ?_) (fun hc => ?_)
    · have h := q_it hc h
      refine q_aload_n dX10_step_33 rfl ?_
      refine q_aload_n dX10_step_34 rfl ?_
      refine u_geti dX10_step_35 fX10_177 rfl rfl (Nat.lt_of_lt_of_le (Nat.le_of_ble_eq_true rfl) hn) ?_
      refine q_iload_n dX10_step_38 rfl ?_
      refine q_iload_n dX10_step_39 rfl ?_
      refine q_iadd dX10_step_40 ?_
      obtain ⟨r1, hr2, h⟩ := q_bd h
      refine c_V1 (as := [_, _]) (st := [_]) (ci := 10) dX10_step_41 okX10_courseAt lX10_141 ⟨rfl, rfl⟩ ⟨Nat.le_of_ble_eq_true rfl, Nat.le_of_ble_eq_true rfl⟩ (by decide) rfl rfl (Nat.lt_of_lt_of_le (Nat.le_of_ble_eq_true rfl) hn) rfl rfl (Nat.le_of_ble_eq_true rfl) (Nat.le_of_ble_eq_true rfl) (t_X10_courseAt hn hF  hr2) ?_
      refine q_iload_n dX10_step_44 rfl ?_
      refine c_V0 (as := [_, _]) (st := []) (ci := 10) dX10_step_45 okX10_go lX10_165 ⟨rfl, rfl⟩ ⟨Nat.le_of_ble_eq_true rfl, Nat.le_of_ble_eq_true rfl⟩ (by decide) rfl rfl (Nat.lt_of_lt_of_le (Nat.le_of_ble_eq_true rfl) hn) rfl rfl (Nat.le_of_ble_eq_true rfl) (Nat.le_of_ble_eq_true rfl) (t_X10_go hn hF  rfl) ?_
      cases h
      exact q_vret dX10_step_48 rfl ⟨rfl, rfl⟩
    · have h := q_if hc h
      refine q_iconst (v := 0) dX10_step_29 (by decide) ?_
      refine q_goto 44 dX10_step_30 (by decide) ?_
      refine q_iload_n dX10_step_44 rfl ?_
      refine c_V0 (as := [_, _]) (st := []) (ci := 10) dX10_step_45 okX10_go lX10_165 ⟨rfl, rfl⟩ ⟨Nat.le_of_ble_eq_true rfl, Nat.le_of_ble_eq_true rfl⟩ (by decide) rfl rfl (Nat.lt_of_lt_of_le (Nat.le_of_ble_eq_true rfl) hn) rfl rfl (Nat.le_of_ble_eq_true rfl) (Nat.le_of_ble_eq_true rfl) (t_X10_go hn hF  rfl) ?_
      cases h
      exact q_vret dX10_step_48 rfl ⟨rfl, rfl⟩
  · have h := q_if hc h
    refine q_iload_n dX10_step_8 rfl ?_
    refine q_aload_n dX10_step_9 rfl ?_
    refine u_geti dX10_step_10 fX10_207 rfl rfl (Nat.lt_of_lt_of_le (Nat.le_of_ble_eq_true rfl) hn) ?_
    refine q_icmp_ge 20 dX10_step_13 (by decide) (fun hc => ?_) (fun hc => ?_)
    · have h := q_it hc h
      refine q_iconst (v := 0) dX10_step_20 (by decide) ?_
      refine q_istore (ls' := [(0, _), (1, _), (2, _), (3, _), (4, _)]) [0, 1, 2, 3, 4] dX10_step_21 (Nat.le_of_ble_eq_true rfl) rfl ?_
      refine q_aload_n dX10_step_23 rfl ?_
      refine q_iload dX10_step_24 rfl ?_
      refine q_if_eq 33 dX10_step_26 (by decide) (fun hc => ?_) (fun hc => ?_)
      · have h := q_it hc h
        refine q_aload_n dX10_step_33 rfl ?_
        refine q_aload_n dX10_step_34 rfl ?_
        refine u_geti dX10_step_35 fX10_177 rfl rfl (Nat.lt_of_lt_of_le (Nat.le_of_ble_eq_true rfl) hn) ?_
        refine q_iload_n dX10_step_38 rfl ?_
        refine q_iload_n dX10_step_39 rfl ?_
        refine q_iadd dX10_step_40 ?_
        obtain ⟨r3, hr4, h⟩ := q_bd h
        refine c_V1 (as := [_, _]) (st := [_]) (ci := 10) dX10_step_41 okX10_courseAt lX10_141 ⟨rfl, rfl⟩ ⟨Nat.le_of_ble_eq_true rfl, Nat.le_of_ble_eq_true rfl⟩ (by decide) rfl rfl (Nat.lt_of_lt_of_le (Nat.le_of_ble_eq_true rfl) hn) rfl rfl (Nat.le_of_ble_eq_true rfl) (Nat.le_of_ble_eq_true rfl) (t_X10_courseAt hn hF  hr4) ?_
        refine q_iload_n dX10_step_44 rfl ?_
        refine c_V0 (as := [_, _]) (st := []) (ci := 10) dX10_step_45 okX10_go lX10_165 ⟨rfl, rfl⟩ ⟨Nat.le_of_ble_eq_true rfl, Nat.le_of_ble_eq_true rfl⟩ (by decide) rfl rfl (Nat.lt_of_lt_of_le (Nat.le_of_ble_eq_true rfl) hn) rfl rfl (Nat.le_of_ble_eq_true rfl) (Nat.le_of_ble_eq_true rfl) (t_X10_go hn hF  rfl) ?_
        cases h
        exact q_vret dX10_step_48 rfl ⟨rfl, rfl⟩
      · have h := q_if hc h
        refine q_iconst (v := 0) dX10_step_29 (by decide) ?_
        refine q_goto 44 dX10_step_30 (by decide) ?_
        refine q_iload_n dX10_step_44 rfl ?_
        refine c_V0 (as := [_, _]) (st := []) (ci := 10) dX10_step_45 okX10_go lX10_165 ⟨rfl, rfl⟩ ⟨Nat.le_of_ble_eq_true rfl, Nat.le_of_ble_eq_true rfl⟩ (by decide) rfl rfl (Nat.lt_of_lt_of_le (Nat.le_of_ble_eq_true rfl) hn) rfl rfl (Nat.le_of_ble_eq_true rfl) (Nat.le_of_ble_eq_true rfl) (t_X10_go hn hF  rfl) ?_
        cases h
        exact q_vret dX10_step_48 rfl ⟨rfl, rfl⟩
    · have h := q_if hc h
      refine q_iconst (v := 1) dX10_step_16 (by decide) ?_
      refine q_goto 21 dX10_step_17 (by decide) ?_
      refine q_istore (ls' := [(0, _), (1, _), (2, _), (3, _), (4, _)]) [0, 1, 2, 3, 4] dX10_step_21 (Nat.le_of_ble_eq_true rfl) rfl ?_
      refine q_aload_n dX10_step_23 rfl ?_
      refine q_iload dX10_step_24 rfl ?_
      refine q_if_eq 33 dX10_step_26 (by decide) (fun hc => ?_) (fun hc => ?_)
      · have h := q_it hc h
        refine q_aload_n dX10_step_33 rfl ?_
        refine q_aload_n dX10_step_34 rfl ?_
        refine u_geti dX10_step_35 fX10_177 rfl rfl (Nat.lt_of_lt_of_le (Nat.le_of_ble_eq_true rfl) hn) ?_
        refine q_iload_n dX10_step_38 rfl ?_
        refine q_iload_n dX10_step_39 rfl ?_
        refine q_iadd dX10_step_40 ?_
        obtain ⟨r5, hr6, h⟩ := q_bd h
        refine c_V1 (as := [_, _]) (st := [_]) (ci := 10) dX10_step_41 okX10_courseAt lX10_141 ⟨rfl, rfl⟩ ⟨Nat.le_of_ble_eq_true rfl, Nat.le_of_ble_eq_true rfl⟩ (by decide) rfl rfl (Nat.lt_of_lt_of_le (Nat.le_of_ble_eq_true rfl) hn) rfl rfl (Nat.le_of_ble_eq_true rfl) (Nat.le_of_ble_eq_true rfl) (t_X10_courseAt hn hF  hr6) ?_
        refine q_iload_n dX10_step_44 rfl ?_
        refine c_V0 (as := [_, _]) (st := []) (ci := 10) dX10_step_45 okX10_go lX10_165 ⟨rfl, rfl⟩ ⟨Nat.le_of_ble_eq_true rfl, Nat.le_of_ble_eq_true rfl⟩ (by decide) rfl rfl (Nat.lt_of_lt_of_le (Nat.le_of_ble_eq_true rfl) hn) rfl rfl (Nat.le_of_ble_eq_true rfl) (Nat.le_of_ble_eq_true rfl) (t_X10_go hn hF  rfl) ?_
        cases h
        exact q_vret dX10_step_48 rfl ⟨rfl, rfl⟩
      · have h := q_if hc h
        refine q_iconst (v := 0) dX10_step_29 (by decide) ?_
        refine q_goto 44 dX10_step_30 (by decide) ?_
        refine q_iload_n dX10_step_44 rfl ?_
        refine c_V0 (as := [_, _]) (st := []) (ci := 10) dX10_step_45 okX10_go lX10_165 ⟨rfl, rfl⟩ ⟨Nat.le_of_ble_eq_true rfl, Nat.le_of_ble_eq_true rfl⟩ (by decide) rfl rfl (Nat.lt_of_lt_of_le (Nat.le_of_ble_eq_true rfl) hn) rfl rfl (Nat.le_of_ble_eq_true rfl) (Nat.le_of_ble_eq_true rfl) (t_X10_go hn hF  rfl) ?_
        cases h
        exact q_vret dX10_step_48 rfl ⟨rfl, rfl⟩
def l_X10_layMisses_6 : Nat → Int32 → Int32 → q_Mm → Option (q_Mm)
  | 0, _, _, _ => none
  | k + 1, y1, y2, m =>
    if (m.1 58 15) ≤ y2 then
      some (m)
    else
      if q_in y2 20 = true then
      if q_in (m.1 68 y2.toNatClampNeg) 11 = true then
      if q_in y2 20 = true then
      if (m.1 67 y2.toNatClampNeg) = y1 then
        if q_in y2 20 = true then
        if q_in (m.1 68 y2.toNatClampNeg) 11 = true then
        l_X10_layMisses_6 k  y1 (y2 + 1) (q_wi m 62 ((m.1 68 y2.toNatClampNeg).toNatClampNeg) ((m.1 62 (m.1 68 y2.toNatClampNeg).toNatClampNeg) ||| ((1 : Int32) <<< ((m.1 69 y2.toNatClampNeg) &&& 31))))
        else none
        else none
      else
        if q_in (m.1 68 y2.toNatClampNeg) 11 = true then
        l_X10_layMisses_6 k  y1 (y2 + 1) (q_wi m 62 ((m.1 68 y2.toNatClampNeg).toNatClampNeg) ((m.1 62 (m.1 68 y2.toNatClampNeg).toNatClampNeg) ||| 0))
        else none
      else none
      else none
      else none
set_option maxRecDepth 100000 in
set_option maxHeartbeats 4000000 in
theorem t_l_X10_layMisses_6 {g : q_G} {n : Nat} {F : Nat → Nat → Option Nat} {Z : List Frame → Array Value → State → State → Prop} {kc ks : Nat} (hn : 89 ≤ n) (hF : q_FF F)  : ∀ (k : Nat) (y1 : Int32) (y2 : Int32) (m : q_Mm) {r : q_Mm}, l_X10_layMisses_6 k y1 y2 m = some r → (q_V g mX10_layMisses q_T Z kc ks 56 [] [] (q_mk n F r)) → q_V g mX10_layMisses q_T Z kc ks 6 [(0, q_r g 58), (1, .int y1), (2, .int y2)] [] (q_mk n F m) := by
  intro k
  induction k with
  | zero => intro y1 y2 m r h; cases h
  | succ k ih =>
    intro y1 y2 m r h hx0
    unfold l_X10_layMisses_6 at h
    refine q_iload_n dX10_layMisses_6 rfl ?_
    refine q_aload_n dX10_layMisses_7 rfl ?_
    refine u_geti dX10_layMisses_8 fX10_201 rfl rfl (Nat.lt_of_lt_of_le (Nat.le_of_ble_eq_true rfl) hn) ?_
    refine q_icmp_ge 56 dX10_layMisses_11 (by decide) (fun hc => ?_) (fun hc => ?_)
    · have h := q_it hc h
      refine q_drop [] (ls' := []) rfl ?_
      cases h
      exact hx0
    · have h := q_if hc h
      refine q_aload_n dX10_layMisses_14 rfl ?_
      refine u_getr dX10_layMisses_15 fX10_19 rfl rfl (Nat.lt_of_lt_of_le (Nat.le_of_ble_eq_true rfl) hn) (hF 58 4 62 rfl) ?_
      refine q_aload_n dX10_layMisses_18 rfl ?_
      refine u_getr dX10_layMisses_19 fX10_37 rfl rfl (Nat.lt_of_lt_of_le (Nat.le_of_ble_eq_true rfl) hn) (hF 58 13 68 rfl) ?_
      refine q_iload_n dX10_layMisses_22 rfl ?_
      obtain ⟨hi3, h⟩ := q_is h
      refine u_iald dX10_layMisses_23 rfl (Nat.lt_of_lt_of_le (Nat.le_of_ble_eq_true rfl) hn) (q_in_vp hi3) ?_
      refine q_dup2 dX10_layMisses_24 rfl rfl ?_
      obtain ⟨hi4, h⟩ := q_is h
      refine u_iald dX10_layMisses_25 rfl (Nat.lt_of_lt_of_le (Nat.le_of_ble_eq_true rfl) hn) (q_in_vp hi4) ?_
      refine q_aload_n dX10_layMisses_26 rfl ?_
      refine u_getr dX10_layMisses_27 fX10_34 rfl rfl (Nat.lt_of_lt_of_le (Nat.le_of_ble_eq_true rfl) hn) (hF 58 12 67 rfl) ?_
      refine q_iload_n dX10_layMisses_30 rfl ?_
      obtain ⟨hi5, h⟩ := q_is h
      refine u_iald dX10_layMisses_31 rfl (Nat.lt_of_lt_of_le (Nat.le_of_ble_eq_true rfl) hn) (q_in_vp hi5) ?_
      refine q_iload_n dX10_layMisses_32 rfl ?_
      refine q_icmp_ne 47 dX10_layMisses_33 (by decide) (fun hc => ?_) (fun hc => ?_)
      · have h := q_if hc h
        refine q_iconst (v := 0) dX10_layMisses_47 (by decide) ?_
        refine q_ior dX10_layMisses_48 ?_
        obtain ⟨hi6, h⟩ := q_is h
        refine u_iast dX10_layMisses_49 rfl (Nat.lt_of_lt_of_le (Nat.le_of_ble_eq_true rfl) hn) (q_in_vp hi6) ?_
        refine q_iinc1 (w := 1) (ls' := [(0, _), (1, _), (2, _)]) [0, 1, 2] dX10_layMisses_50 rfl (by decide) (Nat.le_of_ble_eq_true rfl) rfl ?_
        refine q_goto 6 dX10_layMisses_53 (by decide) ?_
        exact ih _ _ _ h hx0
      · have h := q_it hc h
        refine q_iconst (v := 1) dX10_layMisses_36 (by decide) ?_
        refine q_aload_n dX10_layMisses_37 rfl ?_
        refine u_getr dX10_layMisses_38 fX10_40 rfl rfl (Nat.lt_of_lt_of_le (Nat.le_of_ble_eq_true rfl) hn) (hF 58 14 69 rfl) ?_
        refine q_iload_n dX10_layMisses_41 rfl ?_
        obtain ⟨hi7, h⟩ := q_is h
        refine u_iald dX10_layMisses_42 rfl (Nat.lt_of_lt_of_le (Nat.le_of_ble_eq_true rfl) hn) (q_in_vp hi7) ?_
        refine q_ishl dX10_layMisses_43 ?_
        refine q_goto 48 dX10_layMisses_44 (by decide) ?_
        refine q_ior dX10_layMisses_48 ?_
        obtain ⟨hi8, h⟩ := q_is h
        refine u_iast dX10_layMisses_49 rfl (Nat.lt_of_lt_of_le (Nat.le_of_ble_eq_true rfl) hn) (q_in_vp hi8) ?_
        refine q_iinc1 (w := 1) (ls' := [(0, _), (1, _), (2, _)]) [0, 1, 2] dX10_layMisses_50 rfl (by decide) (Nat.le_of_ble_eq_true rfl) rfl ?_
        refine q_goto 6 dX10_layMisses_53 (by decide) ?_
        exact ih _ _ _ h hx0
def f_X10_layMisses (x1 : Int32) (m : q_Mm) : Option (q_Mm) :=
  (f_X10_missNone  m).bind fun r1 =>
  (l_X10_layMisses_6 7000  x1 0 r1).bind fun r9 =>
  some (r9)
set_option maxRecDepth 100000 in
set_option maxHeartbeats 4000000 in
theorem t_X10_layMisses {g : q_G} {n : Nat} {F : Nat → Nat → Option Nat} (hn : 89 ≤ n) (hF : q_FF F)  {x1 : Int32} {m : q_Mm} {r : q_Mm} (h : f_X10_layMisses x1 m = some r) : q_Cn g mX10_layMisses [q_r g 58, .int x1] (q_mk n F m) (q_Q none (q_mk n F r)) := by
  unfold f_X10_layMisses at h
  show q_V g mX10_layMisses q_T _ _ _ 0 [(0, q_r g 58), (1, .int x1)] [] (q_mk n F m)
  refine q_aload_n dX10_layMisses_0 rfl ?_
  obtain ⟨r1, hr2, h⟩ := q_bd h
  refine c_V0 (as := []) (st := []) (ci := 10) dX10_layMisses_1 okX10_missNone lX10_138 ⟨rfl, rfl⟩ ⟨Nat.le_of_ble_eq_true rfl, Nat.le_of_ble_eq_true rfl⟩ (by decide) rfl rfl (Nat.lt_of_lt_of_le (Nat.le_of_ble_eq_true rfl) hn) rfl rfl (Nat.le_of_ble_eq_true rfl) (Nat.le_of_ble_eq_true rfl) (t_X10_missNone hn hF  hr2) ?_
  refine q_iconst (v := 0) dX10_layMisses_4 (by decide) ?_
  refine q_istore_n (ls' := [(0, _), (1, _), (2, _)]) [0, 1, 2] dX10_layMisses_5 (Nat.le_of_ble_eq_true rfl) rfl ?_
  obtain ⟨r9, hr10, h⟩ := q_bd h
  refine t_l_X10_layMisses_6 hn hF  7000 _ _ _ hr10 ?_
  cases h
  exact q_vret dX10_layMisses_56 rfl ⟨rfl, rfl⟩
def l_X10_place_76 : Nat → Int32 → Int32 → Int32 → Int32 → q_Mm → Option (q_Mm)
  | 0, _, _, _, _, _ => none
  | k + 1, y1, y2, y3, y4, m =>
    if y2 ≤ y4 then
      some (m)
    else
      if q_in y1 9 = true then
      if q_in y1 9 = true then
      (f_X10_step y4 (m.1 66 y1.toNatClampNeg) (m.1 65 y1.toNatClampNeg) m).bind fun r7 =>
      l_X10_place_76 k  y1 y2 y3 (y4 + 1) r7
      else none
      else none
set_option maxRecDepth 100000 in
set_option maxHeartbeats 4000000 in
theorem t_l_X10_place_76 {g : q_G} {n : Nat} {F : Nat → Nat → Option Nat} {Z : List Frame → Array Value → State → State → Prop} {kc ks : Nat} (hn : 89 ≤ n) (hF : q_FF F)  : ∀ (k : Nat) (y1 : Int32) (y2 : Int32) (y3 : Int32) (y4 : Int32) (m : q_Mm) {r : q_Mm}, l_X10_place_76 k y1 y2 y3 y4 m = some r → (q_V g mX10_place q_T Z kc ks 106 [(0, q_r g 58), (3, .int y3)] [] (q_mk n F r)) → q_V g mX10_place q_T Z kc ks 76 [(0, q_r g 58), (1, .int y1), (2, .int y2), (3, .int y3), (4, .int y4)] [] (q_mk n F m) := by
  intro k
  induction k with
  | zero => intro y1 y2 y3 y4 m r h; cases h
  | succ k ih =>
    intro y1 y2 y3 y4 m r h hx0
    unfold l_X10_place_76 at h
    refine q_iload dX10_place_76 rfl ?_
    refine q_iload_n dX10_place_78 rfl ?_
    refine q_icmp_ge 106 dX10_place_79 (by decide) (fun hc => ?_) (fun hc => ?_)
    · have h := q_it hc h
      refine q_drop [0, 3] (ls' := [(0, _), (3, _)]) rfl ?_
      cases h
      exact hx0
    · have h := q_if hc h
      refine q_aload_n dX10_place_82 rfl ?_
      refine q_iload dX10_place_83 rfl ?_
      refine q_aload_n dX10_place_85 rfl ?_
      refine u_getr dX10_place_86 fX10_31 rfl rfl (Nat.lt_of_lt_of_le (Nat.le_of_ble_eq_true rfl) hn) (hF 58 10 66 rfl) ?_
      refine q_iload_n dX10_place_89 rfl ?_
      obtain ⟨hi5, h⟩ := q_is h
      refine u_iald dX10_place_90 rfl (Nat.lt_of_lt_of_le (Nat.le_of_ble_eq_true rfl) hn) (q_in_vp hi5) ?_
      refine q_aload_n dX10_place_91 rfl ?_
      refine u_getr dX10_place_92 fX10_28 rfl rfl (Nat.lt_of_lt_of_le (Nat.le_of_ble_eq_true rfl) hn) (hF 58 9 65 rfl) ?_
      refine q_iload_n dX10_place_95 rfl ?_
      obtain ⟨hi6, h⟩ := q_is h
      refine u_iald dX10_place_96 rfl (Nat.lt_of_lt_of_le (Nat.le_of_ble_eq_true rfl) hn) (q_in_vp hi6) ?_
      obtain ⟨r7, hr8, h⟩ := q_bd h
      refine c_V0 (as := [_, _, _]) (st := []) (ci := 10) dX10_place_97 okX10_step lX10_214 ⟨rfl, rfl⟩ ⟨Nat.le_of_ble_eq_true rfl, Nat.le_of_ble_eq_true rfl⟩ (by decide) rfl rfl (Nat.lt_of_lt_of_le (Nat.le_of_ble_eq_true rfl) hn) rfl rfl (Nat.le_of_ble_eq_true rfl) (Nat.le_of_ble_eq_true rfl) (t_X10_step hn hF  hr8) ?_
      refine q_iinc1 (w := 1) (ls' := [(0, _), (1, _), (2, _), (3, _), (4, _)]) [0, 1, 2, 3, 4] dX10_place_100 rfl (by decide) (Nat.le_of_ble_eq_true rfl) rfl ?_
      refine q_goto 76 dX10_place_103 (by decide) ?_
      exact ih _ _ _ _ _ h hx0
def f_X10_place (x1 : Int32) (x2 : Int32) (x3 : Int32) (m : q_Mm) : Option (Int64 × q_Mm) :=
  if (f_X10_in x1.toInt64 0 (((m.1 58 11) - 1).toInt64) m) = 0 then
    some (((-1000000000001), m))
  else
    if (f_X10_in x2.toInt64 0 600 m) = 0 then
      some (((-1000000000002), m))
    else
      if (f_X10_in x3.toInt64 0 1 m) = 0 then
        some (((-1000000000002), m))
      else
        (f_X10_layMisses x1 m).bind fun r1 =>
        if q_in x1 9 = true then
        if q_in x1 9 = true then
        (l_X10_place_76 7000  x1 x2 x3 0 (q_wl (q_wl r1 58 5 ((r1.1 63 x1.toNatClampNeg).toInt64)) 58 6 (((q_wl r1 58 5 ((r1.1 63 x1.toNatClampNeg).toInt64)).1 64 x1.toNatClampNeg).toInt64))).bind fun r9 =>
        if x3 = 0 then
          some ((r9.2 58 5, r9))
        else
          some ((r9.2 58 6, r9))
        else none
        else none
set_option maxRecDepth 100000 in
set_option maxHeartbeats 4000000 in
theorem t_X10_place {g : q_G} {n : Nat} {F : Nat → Nat → Option Nat} (hn : 89 ≤ n) (hF : q_FF F)  {x1 : Int32} {x2 : Int32} {x3 : Int32} {m : q_Mm} {r : Int64 × q_Mm} (h : f_X10_place x1 x2 x3 m = some r) : q_Cn g mX10_place [q_r g 58, .int x1, .int x2, .int x3] (q_mk n F m) (q_Q (some (.long r.1)) (q_mk n F r.2)) := by
  unfold f_X10_place at h
  show q_V g mX10_place q_T _ _ _ 0 [(0, q_r g 58), (1, .int x1), (2, .int x2), (3, .int x3)] [] (q_mk n F m)
  refine q_iload_n dX10_place_0 rfl ?_
  refine q_i2l dX10_place_1 ?_
  refine q_lconst (v := 0) dX10_place_2 (by decide) ?_
  refine q_aload_n dX10_place_3 rfl ?_
  refine u_geti dX10_place_4 fX10_194 rfl rfl (Nat.lt_of_lt_of_le (Nat.le_of_ble_eq_true rfl) hn) ?_
  refine q_iconst (v := 1) dX10_place_7 (by decide) ?_
  refine q_isub dX10_place_8 ?_
  refine q_i2l dX10_place_9 ?_
  refine c_S1 (as := [_, _, _]) (st := []) dX10_place_10 okX10_in lX10_122 ⟨rfl, rfl⟩ ⟨Nat.le_of_ble_eq_true rfl, Nat.le_of_ble_eq_true rfl⟩ rfl rfl (Nat.le_of_ble_eq_true rfl) (Nat.le_of_ble_eq_true rfl) (t_X10_in hn hF  rfl) ?_
  refine q_if_ne 20 dX10_place_13 (by decide) (fun hc => ?_) (fun hc => ?_)
  · have h := q_if hc h
    refine q_iload_n dX10_place_20 rfl ?_
    refine q_i2l dX10_place_21 ?_
    refine q_lconst (v := 0) dX10_place_22 (by decide) ?_
    refine q_ldc2 dX10_place_23 kX10_136 ?_
    refine c_S1 (as := [_, _, _]) (st := []) dX10_place_26 okX10_in lX10_122 ⟨rfl, rfl⟩ ⟨Nat.le_of_ble_eq_true rfl, Nat.le_of_ble_eq_true rfl⟩ rfl rfl (Nat.le_of_ble_eq_true rfl) (Nat.le_of_ble_eq_true rfl) (t_X10_in hn hF  rfl) ?_
    refine q_if_eq 42 dX10_place_29 (by decide) (fun hc => ?_) (fun hc => ?_)
    · have h := q_it hc h
      refine q_ldc2 dX10_place_42 kX10_171 ?_
      cases h
      exact q_lret dX10_place_45 rfl ⟨rfl, rfl⟩
    · have h := q_if hc h
      refine q_iload_n dX10_place_32 rfl ?_
      refine q_i2l dX10_place_33 ?_
      refine q_lconst (v := 0) dX10_place_34 (by decide) ?_
      refine q_lconst (v := 1) dX10_place_35 (by decide) ?_
      refine c_S1 (as := [_, _, _]) (st := []) dX10_place_36 okX10_in lX10_122 ⟨rfl, rfl⟩ ⟨Nat.le_of_ble_eq_true rfl, Nat.le_of_ble_eq_true rfl⟩ rfl rfl (Nat.le_of_ble_eq_true rfl) (Nat.le_of_ble_eq_true rfl) (t_X10_in hn hF  rfl) ?_
      refine q_if_ne 46 dX10_place_39 (by decide) (fun hc => ?_) (fun hc => ?_)
      · have h := q_if hc h
        refine q_aload_n dX10_place_46 rfl ?_
        refine q_iload_n dX10_place_47 rfl ?_
        obtain ⟨r1, hr2, h⟩ := q_bd h
        refine c_V0 (as := [_]) (st := []) (ci := 10) dX10_place_48 okX10_layMisses lX10_210 ⟨rfl, rfl⟩ ⟨Nat.le_of_ble_eq_true rfl, Nat.le_of_ble_eq_true rfl⟩ (by decide) rfl rfl (Nat.lt_of_lt_of_le (Nat.le_of_ble_eq_true rfl) hn) rfl rfl (Nat.le_of_ble_eq_true rfl) (Nat.le_of_ble_eq_true rfl) (t_X10_layMisses hn hF  hr2) ?_
        refine q_aload_n dX10_place_51 rfl ?_
        refine q_aload_n dX10_place_52 rfl ?_
        refine u_getr dX10_place_53 fX10_22 rfl rfl (Nat.lt_of_lt_of_le (Nat.le_of_ble_eq_true rfl) hn) (hF 58 7 63 rfl) ?_
        refine q_iload_n dX10_place_56 rfl ?_
        obtain ⟨hi3, h⟩ := q_is h
        refine u_iald dX10_place_57 rfl (Nat.lt_of_lt_of_le (Nat.le_of_ble_eq_true rfl) hn) (q_in_vp hi3) ?_
        refine q_i2l dX10_place_58 ?_
        refine u_putl dX10_place_59 fX10_152 rfl rfl (Nat.lt_of_lt_of_le (Nat.le_of_ble_eq_true rfl) hn) rfl rfl rfl ?_
        refine q_aload_n dX10_place_62 rfl ?_
        refine q_aload_n dX10_place_63 rfl ?_
        refine u_getr dX10_place_64 fX10_25 rfl rfl (Nat.lt_of_lt_of_le (Nat.le_of_ble_eq_true rfl) hn) (hF 58 8 64 rfl) ?_
        refine q_iload_n dX10_place_67 rfl ?_
        obtain ⟨hi4, h⟩ := q_is h
        refine u_iald dX10_place_68 rfl (Nat.lt_of_lt_of_le (Nat.le_of_ble_eq_true rfl) hn) (q_in_vp hi4) ?_
        refine q_i2l dX10_place_69 ?_
        refine u_putl dX10_place_70 fX10_159 rfl rfl (Nat.lt_of_lt_of_le (Nat.le_of_ble_eq_true rfl) hn) rfl rfl rfl ?_
        refine q_iconst (v := 0) dX10_place_73 (by decide) ?_
        refine q_istore (ls' := [(0, _), (1, _), (2, _), (3, _), (4, _)]) [0, 1, 2, 3, 4] dX10_place_74 (Nat.le_of_ble_eq_true rfl) rfl ?_
        obtain ⟨r9, hr10, h⟩ := q_bd h
        refine t_l_X10_place_76 hn hF  7000 _ _ _ _ _ hr10 ?_
        refine q_iload_n dX10_place_106 rfl ?_
        refine q_if_ne 117 dX10_place_107 (by decide) (fun hc => ?_) (fun hc => ?_)
        · have h := q_if hc h
          refine q_aload_n dX10_place_117 rfl ?_
          refine u_getl dX10_place_118 fX10_159 rfl rfl (Nat.lt_of_lt_of_le (Nat.le_of_ble_eq_true rfl) hn) ?_
          cases h
          exact q_lret dX10_place_121 rfl ⟨rfl, rfl⟩
        · have h := q_it hc h
          refine q_aload_n dX10_place_110 rfl ?_
          refine u_getl dX10_place_111 fX10_152 rfl rfl (Nat.lt_of_lt_of_le (Nat.le_of_ble_eq_true rfl) hn) ?_
          refine q_goto 121 dX10_place_114 (by decide) ?_
          cases h
          exact q_lret dX10_place_121 rfl ⟨rfl, rfl⟩
      · have h := q_it hc h
        refine q_ldc2 dX10_place_42 kX10_171 ?_
        cases h
        exact q_lret dX10_place_45 rfl ⟨rfl, rfl⟩
  · have h := q_it hc h
    refine q_ldc2 dX10_place_16 kX10_169 ?_
    cases h
    exact q_lret dX10_place_19 rfl ⟨rfl, rfl⟩
def l_X10_begin_2 : Nat → Int32 → q_Mm → Option (q_Mm)
  | 0, _, _ => none
  | k + 1, y1, m =>
    if (m.1 58 11) ≤ y1 then
      some (m)
    else
      if q_in y1 9 = true then
      if q_in y1 9 = true then
      if q_in y1 9 = true then
      if q_in y1 9 = true then
      l_X10_begin_2 k  (y1 + 1) (q_wl (q_wl m 70 y1.toNatClampNeg ((m.1 63 y1.toNatClampNeg).toInt64)) 71 y1.toNatClampNeg (((q_wl m 70 y1.toNatClampNeg ((m.1 63 y1.toNatClampNeg).toInt64)).1 64 y1.toNatClampNeg).toInt64))
      else none
      else none
      else none
      else none
set_option maxRecDepth 100000 in
set_option maxHeartbeats 4000000 in
theorem t_l_X10_begin_2 {g : q_G} {n : Nat} {F : Nat → Nat → Option Nat} {Z : List Frame → Array Value → State → State → Prop} {kc ks : Nat} (hn : 89 ≤ n) (hF : q_FF F)  : ∀ (k : Nat) (y1 : Int32) (m : q_Mm) {r : q_Mm}, l_X10_begin_2 k y1 m = some r → (q_V g mX10_begin q_T Z kc ks 42 [] [] (q_mk n F r)) → q_V g mX10_begin q_T Z kc ks 2 [(0, q_r g 58), (1, .int y1)] [] (q_mk n F m) := by
  intro k
  induction k with
  | zero => intro y1 m r h; cases h
  | succ k ih =>
    intro y1 m r h hx0
    unfold l_X10_begin_2 at h
    refine q_iload_n dX10_begin_2 rfl ?_
    refine q_aload_n dX10_begin_3 rfl ?_
    refine u_geti dX10_begin_4 fX10_194 rfl rfl (Nat.lt_of_lt_of_le (Nat.le_of_ble_eq_true rfl) hn) ?_
    refine q_icmp_ge 42 dX10_begin_7 (by decide) (fun hc => ?_) (fun hc => ?_)
    · have h := q_it hc h
      refine q_drop [] (ls' := []) rfl ?_
      cases h
      exact hx0
    · have h := q_if hc h
      refine q_aload_n dX10_begin_10 rfl ?_
      refine u_getr dX10_begin_11 fX10_43 rfl rfl (Nat.lt_of_lt_of_le (Nat.le_of_ble_eq_true rfl) hn) (hF 58 18 70 rfl) ?_
      refine q_iload_n dX10_begin_14 rfl ?_
      refine q_aload_n dX10_begin_15 rfl ?_
      refine u_getr dX10_begin_16 fX10_22 rfl rfl (Nat.lt_of_lt_of_le (Nat.le_of_ble_eq_true rfl) hn) (hF 58 7 63 rfl) ?_
      refine q_iload_n dX10_begin_19 rfl ?_
      obtain ⟨hi1, h⟩ := q_is h
      refine u_iald dX10_begin_20 rfl (Nat.lt_of_lt_of_le (Nat.le_of_ble_eq_true rfl) hn) (q_in_vp hi1) ?_
      refine q_i2l dX10_begin_21 ?_
      obtain ⟨hi2, h⟩ := q_is h
      refine u_last dX10_begin_22 rfl (Nat.lt_of_lt_of_le (Nat.le_of_ble_eq_true rfl) hn) (q_in_vp hi2) ?_
      refine q_aload_n dX10_begin_23 rfl ?_
      refine u_getr dX10_begin_24 fX10_47 rfl rfl (Nat.lt_of_lt_of_le (Nat.le_of_ble_eq_true rfl) hn) (hF 58 19 71 rfl) ?_
      refine q_iload_n dX10_begin_27 rfl ?_
      refine q_aload_n dX10_begin_28 rfl ?_
      refine u_getr dX10_begin_29 fX10_25 rfl rfl (Nat.lt_of_lt_of_le (Nat.le_of_ble_eq_true rfl) hn) (hF 58 8 64 rfl) ?_
      refine q_iload_n dX10_begin_32 rfl ?_
      obtain ⟨hi3, h⟩ := q_is h
      refine u_iald dX10_begin_33 rfl (Nat.lt_of_lt_of_le (Nat.le_of_ble_eq_true rfl) hn) (q_in_vp hi3) ?_
      refine q_i2l dX10_begin_34 ?_
      obtain ⟨hi4, h⟩ := q_is h
      refine u_last dX10_begin_35 rfl (Nat.lt_of_lt_of_le (Nat.le_of_ble_eq_true rfl) hn) (q_in_vp hi4) ?_
      refine q_iinc1 (w := 1) (ls' := [(0, _), (1, _)]) [0, 1] dX10_begin_36 rfl (by decide) (Nat.le_of_ble_eq_true rfl) rfl ?_
      refine q_goto 2 dX10_begin_39 (by decide) ?_
      exact ih _ _ h hx0
def f_X10_begin  (m : q_Mm) : Option (q_Mm) :=
  (l_X10_begin_2 7000  0 m).bind fun r5 =>
  some (r5)
set_option maxRecDepth 100000 in
set_option maxHeartbeats 4000000 in
theorem t_X10_begin {g : q_G} {n : Nat} {F : Nat → Nat → Option Nat} (hn : 89 ≤ n) (hF : q_FF F)   {m : q_Mm} {r : q_Mm} (h : f_X10_begin  m = some r) : q_Cn g mX10_begin [q_r g 58] (q_mk n F m) (q_Q none (q_mk n F r)) := by
  unfold f_X10_begin at h
  show q_V g mX10_begin q_T _ _ _ 0 [(0, q_r g 58)] [] (q_mk n F m)
  refine q_iconst (v := 0) dX10_begin_0 (by decide) ?_
  refine q_istore_n (ls' := [(0, _), (1, _)]) [0, 1] dX10_begin_1 (Nat.le_of_ble_eq_true rfl) rfl ?_
  obtain ⟨r5, hr6, h⟩ := q_bd h
  refine t_l_X10_begin_2 hn hF  7000 _ _ hr6 ?_
  cases h
  exact q_vret dX10_begin_42 rfl ⟨rfl, rfl⟩
def l_X10_stepAll_2 : Nat → Int32 → Int32 → q_Mm → Option (q_Mm)
  | 0, _, _, _ => none
  | k + 1, y1, y2, m =>
    if (m.1 58 11) ≤ y2 then
      some (m)
    else
      (f_X10_layMisses y2 m).bind fun r1 =>
      if q_in y2 9 = true then
      if q_in y2 9 = true then
      if q_in y2 9 = true then
      if q_in y2 9 = true then
      (f_X10_step y1 ((q_wl (q_wl r1 58 5 (r1.2 70 y2.toNatClampNeg)) 58 6 ((q_wl r1 58 5 (r1.2 70 y2.toNatClampNeg)).2 71 y2.toNatClampNeg)).1 66 y2.toNatClampNeg) ((q_wl (q_wl r1 58 5 (r1.2 70 y2.toNatClampNeg)) 58 6 ((q_wl r1 58 5 (r1.2 70 y2.toNatClampNeg)).2 71 y2.toNatClampNeg)).1 65 y2.toNatClampNeg) (q_wl (q_wl r1 58 5 (r1.2 70 y2.toNatClampNeg)) 58 6 ((q_wl r1 58 5 (r1.2 70 y2.toNatClampNeg)).2 71 y2.toNatClampNeg))).bind fun r7 =>
      if q_in y2 9 = true then
      if q_in y2 9 = true then
      l_X10_stepAll_2 k  y1 (y2 + 1) (q_wl (q_wl r7 70 y2.toNatClampNeg (r7.2 58 5)) 71 y2.toNatClampNeg ((q_wl r7 70 y2.toNatClampNeg (r7.2 58 5)).2 58 6))
      else none
      else none
      else none
      else none
      else none
      else none
set_option maxRecDepth 100000 in
set_option maxHeartbeats 4000000 in
theorem t_l_X10_stepAll_2 {g : q_G} {n : Nat} {F : Nat → Nat → Option Nat} {Z : List Frame → Array Value → State → State → Prop} {kc ks : Nat} (hn : 89 ≤ n) (hF : q_FF F)  : ∀ (k : Nat) (y1 : Int32) (y2 : Int32) (m : q_Mm) {r : q_Mm}, l_X10_stepAll_2 k y1 y2 m = some r → (q_V g mX10_stepAll q_T Z kc ks 78 [] [] (q_mk n F r)) → q_V g mX10_stepAll q_T Z kc ks 2 [(0, q_r g 58), (1, .int y1), (2, .int y2)] [] (q_mk n F m) := by
  intro k
  induction k with
  | zero => intro y1 y2 m r h; cases h
  | succ k ih =>
    intro y1 y2 m r h hx0
    unfold l_X10_stepAll_2 at h
    refine q_iload_n dX10_stepAll_2 rfl ?_
    refine q_aload_n dX10_stepAll_3 rfl ?_
    refine u_geti dX10_stepAll_4 fX10_194 rfl rfl (Nat.lt_of_lt_of_le (Nat.le_of_ble_eq_true rfl) hn) ?_
    refine q_icmp_ge 78 dX10_stepAll_7 (by decide) (fun hc => ?_) (fun hc => ?_)
    · have h := q_it hc h
      refine q_drop [] (ls' := []) rfl ?_
      cases h
      exact hx0
    · have h := q_if hc h
      refine q_aload_n dX10_stepAll_10 rfl ?_
      refine q_iload_n dX10_stepAll_11 rfl ?_
      obtain ⟨r1, hr2, h⟩ := q_bd h
      refine c_V0 (as := [_]) (st := []) (ci := 10) dX10_stepAll_12 okX10_layMisses lX10_210 ⟨rfl, rfl⟩ ⟨Nat.le_of_ble_eq_true rfl, Nat.le_of_ble_eq_true rfl⟩ (by decide) rfl rfl (Nat.lt_of_lt_of_le (Nat.le_of_ble_eq_true rfl) hn) rfl rfl (Nat.le_of_ble_eq_true rfl) (Nat.le_of_ble_eq_true rfl) (t_X10_layMisses hn hF  hr2) ?_
      refine q_aload_n dX10_stepAll_15 rfl ?_
      refine q_aload_n dX10_stepAll_16 rfl ?_
      refine u_getr dX10_stepAll_17 fX10_43 rfl rfl (Nat.lt_of_lt_of_le (Nat.le_of_ble_eq_true rfl) hn) (hF 58 18 70 rfl) ?_
      refine q_iload_n dX10_stepAll_20 rfl ?_
      obtain ⟨hi3, h⟩ := q_is h
      refine u_lald dX10_stepAll_21 rfl (Nat.lt_of_lt_of_le (Nat.le_of_ble_eq_true rfl) hn) (q_in_vp hi3) ?_
      refine u_putl dX10_stepAll_22 fX10_152 rfl rfl (Nat.lt_of_lt_of_le (Nat.le_of_ble_eq_true rfl) hn) rfl rfl rfl ?_
      refine q_aload_n dX10_stepAll_25 rfl ?_
      refine q_aload_n dX10_stepAll_26 rfl ?_
      refine u_getr dX10_stepAll_27 fX10_47 rfl rfl (Nat.lt_of_lt_of_le (Nat.le_of_ble_eq_true rfl) hn) (hF 58 19 71 rfl) ?_
      refine q_iload_n dX10_stepAll_30 rfl ?_
      obtain ⟨hi4, h⟩ := q_is h
      refine u_lald dX10_stepAll_31 rfl (Nat.lt_of_lt_of_le (Nat.le_of_ble_eq_true rfl) hn) (q_in_vp hi4) ?_
      refine u_putl dX10_stepAll_32 fX10_159 rfl rfl (Nat.lt_of_lt_of_le (Nat.le_of_ble_eq_true rfl) hn) rfl rfl rfl ?_
      refine q_aload_n dX10_stepAll_35 rfl ?_
      refine q_iload_n dX10_stepAll_36 rfl ?_
      refine q_aload_n dX10_stepAll_37 rfl ?_
      refine u_getr dX10_stepAll_38 fX10_31 rfl rfl (Nat.lt_of_lt_of_le (Nat.le_of_ble_eq_true rfl) hn) (hF 58 10 66 rfl) ?_
      refine q_iload_n dX10_stepAll_41 rfl ?_
      obtain ⟨hi5, h⟩ := q_is h
      refine u_iald dX10_stepAll_42 rfl (Nat.lt_of_lt_of_le (Nat.le_of_ble_eq_true rfl) hn) (q_in_vp hi5) ?_
      refine q_aload_n dX10_stepAll_43 rfl ?_
      refine u_getr dX10_stepAll_44 fX10_28 rfl rfl (Nat.lt_of_lt_of_le (Nat.le_of_ble_eq_true rfl) hn) (hF 58 9 65 rfl) ?_
      refine q_iload_n dX10_stepAll_47 rfl ?_
      obtain ⟨hi6, h⟩ := q_is h
      refine u_iald dX10_stepAll_48 rfl (Nat.lt_of_lt_of_le (Nat.le_of_ble_eq_true rfl) hn) (q_in_vp hi6) ?_
      obtain ⟨r7, hr8, h⟩ := q_bd h
      refine c_V0 (as := [_, _, _]) (st := []) (ci := 10) dX10_stepAll_49 okX10_step lX10_214 ⟨rfl, rfl⟩ ⟨Nat.le_of_ble_eq_true rfl, Nat.le_of_ble_eq_true rfl⟩ (by decide) rfl rfl (Nat.lt_of_lt_of_le (Nat.le_of_ble_eq_true rfl) hn) rfl rfl (Nat.le_of_ble_eq_true rfl) (Nat.le_of_ble_eq_true rfl) (t_X10_step hn hF  hr8) ?_
      refine q_aload_n dX10_stepAll_52 rfl ?_
      refine u_getr dX10_stepAll_53 fX10_43 rfl rfl (Nat.lt_of_lt_of_le (Nat.le_of_ble_eq_true rfl) hn) (hF 58 18 70 rfl) ?_
      refine q_iload_n dX10_stepAll_56 rfl ?_
      refine q_aload_n dX10_stepAll_57 rfl ?_
      refine u_getl dX10_stepAll_58 fX10_152 rfl rfl (Nat.lt_of_lt_of_le (Nat.le_of_ble_eq_true rfl) hn) ?_
      obtain ⟨hi9, h⟩ := q_is h
      refine u_last dX10_stepAll_61 rfl (Nat.lt_of_lt_of_le (Nat.le_of_ble_eq_true rfl) hn) (q_in_vp hi9) ?_
      refine q_aload_n dX10_stepAll_62 rfl ?_
      refine u_getr dX10_stepAll_63 fX10_47 rfl rfl (Nat.lt_of_lt_of_le (Nat.le_of_ble_eq_true rfl) hn) (hF 58 19 71 rfl) ?_
      refine q_iload_n dX10_stepAll_66 rfl ?_
      refine q_aload_n dX10_stepAll_67 rfl ?_
      refine u_getl dX10_stepAll_68 fX10_159 rfl rfl (Nat.lt_of_lt_of_le (Nat.le_of_ble_eq_true rfl) hn) ?_
      obtain ⟨hi10, h⟩ := q_is h
      refine u_last dX10_stepAll_71 rfl (Nat.lt_of_lt_of_le (Nat.le_of_ble_eq_true rfl) hn) (q_in_vp hi10) ?_
      refine q_iinc1 (w := 1) (ls' := [(0, _), (1, _), (2, _)]) [0, 1, 2] dX10_stepAll_72 rfl (by decide) (Nat.le_of_ble_eq_true rfl) rfl ?_
      refine q_goto 2 dX10_stepAll_75 (by decide) ?_
      exact ih _ _ _ h hx0
def f_X10_stepAll (x1 : Int32) (m : q_Mm) : Option (q_Mm) :=
  (l_X10_stepAll_2 7000  x1 0 m).bind fun r11 =>
  some (r11)
set_option maxRecDepth 100000 in
set_option maxHeartbeats 4000000 in
theorem t_X10_stepAll {g : q_G} {n : Nat} {F : Nat → Nat → Option Nat} (hn : 89 ≤ n) (hF : q_FF F)  {x1 : Int32} {m : q_Mm} {r : q_Mm} (h : f_X10_stepAll x1 m = some r) : q_Cn g mX10_stepAll [q_r g 58, .int x1] (q_mk n F m) (q_Q none (q_mk n F r)) := by
  unfold f_X10_stepAll at h
  show q_V g mX10_stepAll q_T _ _ _ 0 [(0, q_r g 58), (1, .int x1)] [] (q_mk n F m)
  refine q_iconst (v := 0) dX10_stepAll_0 (by decide) ?_
  refine q_istore_n (ls' := [(0, _), (1, _), (2, _)]) [0, 1, 2] dX10_stepAll_1 (Nat.le_of_ble_eq_true rfl) rfl ?_
  obtain ⟨r11, hr12, h⟩ := q_bd h
  refine t_l_X10_stepAll_2 hn hF  7000 _ _ _ hr12 ?_
  cases h
  exact q_vret dX10_stepAll_78 rfl ⟨rfl, rfl⟩
def f_X10_apartOf (x1 : Int32) (x2 : Int32) (m : q_Mm) : Option (Int64) :=
  if q_in x1 9 = true then
  if q_in x2 9 = true then
  if q_in x1 9 = true then
  if q_in x2 9 = true then
  some ((((m.2 70 x1.toNatClampNeg) - (m.2 70 x2.toNatClampNeg)) * ((m.2 70 x1.toNatClampNeg) - (m.2 70 x2.toNatClampNeg))) + (((m.2 71 x1.toNatClampNeg) - (m.2 71 x2.toNatClampNeg)) * ((m.2 71 x1.toNatClampNeg) - (m.2 71 x2.toNatClampNeg))))
  else none
  else none
  else none
  else none
set_option maxRecDepth 100000 in
set_option maxHeartbeats 4000000 in
theorem t_X10_apartOf {g : q_G} {n : Nat} {F : Nat → Nat → Option Nat} (hn : 89 ≤ n) (hF : q_FF F)  {x1 : Int32} {x2 : Int32} {m : q_Mm} {r : Int64} (h : f_X10_apartOf x1 x2 m = some r) : q_Cn g mX10_apartOf [q_r g 58, .int x1, .int x2] (q_mk n F m) (q_Q (some (.long r)) (q_mk n F m)) := by
  unfold f_X10_apartOf at h
  show q_V g mX10_apartOf q_T _ _ _ 0 [(0, q_r g 58), (1, .int x1), (2, .int x2)] [] (q_mk n F m)
  refine q_aload_n dX10_apartOf_0 rfl ?_
  refine u_getr dX10_apartOf_1 fX10_43 rfl rfl (Nat.lt_of_lt_of_le (Nat.le_of_ble_eq_true rfl) hn) (hF 58 18 70 rfl) ?_
  refine q_iload_n dX10_apartOf_4 rfl ?_
  obtain ⟨hi1, h⟩ := q_is h
  refine u_lald dX10_apartOf_5 rfl (Nat.lt_of_lt_of_le (Nat.le_of_ble_eq_true rfl) hn) (q_in_vp hi1) ?_
  refine q_aload_n dX10_apartOf_6 rfl ?_
  refine u_getr dX10_apartOf_7 fX10_43 rfl rfl (Nat.lt_of_lt_of_le (Nat.le_of_ble_eq_true rfl) hn) (hF 58 18 70 rfl) ?_
  refine q_iload_n dX10_apartOf_10 rfl ?_
  obtain ⟨hi2, h⟩ := q_is h
  refine u_lald dX10_apartOf_11 rfl (Nat.lt_of_lt_of_le (Nat.le_of_ble_eq_true rfl) hn) (q_in_vp hi2) ?_
  refine q_lsub dX10_apartOf_12 ?_
  refine q_lstore_n (ls' := [(0, _), (1, _), (2, _), (3, _)]) [0, 1, 2, 3] dX10_apartOf_13 (Nat.le_of_ble_eq_true rfl) rfl ?_
  refine q_aload_n dX10_apartOf_14 rfl ?_
  refine u_getr dX10_apartOf_15 fX10_47 rfl rfl (Nat.lt_of_lt_of_le (Nat.le_of_ble_eq_true rfl) hn) (hF 58 19 71 rfl) ?_
  refine q_iload_n dX10_apartOf_18 rfl ?_
  obtain ⟨hi3, h⟩ := q_is h
  refine u_lald dX10_apartOf_19 rfl (Nat.lt_of_lt_of_le (Nat.le_of_ble_eq_true rfl) hn) (q_in_vp hi3) ?_
  refine q_aload_n dX10_apartOf_20 rfl ?_
  refine u_getr dX10_apartOf_21 fX10_47 rfl rfl (Nat.lt_of_lt_of_le (Nat.le_of_ble_eq_true rfl) hn) (hF 58 19 71 rfl) ?_
  refine q_iload_n dX10_apartOf_24 rfl ?_
  obtain ⟨hi4, h⟩ := q_is h
  refine u_lald dX10_apartOf_25 rfl (Nat.lt_of_lt_of_le (Nat.le_of_ble_eq_true rfl) hn) (q_in_vp hi4) ?_
  refine q_lsub dX10_apartOf_26 ?_
  refine q_lstore (ls' := [(3, _), (5, _)]) [3, 5] dX10_apartOf_27 (Nat.le_of_ble_eq_true rfl) rfl ?_
  refine q_lload_n dX10_apartOf_29 rfl ?_
  refine q_lload_n dX10_apartOf_30 rfl ?_
  refine q_lmul dX10_apartOf_31 ?_
  refine q_lload dX10_apartOf_32 rfl ?_
  refine q_lload dX10_apartOf_34 rfl ?_
  refine q_lmul dX10_apartOf_36 ?_
  refine q_ladd dX10_apartOf_37 ?_
  cases h
  exact q_lret dX10_apartOf_38 rfl ⟨rfl, rfl⟩
def l_X10_nearest_84 : Nat → Int32 → Int32 → Int64 → Int32 → Int32 → Int32 → Int32 → Int32 → Int32 → q_Mm → Option (Int64 × Int32 × Int32 × Int32)
  | 0, _, _, _, _, _, _, _, _, _, _ => none
  | k + 1, y1, y2, y3, y5, y6, y7, y8, y9, y10, m =>
    if (m.1 58 11) ≤ y10 then
      some (y3, y5, y6, y7)
    else
      if y3 < 0 then
        (f_X10_apartOf y9 y10 m).bind fun r3 =>
        l_X10_nearest_84 k  y1 y2 r3 y8 y9 y10 y8 y9 (y10 + 1) m
      else
        (f_X10_apartOf y9 y10 m).bind fun r5 =>
        if y3 ≤ r5 then
          l_X10_nearest_84 k  y1 y2 y3 y5 y6 y7 y8 y9 (y10 + 1) m
        else
          (f_X10_apartOf y9 y10 m).bind fun r7 =>
          l_X10_nearest_84 k  y1 y2 r7 y8 y9 y10 y8 y9 (y10 + 1) m
set_option maxRecDepth 100000 in
set_option maxHeartbeats 4000000 in
theorem t_l_X10_nearest_84 {g : q_G} {n : Nat} {F : Nat → Nat → Option Nat} {Z : List Frame → Array Value → State → State → Prop} {kc ks : Nat} (hn : 89 ≤ n) (hF : q_FF F)  : ∀ (k : Nat) (y1 : Int32) (y2 : Int32) (y3 : Int64) (y5 : Int32) (y6 : Int32) (y7 : Int32) (y8 : Int32) (y9 : Int32) (y10 : Int32) (m : q_Mm) {r : Int64 × Int32 × Int32 × Int32}, l_X10_nearest_84 k y1 y2 y3 y5 y6 y7 y8 y9 y10 m = some r → (q_V g mX10_nearest q_T Z kc ks 139 [(0, q_r g 58), (1, .int y1), (2, .int y2), (3, .long r.1), (5, .int r.2.1), (6, .int r.2.2.1), (7, .int r.2.2.2), (8, .int y8), (9, .int y9)] [] (q_mk n F m)) → q_V g mX10_nearest q_T Z kc ks 84 [(0, q_r g 58), (1, .int y1), (2, .int y2), (3, .long y3), (5, .int y5), (6, .int y6), (7, .int y7), (8, .int y8), (9, .int y9), (10, .int y10)] [] (q_mk n F m) := by
  intro k
  induction k with
  | zero => intro y1 y2 y3 y5 y6 y7 y8 y9 y10 m r h; cases h
  | succ k ih =>
    intro y1 y2 y3 y5 y6 y7 y8 y9 y10 m r h hx0
    unfold l_X10_nearest_84 at h
    refine q_iload dX10_nearest_84 rfl ?_
    refine q_aload_n dX10_nearest_86 rfl ?_
    refine u_geti dX10_nearest_87 fX10_194 rfl rfl (Nat.lt_of_lt_of_le (Nat.le_of_ble_eq_true rfl) hn) ?_
    refine q_icmp_ge 139 dX10_nearest_90 (by decide) (fun hc => ?_) (fun hc => ?_)
    · have h := q_it hc h
      refine q_drop [0, 1, 2, 3, 5, 6, 7, 8, 9] (ls' := [(0, _), (1, _), (2, _), (3, _), (5, _), (6, _), (7, _), (8, _), (9, _)]) rfl ?_
      cases h
      exact hx0
    · have h := q_if hc h
      refine q_lload_n dX10_nearest_93 rfl ?_
      refine q_lconst (v := 0) dX10_nearest_94 (by decide) ?_
      refine q_lcmp_lt 112 dX10_nearest_95 dX10_nearest_96 (by decide) (fun hc => ?_) (fun hc => ?_)
      · have h := q_it hc h
        refine q_aload_n dX10_nearest_112 rfl ?_
        refine q_iload dX10_nearest_113 rfl ?_
        refine q_iload dX10_nearest_115 rfl ?_
        obtain ⟨r3, hr4, h⟩ := q_bd h
        refine c_V1 (as := [_, _]) (st := []) (ci := 10) dX10_nearest_117 okX10_apartOf lX10_224 ⟨rfl, rfl⟩ ⟨Nat.le_of_ble_eq_true rfl, Nat.le_of_ble_eq_true rfl⟩ (by decide) rfl rfl (Nat.lt_of_lt_of_le (Nat.le_of_ble_eq_true rfl) hn) rfl rfl (Nat.le_of_ble_eq_true rfl) (Nat.le_of_ble_eq_true rfl) (t_X10_apartOf hn hF  hr4) ?_
        refine q_lstore_n (ls' := [(0, _), (1, _), (2, _), (3, _), (8, _), (9, _), (10, _)]) [0, 1, 2, 3, 8, 9, 10] dX10_nearest_120 (Nat.le_of_ble_eq_true rfl) rfl ?_
        refine q_iload dX10_nearest_121 rfl ?_
        refine q_istore (ls' := [(0, _), (1, _), (2, _), (3, _), (5, _), (8, _), (9, _), (10, _)]) [0, 1, 2, 3, 5, 8, 9, 10] dX10_nearest_123 (Nat.le_of_ble_eq_true rfl) rfl ?_
        refine q_iload dX10_nearest_125 rfl ?_
        refine q_istore (ls' := [(0, _), (1, _), (2, _), (3, _), (5, _), (6, _), (8, _), (9, _), (10, _)]) [0, 1, 2, 3, 5, 6, 8, 9, 10] dX10_nearest_127 (Nat.le_of_ble_eq_true rfl) rfl ?_
        refine q_iload dX10_nearest_129 rfl ?_
        refine q_istore (ls' := [(0, _), (1, _), (2, _), (3, _), (5, _), (6, _), (7, _), (8, _), (9, _), (10, _)]) [0, 1, 2, 3, 5, 6, 7, 8, 9, 10] dX10_nearest_131 (Nat.le_of_ble_eq_true rfl) rfl ?_
        refine q_iinc1 (w := 1) (ls' := [(0, _), (1, _), (2, _), (3, _), (5, _), (6, _), (7, _), (8, _), (9, _), (10, _)]) [0, 1, 2, 3, 5, 6, 7, 8, 9, 10] dX10_nearest_133 rfl (by decide) (Nat.le_of_ble_eq_true rfl) rfl ?_
        refine q_goto 84 dX10_nearest_136 (by decide) ?_
        exact ih _ _ _ _ _ _ _ _ _ _ h hx0
      · have h := q_if hc h
        refine q_aload_n dX10_nearest_99 rfl ?_
        refine q_iload dX10_nearest_100 rfl ?_
        refine q_iload dX10_nearest_102 rfl ?_
        obtain ⟨r5, hr6, h⟩ := q_bd h
        refine c_V1 (as := [_, _]) (st := []) (ci := 10) dX10_nearest_104 okX10_apartOf lX10_224 ⟨rfl, rfl⟩ ⟨Nat.le_of_ble_eq_true rfl, Nat.le_of_ble_eq_true rfl⟩ (by decide) rfl rfl (Nat.lt_of_lt_of_le (Nat.le_of_ble_eq_true rfl) hn) rfl rfl (Nat.le_of_ble_eq_true rfl) (Nat.le_of_ble_eq_true rfl) (t_X10_apartOf hn hF  hr6) ?_
        refine q_lload_n dX10_nearest_107 rfl ?_
        refine q_lcmp_ge 133 dX10_nearest_108 dX10_nearest_109 (by decide) (fun hc => ?_) (fun hc => ?_)
        · have h := q_it hc h
          refine q_iinc1 (w := 1) (ls' := [(0, _), (1, _), (2, _), (3, _), (5, _), (6, _), (7, _), (8, _), (9, _), (10, _)]) [0, 1, 2, 3, 5, 6, 7, 8, 9, 10] dX10_nearest_133 rfl (by decide) (Nat.le_of_ble_eq_true rfl) rfl ?_
          refine q_goto 84 dX10_nearest_136 (by decide) ?_
          exact ih _ _ _ _ _ _ _ _ _ _ h hx0
        · have h := q_if hc h
          refine q_aload_n dX10_nearest_112 rfl ?_
          refine q_iload dX10_nearest_113 rfl ?_
          refine q_iload dX10_nearest_115 rfl ?_
          obtain ⟨r7, hr8, h⟩ := q_bd h
          refine c_V1 (as := [_, _]) (st := []) (ci := 10) dX10_nearest_117 okX10_apartOf lX10_224 ⟨rfl, rfl⟩ ⟨Nat.le_of_ble_eq_true rfl, Nat.le_of_ble_eq_true rfl⟩ (by decide) rfl rfl (Nat.lt_of_lt_of_le (Nat.le_of_ble_eq_true rfl) hn) rfl rfl (Nat.le_of_ble_eq_true rfl) (Nat.le_of_ble_eq_true rfl) (t_X10_apartOf hn hF  hr8) ?_
          refine q_lstore_n (ls' := [(0, _), (1, _), (2, _), (3, _), (8, _), (9, _), (10, _)]) [0, 1, 2, 3, 8, 9, 10] dX10_nearest_120 (Nat.le_of_ble_eq_true rfl) rfl ?_
          refine q_iload dX10_nearest_121 rfl ?_
          refine q_istore (ls' := [(0, _), (1, _), (2, _), (3, _), (5, _), (8, _), (9, _), (10, _)]) [0, 1, 2, 3, 5, 8, 9, 10] dX10_nearest_123 (Nat.le_of_ble_eq_true rfl) rfl ?_
          refine q_iload dX10_nearest_125 rfl ?_
          refine q_istore (ls' := [(0, _), (1, _), (2, _), (3, _), (5, _), (6, _), (8, _), (9, _), (10, _)]) [0, 1, 2, 3, 5, 6, 8, 9, 10] dX10_nearest_127 (Nat.le_of_ble_eq_true rfl) rfl ?_
          refine q_iload dX10_nearest_129 rfl ?_
          refine q_istore (ls' := [(0, _), (1, _), (2, _), (3, _), (5, _), (6, _), (7, _), (8, _), (9, _), (10, _)]) [0, 1, 2, 3, 5, 6, 7, 8, 9, 10] dX10_nearest_131 (Nat.le_of_ble_eq_true rfl) rfl ?_
          refine q_iinc1 (w := 1) (ls' := [(0, _), (1, _), (2, _), (3, _), (5, _), (6, _), (7, _), (8, _), (9, _), (10, _)]) [0, 1, 2, 3, 5, 6, 7, 8, 9, 10] dX10_nearest_133 rfl (by decide) (Nat.le_of_ble_eq_true rfl) rfl ?_
          refine q_goto 84 dX10_nearest_136 (by decide) ?_
          exact ih _ _ _ _ _ _ _ _ _ _ h hx0
def l_X10_nearest_69 : Nat → Int32 → Int32 → Int64 → Int32 → Int32 → Int32 → Int32 → Int32 → q_Mm → Option (Int64 × Int32 × Int32 × Int32)
  | 0, _, _, _, _, _, _, _, _, _ => none
  | k + 1, y1, y2, y3, y5, y6, y7, y8, y9, m =>
    if (m.1 58 11) ≤ y9 then
      some (y3, y5, y6, y7)
    else
      (l_X10_nearest_84 7000  y1 y2 y3 y5 y6 y7 y8 y9 (y9 + 1) m).bind fun r9 =>
      l_X10_nearest_69 k  y1 y2 r9.1 r9.2.1 r9.2.2.1 r9.2.2.2 y8 (y9 + 1) m
set_option maxRecDepth 100000 in
set_option maxHeartbeats 4000000 in
theorem t_l_X10_nearest_69 {g : q_G} {n : Nat} {F : Nat → Nat → Option Nat} {Z : List Frame → Array Value → State → State → Prop} {kc ks : Nat} (hn : 89 ≤ n) (hF : q_FF F)  : ∀ (k : Nat) (y1 : Int32) (y2 : Int32) (y3 : Int64) (y5 : Int32) (y6 : Int32) (y7 : Int32) (y8 : Int32) (y9 : Int32) (m : q_Mm) {r : Int64 × Int32 × Int32 × Int32}, l_X10_nearest_69 k y1 y2 y3 y5 y6 y7 y8 y9 m = some r → (q_V g mX10_nearest q_T Z kc ks 145 [(0, q_r g 58), (1, .int y1), (2, .int y2), (3, .long r.1), (5, .int r.2.1), (6, .int r.2.2.1), (7, .int r.2.2.2), (8, .int y8)] [] (q_mk n F m)) → q_V g mX10_nearest q_T Z kc ks 69 [(0, q_r g 58), (1, .int y1), (2, .int y2), (3, .long y3), (5, .int y5), (6, .int y6), (7, .int y7), (8, .int y8), (9, .int y9)] [] (q_mk n F m) := by
  intro k
  induction k with
  | zero => intro y1 y2 y3 y5 y6 y7 y8 y9 m r h; cases h
  | succ k ih =>
    intro y1 y2 y3 y5 y6 y7 y8 y9 m r h hx0
    unfold l_X10_nearest_69 at h
    refine q_iload dX10_nearest_69 rfl ?_
    refine q_aload_n dX10_nearest_71 rfl ?_
    refine u_geti dX10_nearest_72 fX10_194 rfl rfl (Nat.lt_of_lt_of_le (Nat.le_of_ble_eq_true rfl) hn) ?_
    refine q_icmp_ge 145 dX10_nearest_75 (by decide) (fun hc => ?_) (fun hc => ?_)
    · have h := q_it hc h
      refine q_drop [0, 1, 2, 3, 5, 6, 7, 8] (ls' := [(0, _), (1, _), (2, _), (3, _), (5, _), (6, _), (7, _), (8, _)]) rfl ?_
      cases h
      exact hx0
    · have h := q_if hc h
      refine q_iload dX10_nearest_78 rfl ?_
      refine q_iconst (v := 1) dX10_nearest_80 (by decide) ?_
      refine q_iadd dX10_nearest_81 ?_
      refine q_istore (ls' := [(0, _), (1, _), (2, _), (3, _), (5, _), (6, _), (7, _), (8, _), (9, _), (10, _)]) [0, 1, 2, 3, 5, 6, 7, 8, 9, 10] dX10_nearest_82 (Nat.le_of_ble_eq_true rfl) rfl ?_
      obtain ⟨r9, hr10, h⟩ := q_bd h
      refine t_l_X10_nearest_84 hn hF  7000 _ _ _ _ _ _ _ _ _ _ hr10 ?_
      refine q_iinc1 (w := 1) (ls' := [(0, _), (1, _), (2, _), (3, _), (5, _), (6, _), (7, _), (8, _), (9, _)]) [0, 1, 2, 3, 5, 6, 7, 8, 9] dX10_nearest_139 rfl (by decide) (Nat.le_of_ble_eq_true rfl) rfl ?_
      refine q_goto 69 dX10_nearest_142 (by decide) ?_
      exact ih _ _ _ _ _ _ _ _ _ h hx0
def l_X10_nearest_60 : Nat → Int32 → Int32 → Int64 → Int32 → Int32 → Int32 → Int32 → q_Mm → Option (Int64 × Int32 × Int32 × Int32 × q_Mm)
  | 0, _, _, _, _, _, _, _, _ => none
  | k + 1, y1, y2, y3, y5, y6, y7, y8, m =>
    if y1 < y8 then
      some (y3, y5, y6, y7, m)
    else
      (l_X10_nearest_69 7000  y1 y2 y3 y5 y6 y7 y8 0 m).bind fun r11 =>
      (f_X10_stepAll y8 m).bind fun r13 =>
      l_X10_nearest_60 k  y1 y2 r11.1 r11.2.1 r11.2.2.1 r11.2.2.2 (y8 + 1) r13
set_option maxRecDepth 100000 in
set_option maxHeartbeats 4000000 in
theorem t_l_X10_nearest_60 {g : q_G} {n : Nat} {F : Nat → Nat → Option Nat} {Z : List Frame → Array Value → State → State → Prop} {kc ks : Nat} (hn : 89 ≤ n) (hF : q_FF F)  : ∀ (k : Nat) (y1 : Int32) (y2 : Int32) (y3 : Int64) (y5 : Int32) (y6 : Int32) (y7 : Int32) (y8 : Int32) (m : q_Mm) {r : Int64 × Int32 × Int32 × Int32 × q_Mm}, l_X10_nearest_60 k y1 y2 y3 y5 y6 y7 y8 m = some r → (q_V g mX10_nearest q_T Z kc ks 157 [(2, .int y2), (3, .long r.1), (5, .int r.2.1), (6, .int r.2.2.1), (7, .int r.2.2.2.1)] [] (q_mk n F r.2.2.2.2)) → q_V g mX10_nearest q_T Z kc ks 60 [(0, q_r g 58), (1, .int y1), (2, .int y2), (3, .long y3), (5, .int y5), (6, .int y6), (7, .int y7), (8, .int y8)] [] (q_mk n F m) := by
  intro k
  induction k with
  | zero => intro y1 y2 y3 y5 y6 y7 y8 m r h; cases h
  | succ k ih =>
    intro y1 y2 y3 y5 y6 y7 y8 m r h hx0
    unfold l_X10_nearest_60 at h
    refine q_iload dX10_nearest_60 rfl ?_
    refine q_iload_n dX10_nearest_62 rfl ?_
    refine q_icmp_gt 157 dX10_nearest_63 (by decide) (fun hc => ?_) (fun hc => ?_)
    · have h := q_it hc h
      refine q_drop [2, 3, 5, 6, 7] (ls' := [(2, _), (3, _), (5, _), (6, _), (7, _)]) rfl ?_
      cases h
      exact hx0
    · have h := q_if hc h
      refine q_iconst (v := 0) dX10_nearest_66 (by decide) ?_
      refine q_istore (ls' := [(0, _), (1, _), (2, _), (3, _), (5, _), (6, _), (7, _), (8, _), (9, _)]) [0, 1, 2, 3, 5, 6, 7, 8, 9] dX10_nearest_67 (Nat.le_of_ble_eq_true rfl) rfl ?_
      obtain ⟨r11, hr12, h⟩ := q_bd h
      refine t_l_X10_nearest_69 hn hF  7000 _ _ _ _ _ _ _ _ _ hr12 ?_
      refine q_aload_n dX10_nearest_145 rfl ?_
      refine q_iload dX10_nearest_146 rfl ?_
      obtain ⟨r13, hr14, h⟩ := q_bd h
      refine c_V0 (as := [_]) (st := []) (ci := 10) dX10_nearest_148 okX10_stepAll lX10_228 ⟨rfl, rfl⟩ ⟨Nat.le_of_ble_eq_true rfl, Nat.le_of_ble_eq_true rfl⟩ (by decide) rfl rfl (Nat.lt_of_lt_of_le (Nat.le_of_ble_eq_true rfl) hn) rfl rfl (Nat.le_of_ble_eq_true rfl) (Nat.le_of_ble_eq_true rfl) (t_X10_stepAll hn hF  hr14) ?_
      refine q_iinc1 (w := 1) (ls' := [(0, _), (1, _), (2, _), (3, _), (5, _), (6, _), (7, _), (8, _)]) [0, 1, 2, 3, 5, 6, 7, 8] dX10_nearest_151 rfl (by decide) (Nat.le_of_ble_eq_true rfl) rfl ?_
      refine q_goto 60 dX10_nearest_154 (by decide) ?_
      exact ih _ _ _ _ _ _ _ _ h hx0
def f_X10_nearest (x1 : Int32) (x2 : Int32) (m : q_Mm) : Option (Int64 × q_Mm) :=
  if (f_X10_in x1.toInt64 0 600 m) = 0 then
    some (((-1000000000002), m))
  else
    if (f_X10_in x2.toInt64 0 3 m) = 0 then
      some (((-1000000000002), m))
    else
      if 2 ≤ (m.1 58 11) then
        (f_X10_begin  m).bind fun r1 =>
        (l_X10_nearest_60 7000  x1 x2 (-1) 0 0 0 0 r1).bind fun r15 =>
        if x2 = 0 then
          some ((r15.1, r15.2.2.2.2))
        else
          if x2 = 1 then
            some ((r15.2.1.toInt64, r15.2.2.2.2))
          else
            if x2 = 2 then
              some ((r15.2.2.1.toInt64, r15.2.2.2.2))
            else
              some ((r15.2.2.2.1.toInt64, r15.2.2.2.2))
      else
        some (((-1000000000003), m))
set_option maxRecDepth 100000 in
set_option maxHeartbeats 4000000 in
theorem t_X10_nearest {g : q_G} {n : Nat} {F : Nat → Nat → Option Nat} (hn : 89 ≤ n) (hF : q_FF F)  {x1 : Int32} {x2 : Int32} {m : q_Mm} {r : Int64 × q_Mm} (h : f_X10_nearest x1 x2 m = some r) : q_Cn g mX10_nearest [q_r g 58, .int x1, .int x2] (q_mk n F m) (q_Q (some (.long r.1)) (q_mk n F r.2)) := by
  unfold f_X10_nearest at h
  show q_V g mX10_nearest q_T _ _ _ 0 [(0, q_r g 58), (1, .int x1), (2, .int x2)] [] (q_mk n F m)
  refine q_iload_n dX10_nearest_0 rfl ?_
  refine q_i2l dX10_nearest_1 ?_
  refine q_lconst (v := 0) dX10_nearest_2 (by decide) ?_
  refine q_ldc2 dX10_nearest_3 kX10_136 ?_
  refine c_S1 (as := [_, _, _]) (st := []) dX10_nearest_6 okX10_in lX10_122 ⟨rfl, rfl⟩ ⟨Nat.le_of_ble_eq_true rfl, Nat.le_of_ble_eq_true rfl⟩ rfl rfl (Nat.le_of_ble_eq_true rfl) (Nat.le_of_ble_eq_true rfl) (t_X10_in hn hF  rfl) ?_
  refine q_if_eq 24 dX10_nearest_9 (by decide) (fun hc => ?_) (fun hc => ?_)
  · have h := q_it hc h
    refine q_ldc2 dX10_nearest_24 kX10_171 ?_
    cases h
    exact q_lret dX10_nearest_27 rfl ⟨rfl, rfl⟩
  · have h := q_if hc h
    refine q_iload_n dX10_nearest_12 rfl ?_
    refine q_i2l dX10_nearest_13 ?_
    refine q_lconst (v := 0) dX10_nearest_14 (by decide) ?_
    refine q_ldc2 dX10_nearest_15 kX10_120 ?_
    refine c_S1 (as := [_, _, _]) (st := []) dX10_nearest_18 okX10_in lX10_122 ⟨rfl, rfl⟩ ⟨Nat.le_of_ble_eq_true rfl, Nat.le_of_ble_eq_true rfl⟩ rfl rfl (Nat.le_of_ble_eq_true rfl) (Nat.le_of_ble_eq_true rfl) (t_X10_in hn hF  rfl) ?_
    refine q_if_ne 28 dX10_nearest_21 (by decide) (fun hc => ?_) (fun hc => ?_)
    · have h := q_if hc h
      refine q_aload_n dX10_nearest_28 rfl ?_
      refine u_geti dX10_nearest_29 fX10_194 rfl rfl (Nat.lt_of_lt_of_le (Nat.le_of_ble_eq_true rfl) hn) ?_
      refine q_iconst (v := 2) dX10_nearest_32 (by decide) ?_
      refine q_icmp_ge 40 dX10_nearest_33 (by decide) (fun hc => ?_) (fun hc => ?_)
      · have h := q_it hc h
        refine q_ldc2 dX10_nearest_40 kX10_219 ?_
        refine q_lstore_n (ls' := [(0, _), (1, _), (2, _), (3, _)]) [0, 1, 2, 3] dX10_nearest_43 (Nat.le_of_ble_eq_true rfl) rfl ?_
        refine q_iconst (v := 0) dX10_nearest_44 (by decide) ?_
        refine q_istore (ls' := [(0, _), (1, _), (2, _), (3, _), (5, _)]) [0, 1, 2, 3, 5] dX10_nearest_45 (Nat.le_of_ble_eq_true rfl) rfl ?_
        refine q_iconst (v := 0) dX10_nearest_47 (by decide) ?_
        refine q_istore (ls' := [(0, _), (1, _), (2, _), (3, _), (5, _), (6, _)]) [0, 1, 2, 3, 5, 6] dX10_nearest_48 (Nat.le_of_ble_eq_true rfl) rfl ?_
        refine q_iconst (v := 0) dX10_nearest_50 (by decide) ?_
        refine q_istore (ls' := [(0, _), (1, _), (2, _), (3, _), (5, _), (6, _), (7, _)]) [0, 1, 2, 3, 5, 6, 7] dX10_nearest_51 (Nat.le_of_ble_eq_true rfl) rfl ?_
        refine q_aload_n dX10_nearest_53 rfl ?_
        obtain ⟨r1, hr2, h⟩ := q_bd h
        refine c_V0 (as := []) (st := []) (ci := 10) dX10_nearest_54 okX10_begin lX10_221 ⟨rfl, rfl⟩ ⟨Nat.le_of_ble_eq_true rfl, Nat.le_of_ble_eq_true rfl⟩ (by decide) rfl rfl (Nat.lt_of_lt_of_le (Nat.le_of_ble_eq_true rfl) hn) rfl rfl (Nat.le_of_ble_eq_true rfl) (Nat.le_of_ble_eq_true rfl) (t_X10_begin hn hF  hr2) ?_
        refine q_iconst (v := 0) dX10_nearest_57 (by decide) ?_
        refine q_istore (ls' := [(0, _), (1, _), (2, _), (3, _), (5, _), (6, _), (7, _), (8, _)]) [0, 1, 2, 3, 5, 6, 7, 8] dX10_nearest_58 (Nat.le_of_ble_eq_true rfl) rfl ?_
        obtain ⟨r15, hr16, h⟩ := q_bd h
        refine t_l_X10_nearest_60 hn hF  7000 _ _ _ _ _ _ _ _ hr16 ?_
        refine q_iload_n dX10_nearest_157 rfl ?_
        refine q_if_ne 165 dX10_nearest_158 (by decide) (fun hc => ?_) (fun hc => ?_)
        · have h := q_if hc h
          refine q_iload_n dX10_nearest_165 rfl ?_
          refine q_iconst (v := 1) dX10_nearest_166 (by decide) ?_
          refine q_icmp_ne 176 dX10_nearest_167 (by decide) (fun hc => ?_) (fun hc => ?_)
          · have h := q_if hc h
            refine q_iload_n dX10_nearest_176 rfl ?_
            refine q_iconst (v := 2) dX10_nearest_177 (by decide) ?_
            refine q_icmp_ne 187 dX10_nearest_178 (by decide) (fun hc => ?_) (fun hc => ?_)
            · have h := q_if hc h
              refine q_iload dX10_nearest_187 rfl ?_
              refine q_i2l dX10_nearest_189 ?_
              cases h
              exact q_lret dX10_nearest_190 rfl ⟨rfl, rfl⟩
            · have h := q_it hc h
              refine q_iload dX10_nearest_181 rfl ?_
              refine q_i2l dX10_nearest_183 ?_
              refine q_goto 190 dX10_nearest_184 (by decide) ?_
              cases h
              exact q_lret dX10_nearest_190 rfl ⟨rfl, rfl⟩
          · have h := q_it hc h
            refine q_iload dX10_nearest_170 rfl ?_
            refine q_i2l dX10_nearest_172 ?_
            refine q_goto 190 dX10_nearest_173 (by decide) ?_
            cases h
            exact q_lret dX10_nearest_190 rfl ⟨rfl, rfl⟩
        · have h := q_it hc h
          refine q_lload_n dX10_nearest_161 rfl ?_
          refine q_goto 190 dX10_nearest_162 (by decide) ?_
          cases h
          exact q_lret dX10_nearest_190 rfl ⟨rfl, rfl⟩
      · have h := q_if hc h
        refine q_ldc2 dX10_nearest_36 kX10_217 ?_
        cases h
        exact q_lret dX10_nearest_39 rfl ⟨rfl, rfl⟩
    · have h := q_it hc h
      refine q_ldc2 dX10_nearest_24 kX10_171 ?_
      cases h
      exact q_lret dX10_nearest_27 rfl ⟨rfl, rfl⟩
def l_X10_close_63 : Nat → Int32 → Int32 → Int32 → Int32 → Int32 → Int32 → Int32 → q_Mm → Option (Int32)
  | 0, _, _, _, _, _, _, _, _ => none
  | k + 1, y1, y2, y3, y4, y5, y6, y7, m =>
    if (m.1 58 11) ≤ y7 then
      some (y5)
    else
      if y5 = 0 then
        (f_X10_apartOf y6 y7 m).bind fun r3 =>
        if (y2.toInt64 * y2.toInt64) ≤ r3 then
          l_X10_close_63 k  y1 y2 y3 y4 0 y6 (y7 + 1) m
        else
          l_X10_close_63 k  y1 y2 y3 y4 1 y6 (y7 + 1) m
      else
        l_X10_close_63 k  y1 y2 y3 y4 1 y6 (y7 + 1) m
set_option maxRecDepth 100000 in
set_option maxHeartbeats 4000000 in
theorem t_l_X10_close_63 {g : q_G} {n : Nat} {F : Nat → Nat → Option Nat} {Z : List Frame → Array Value → State → State → Prop} {kc ks : Nat} (hn : 89 ≤ n) (hF : q_FF F)  : ∀ (k : Nat) (y1 : Int32) (y2 : Int32) (y3 : Int32) (y4 : Int32) (y5 : Int32) (y6 : Int32) (y7 : Int32) (m : q_Mm) {r : Int32}, l_X10_close_63 k y1 y2 y3 y4 y5 y6 y7 m = some r → (q_V g mX10_close q_T Z kc ks 107 [(0, q_r g 58), (1, .int y1), (2, .int y2), (3, .int y3), (4, .int y4), (5, .int r), (6, .int y6)] [] (q_mk n F m)) → q_V g mX10_close q_T Z kc ks 63 [(0, q_r g 58), (1, .int y1), (2, .int y2), (3, .int y3), (4, .int y4), (5, .int y5), (6, .int y6), (7, .int y7)] [] (q_mk n F m) := by
  intro k
  induction k with
  | zero => intro y1 y2 y3 y4 y5 y6 y7 m r h; cases h
  | succ k ih =>
    intro y1 y2 y3 y4 y5 y6 y7 m r h hx0
    unfold l_X10_close_63 at h
    refine q_iload dX10_close_63 rfl ?_
    refine q_aload_n dX10_close_65 rfl ?_
    refine u_geti dX10_close_66 fX10_194 rfl rfl (Nat.lt_of_lt_of_le (Nat.le_of_ble_eq_true rfl) hn) ?_
    refine q_icmp_ge 107 dX10_close_69 (by decide) (fun hc => ?_) (fun hc => ?_)
    · have h := q_it hc h
      refine q_drop [0, 1, 2, 3, 4, 5, 6] (ls' := [(0, _), (1, _), (2, _), (3, _), (4, _), (5, _), (6, _)]) rfl ?_
      cases h
      exact hx0
    · have h := q_if hc h
      refine q_iload dX10_close_72 rfl ?_
      refine q_if_ne 94 dX10_close_74 (by decide) (fun hc => ?_) (fun hc => ?_)
      · have h := q_if hc h
        refine q_iconst (v := 1) dX10_close_94 (by decide) ?_
        refine q_goto 99 dX10_close_95 (by decide) ?_
        refine q_istore (ls' := [(0, _), (1, _), (2, _), (3, _), (4, _), (5, _), (6, _), (7, _)]) [0, 1, 2, 3, 4, 5, 6, 7] dX10_close_99 (Nat.le_of_ble_eq_true rfl) rfl ?_
        refine q_iinc1 (w := 1) (ls' := [(0, _), (1, _), (2, _), (3, _), (4, _), (5, _), (6, _), (7, _)]) [0, 1, 2, 3, 4, 5, 6, 7] dX10_close_101 rfl (by decide) (Nat.le_of_ble_eq_true rfl) rfl ?_
        refine q_goto 63 dX10_close_104 (by decide) ?_
        exact ih _ _ _ _ _ _ _ _ h hx0
      · have h := q_it hc h
        refine q_aload_n dX10_close_77 rfl ?_
        refine q_iload dX10_close_78 rfl ?_
        refine q_iload dX10_close_80 rfl ?_
        obtain ⟨r3, hr4, h⟩ := q_bd h
        refine c_V1 (as := [_, _]) (st := []) (ci := 10) dX10_close_82 okX10_apartOf lX10_224 ⟨rfl, rfl⟩ ⟨Nat.le_of_ble_eq_true rfl, Nat.le_of_ble_eq_true rfl⟩ (by decide) rfl rfl (Nat.lt_of_lt_of_le (Nat.le_of_ble_eq_true rfl) hn) rfl rfl (Nat.le_of_ble_eq_true rfl) (Nat.le_of_ble_eq_true rfl) (t_X10_apartOf hn hF  hr4) ?_
        refine q_iload_n dX10_close_85 rfl ?_
        refine q_i2l dX10_close_86 ?_
        refine q_iload_n dX10_close_87 rfl ?_
        refine q_i2l dX10_close_88 ?_
        refine q_lmul dX10_close_89 ?_
        refine q_lcmp_ge 98 dX10_close_90 dX10_close_91 (by decide) (fun hc => ?_) (fun hc => ?_)
        · have h := q_it hc h
          refine q_iconst (v := 0) dX10_close_98 (by decide) ?_
          refine q_istore (ls' := [(0, _), (1, _), (2, _), (3, _), (4, _), (5, _), (6, _), (7, _)]) [0, 1, 2, 3, 4, 5, 6, 7] dX10_close_99 (Nat.le_of_ble_eq_true rfl) rfl ?_
          refine q_iinc1 (w := 1) (ls' := [(0, _), (1, _), (2, _), (3, _), (4, _), (5, _), (6, _), (7, _)]) [0, 1, 2, 3, 4, 5, 6, 7] dX10_close_101 rfl (by decide) (Nat.le_of_ble_eq_true rfl) rfl ?_
          refine q_goto 63 dX10_close_104 (by decide) ?_
          exact ih _ _ _ _ _ _ _ _ h hx0
        · have h := q_if hc h
          refine q_iconst (v := 1) dX10_close_94 (by decide) ?_
          refine q_goto 99 dX10_close_95 (by decide) ?_
          refine q_istore (ls' := [(0, _), (1, _), (2, _), (3, _), (4, _), (5, _), (6, _), (7, _)]) [0, 1, 2, 3, 4, 5, 6, 7] dX10_close_99 (Nat.le_of_ble_eq_true rfl) rfl ?_
          refine q_iinc1 (w := 1) (ls' := [(0, _), (1, _), (2, _), (3, _), (4, _), (5, _), (6, _), (7, _)]) [0, 1, 2, 3, 4, 5, 6, 7] dX10_close_101 rfl (by decide) (Nat.le_of_ble_eq_true rfl) rfl ?_
          refine q_goto 63 dX10_close_104 (by decide) ?_
          exact ih _ _ _ _ _ _ _ _ h hx0
def l_X10_close_48 : Nat → Int32 → Int32 → Int32 → Int32 → Int32 → Int32 → q_Mm → Option (Int32)
  | 0, _, _, _, _, _, _, _ => none
  | k + 1, y1, y2, y3, y4, y5, y6, m =>
    if (m.1 58 11) ≤ y6 then
      some (y5)
    else
      (l_X10_close_63 7000  y1 y2 y3 y4 y5 y6 (y6 + 1) m).bind fun r5 =>
      l_X10_close_48 k  y1 y2 y3 y4 r5 (y6 + 1) m
set_option maxRecDepth 100000 in
set_option maxHeartbeats 4000000 in
theorem t_l_X10_close_48 {g : q_G} {n : Nat} {F : Nat → Nat → Option Nat} {Z : List Frame → Array Value → State → State → Prop} {kc ks : Nat} (hn : 89 ≤ n) (hF : q_FF F)  : ∀ (k : Nat) (y1 : Int32) (y2 : Int32) (y3 : Int32) (y4 : Int32) (y5 : Int32) (y6 : Int32) (m : q_Mm) {r : Int32}, l_X10_close_48 k y1 y2 y3 y4 y5 y6 m = some r → (q_V g mX10_close q_T Z kc ks 113 [(0, q_r g 58), (1, .int y1), (2, .int y2), (3, .int y3), (4, .int y4), (5, .int r)] [] (q_mk n F m)) → q_V g mX10_close q_T Z kc ks 48 [(0, q_r g 58), (1, .int y1), (2, .int y2), (3, .int y3), (4, .int y4), (5, .int y5), (6, .int y6)] [] (q_mk n F m) := by
  intro k
  induction k with
  | zero => intro y1 y2 y3 y4 y5 y6 m r h; cases h
  | succ k ih =>
    intro y1 y2 y3 y4 y5 y6 m r h hx0
    unfold l_X10_close_48 at h
    refine q_iload dX10_close_48 rfl ?_
    refine q_aload_n dX10_close_50 rfl ?_
    refine u_geti dX10_close_51 fX10_194 rfl rfl (Nat.lt_of_lt_of_le (Nat.le_of_ble_eq_true rfl) hn) ?_
    refine q_icmp_ge 113 dX10_close_54 (by decide) (fun hc => ?_) (fun hc => ?_)
    · have h := q_it hc h
      refine q_drop [0, 1, 2, 3, 4, 5] (ls' := [(0, _), (1, _), (2, _), (3, _), (4, _), (5, _)]) rfl ?_
      cases h
      exact hx0
    · have h := q_if hc h
      refine q_iload dX10_close_57 rfl ?_
      refine q_iconst (v := 1) dX10_close_59 (by decide) ?_
      refine q_iadd dX10_close_60 ?_
      refine q_istore (ls' := [(0, _), (1, _), (2, _), (3, _), (4, _), (5, _), (6, _), (7, _)]) [0, 1, 2, 3, 4, 5, 6, 7] dX10_close_61 (Nat.le_of_ble_eq_true rfl) rfl ?_
      obtain ⟨r5, hr6, h⟩ := q_bd h
      refine t_l_X10_close_63 hn hF  7000 _ _ _ _ _ _ _ _ hr6 ?_
      refine q_iinc1 (w := 1) (ls' := [(0, _), (1, _), (2, _), (3, _), (4, _), (5, _), (6, _)]) [0, 1, 2, 3, 4, 5, 6] dX10_close_107 rfl (by decide) (Nat.le_of_ble_eq_true rfl) rfl ?_
      refine q_goto 48 dX10_close_110 (by decide) ?_
      exact ih _ _ _ _ _ _ _ h hx0
def l_X10_close_36 : Nat → Int32 → Int32 → Int32 → Int32 → q_Mm → Option (Int32 × q_Mm)
  | 0, _, _, _, _, _ => none
  | k + 1, y1, y2, y3, y4, m =>
    if y1 < y4 then
      some (y3, m)
    else
      (l_X10_close_48 7000  y1 y2 y3 y4 0 0 m).bind fun r7 =>
      if r7 = 0 then
        (f_X10_stepAll y4 m).bind fun r9 =>
        l_X10_close_36 k  y1 y2 (y3 + 0) (y4 + 1) r9
      else
        (f_X10_stepAll y4 m).bind fun r11 =>
        l_X10_close_36 k  y1 y2 (y3 + 1) (y4 + 1) r11
set_option maxRecDepth 100000 in
set_option maxHeartbeats 4000000 in
theorem t_l_X10_close_36 {g : q_G} {n : Nat} {F : Nat → Nat → Option Nat} {Z : List Frame → Array Value → State → State → Prop} {kc ks : Nat} (hn : 89 ≤ n) (hF : q_FF F)  : ∀ (k : Nat) (y1 : Int32) (y2 : Int32) (y3 : Int32) (y4 : Int32) (m : q_Mm) {r : Int32 × q_Mm}, l_X10_close_36 k y1 y2 y3 y4 m = some r → (q_V g mX10_close q_T Z kc ks 138 [(3, .int r.1)] [] (q_mk n F r.2)) → q_V g mX10_close q_T Z kc ks 36 [(0, q_r g 58), (1, .int y1), (2, .int y2), (3, .int y3), (4, .int y4)] [] (q_mk n F m) := by
  intro k
  induction k with
  | zero => intro y1 y2 y3 y4 m r h; cases h
  | succ k ih =>
    intro y1 y2 y3 y4 m r h hx0
    unfold l_X10_close_36 at h
    refine q_iload dX10_close_36 rfl ?_
    refine q_iload_n dX10_close_38 rfl ?_
    refine q_icmp_gt 138 dX10_close_39 (by decide) (fun hc => ?_) (fun hc => ?_)
    · have h := q_it hc h
      refine q_drop [3] (ls' := [(3, _)]) rfl ?_
      cases h
      exact hx0
    · have h := q_if hc h
      refine q_iconst (v := 0) dX10_close_42 (by decide) ?_
      refine q_istore (ls' := [(0, _), (1, _), (2, _), (3, _), (4, _), (5, _)]) [0, 1, 2, 3, 4, 5] dX10_close_43 (Nat.le_of_ble_eq_true rfl) rfl ?_
      refine q_iconst (v := 0) dX10_close_45 (by decide) ?_
      refine q_istore (ls' := [(0, _), (1, _), (2, _), (3, _), (4, _), (5, _), (6, _)]) [0, 1, 2, 3, 4, 5, 6] dX10_close_46 (Nat.le_of_ble_eq_true rfl) rfl ?_
      obtain ⟨r7, hr8, h⟩ := q_bd h
      refine t_l_X10_close_48 hn hF  7000 _ _ _ _ _ _ _ hr8 ?_
      refine q_iload_n dX10_close_113 rfl ?_
      refine q_iload dX10_close_114 rfl ?_
      refine q_if_eq 123 dX10_close_116 (by decide) (fun hc => ?_) (fun hc => ?_)
      · have h := q_it hc h
        refine q_iconst (v := 0) dX10_close_123 (by decide) ?_
        refine q_iadd dX10_close_124 ?_
        refine q_istore_n (ls' := [(0, _), (1, _), (2, _), (3, _), (4, _)]) [0, 1, 2, 3, 4] dX10_close_125 (Nat.le_of_ble_eq_true rfl) rfl ?_
        refine q_aload_n dX10_close_126 rfl ?_
        refine q_iload dX10_close_127 rfl ?_
        obtain ⟨r9, hr10, h⟩ := q_bd h
        refine c_V0 (as := [_]) (st := []) (ci := 10) dX10_close_129 okX10_stepAll lX10_228 ⟨rfl, rfl⟩ ⟨Nat.le_of_ble_eq_true rfl, Nat.le_of_ble_eq_true rfl⟩ (by decide) rfl rfl (Nat.lt_of_lt_of_le (Nat.le_of_ble_eq_true rfl) hn) rfl rfl (Nat.le_of_ble_eq_true rfl) (Nat.le_of_ble_eq_true rfl) (t_X10_stepAll hn hF  hr10) ?_
        refine q_iinc1 (w := 1) (ls' := [(0, _), (1, _), (2, _), (3, _), (4, _)]) [0, 1, 2, 3, 4] dX10_close_132 rfl (by decide) (Nat.le_of_ble_eq_true rfl) rfl ?_
        refine q_goto 36 dX10_close_135 (by decide) ?_
        exact ih _ _ _ _ _ h hx0
      · have h := q_if hc h
        refine q_iconst (v := 1) dX10_close_119 (by decide) ?_
        refine q_goto 124 dX10_close_120 (by decide) ?_
        refine q_iadd dX10_close_124 ?_
        refine q_istore_n (ls' := [(0, _), (1, _), (2, _), (3, _), (4, _)]) [0, 1, 2, 3, 4] dX10_close_125 (Nat.le_of_ble_eq_true rfl) rfl ?_
        refine q_aload_n dX10_close_126 rfl ?_
        refine q_iload dX10_close_127 rfl ?_
        obtain ⟨r11, hr12, h⟩ := q_bd h
        refine c_V0 (as := [_]) (st := []) (ci := 10) dX10_close_129 okX10_stepAll lX10_228 ⟨rfl, rfl⟩ ⟨Nat.le_of_ble_eq_true rfl, Nat.le_of_ble_eq_true rfl⟩ (by decide) rfl rfl (Nat.lt_of_lt_of_le (Nat.le_of_ble_eq_true rfl) hn) rfl rfl (Nat.le_of_ble_eq_true rfl) (Nat.le_of_ble_eq_true rfl) (t_X10_stepAll hn hF  hr12) ?_
        refine q_iinc1 (w := 1) (ls' := [(0, _), (1, _), (2, _), (3, _), (4, _)]) [0, 1, 2, 3, 4] dX10_close_132 rfl (by decide) (Nat.le_of_ble_eq_true rfl) rfl ?_
        refine q_goto 36 dX10_close_135 (by decide) ?_
        exact ih _ _ _ _ _ h hx0
def f_X10_close (x1 : Int32) (x2 : Int32) (m : q_Mm) : Option (Int32 × q_Mm) :=
  if (f_X10_in x1.toInt64 0 600 m) = 0 then
    some (((-2), m))
  else
    if (f_X10_in x2.toInt64 0 1000000 m) = 0 then
      some (((-2), m))
    else
      (f_X10_begin  m).bind fun r1 =>
      (l_X10_close_36 7000  x1 x2 0 0 r1).bind fun r13 =>
      some ((r13.1, r13.2))
set_option maxRecDepth 100000 in
set_option maxHeartbeats 4000000 in
theorem t_X10_close {g : q_G} {n : Nat} {F : Nat → Nat → Option Nat} (hn : 89 ≤ n) (hF : q_FF F)  {x1 : Int32} {x2 : Int32} {m : q_Mm} {r : Int32 × q_Mm} (h : f_X10_close x1 x2 m = some r) : q_Cn g mX10_close [q_r g 58, .int x1, .int x2] (q_mk n F m) (q_Q (some (.int r.1)) (q_mk n F r.2)) := by
  unfold f_X10_close at h
  show q_V g mX10_close q_T _ _ _ 0 [(0, q_r g 58), (1, .int x1), (2, .int x2)] [] (q_mk n F m)
  refine q_iload_n dX10_close_0 rfl ?_
  refine q_i2l dX10_close_1 ?_
  refine q_lconst (v := 0) dX10_close_2 (by decide) ?_
  refine q_ldc2 dX10_close_3 kX10_136 ?_
  refine c_S1 (as := [_, _, _]) (st := []) dX10_close_6 okX10_in lX10_122 ⟨rfl, rfl⟩ ⟨Nat.le_of_ble_eq_true rfl, Nat.le_of_ble_eq_true rfl⟩ rfl rfl (Nat.le_of_ble_eq_true rfl) (Nat.le_of_ble_eq_true rfl) (t_X10_in hn hF  rfl) ?_
  refine q_if_eq 24 dX10_close_9 (by decide) (fun hc => ?_) (fun hc => ?_)
  · have h := q_it hc h
    refine q_bipush (v := (-2)) dX10_close_24 (by decide) ?_
    cases h
    exact q_iret dX10_close_26 rfl ⟨rfl, rfl⟩
  · have h := q_if hc h
    refine q_iload_n dX10_close_12 rfl ?_
    refine q_i2l dX10_close_13 ?_
    refine q_lconst (v := 0) dX10_close_14 (by decide) ?_
    refine q_ldc2 dX10_close_15 kX10_231 ?_
    refine c_S1 (as := [_, _, _]) (st := []) dX10_close_18 okX10_in lX10_122 ⟨rfl, rfl⟩ ⟨Nat.le_of_ble_eq_true rfl, Nat.le_of_ble_eq_true rfl⟩ rfl rfl (Nat.le_of_ble_eq_true rfl) (Nat.le_of_ble_eq_true rfl) (t_X10_in hn hF  rfl) ?_
    refine q_if_ne 27 dX10_close_21 (by decide) (fun hc => ?_) (fun hc => ?_)
    · have h := q_if hc h
      refine q_iconst (v := 0) dX10_close_27 (by decide) ?_
      refine q_istore_n (ls' := [(0, _), (1, _), (2, _), (3, _)]) [0, 1, 2, 3] dX10_close_28 (Nat.le_of_ble_eq_true rfl) rfl ?_
      refine q_aload_n dX10_close_29 rfl ?_
      obtain ⟨r1, hr2, h⟩ := q_bd h
      refine c_V0 (as := []) (st := []) (ci := 10) dX10_close_30 okX10_begin lX10_221 ⟨rfl, rfl⟩ ⟨Nat.le_of_ble_eq_true rfl, Nat.le_of_ble_eq_true rfl⟩ (by decide) rfl rfl (Nat.lt_of_lt_of_le (Nat.le_of_ble_eq_true rfl) hn) rfl rfl (Nat.le_of_ble_eq_true rfl) (Nat.le_of_ble_eq_true rfl) (t_X10_begin hn hF  hr2) ?_
      refine q_iconst (v := 0) dX10_close_33 (by decide) ?_
      refine q_istore (ls' := [(0, _), (1, _), (2, _), (3, _), (4, _)]) [0, 1, 2, 3, 4] dX10_close_34 (Nat.le_of_ble_eq_true rfl) rfl ?_
      obtain ⟨r13, hr14, h⟩ := q_bd h
      refine t_l_X10_close_36 hn hF  7000 _ _ _ _ _ hr14 ?_
      refine q_iload_n dX10_close_138 rfl ?_
      cases h
      exact q_iret dX10_close_139 rfl ⟨rfl, rfl⟩
    · have h := q_it hc h
      refine q_bipush (v := (-2)) dX10_close_24 (by decide) ?_
      cases h
      exact q_iret dX10_close_26 rfl ⟨rfl, rfl⟩
