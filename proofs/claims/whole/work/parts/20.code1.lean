def f_X5_courseAhead (a0 : Nat) (x1 : Int32) (m : q_Mm) : Option (Int32) :=
  if x1 ≤ 0 then
    some (0)
  else
    if q_in (x1 - 1) 12 = true then
    some (m.1 (a0 + 2) (x1 - 1).toNatClampNeg)
    else none
set_option maxRecDepth 100000 in
set_option maxHeartbeats 4000000 in
theorem t_X5_courseAhead {g : q_G} {n : Nat} {F : Nat → Nat → Option Nat} (hn : 89 ≤ n) (hF : q_FF F) {a0 : Nat} (ha0 : q_isPlan a0) {x1 : Int32} {m : q_Mm} {r : Int32} (h : f_X5_courseAhead a0 x1 m = some r) : q_Cn g mX5_courseAhead [q_r g a0, .int x1] (q_mk n F m) (q_Q (some (.int r)) (q_mk n F m)) := by
  unfold f_X5_courseAhead at h
  show q_V g mX5_courseAhead q_T _ _ _ 0 [(0, q_r g a0), (1, .int x1)] [] (q_mk n F m)
  refine q_iload_n dX5_courseAhead_0 rfl ?_
  refine q_if_le 15 dX5_courseAhead_1 (by decide) (fun hc => ?_) (fun hc => ?_)
  · have h := q_it hc h
    refine q_iconst (v := 0) dX5_courseAhead_15 (by decide) ?_
    cases h
    exact q_iret dX5_courseAhead_16 rfl ⟨rfl, rfl⟩
  · have h := q_if hc h
    refine q_aload_n dX5_courseAhead_4 rfl ?_
    refine u_getr dX5_courseAhead_5 fX5_15 rfl (q_plan_0 ha0) (q_lt0 (q_plan_n ha0 hn)) (q_plan_F2 hF ha0) ?_
    refine q_iload_n dX5_courseAhead_8 rfl ?_
    refine q_iconst (v := 1) dX5_courseAhead_9 (by decide) ?_
    refine q_isub dX5_courseAhead_10 ?_
    obtain ⟨hi1, h⟩ := q_is h
    refine u_iald dX5_courseAhead_11 (q_plan_2 ha0) (q_lt2 (q_plan_n ha0 hn)) (q_in_vp hi1) ?_
    refine q_goto 16 dX5_courseAhead_12 (by decide) ?_
    cases h
    exact q_iret dX5_courseAhead_16 rfl ⟨rfl, rfl⟩
def f_X5_legEnd (a0 : Nat) (x1 : Int32) (m : q_Mm) : Option (Int32) :=
  if (m.1 a0 2) ≤ (x1 + 1) then
    some (60)
  else
    if q_in (x1 + 1) 12 = true then
    some (m.1 (a0 + 1) (x1 + 1).toNatClampNeg)
    else none
set_option maxRecDepth 100000 in
set_option maxHeartbeats 4000000 in
theorem t_X5_legEnd {g : q_G} {n : Nat} {F : Nat → Nat → Option Nat} (hn : 89 ≤ n) (hF : q_FF F) {a0 : Nat} (ha0 : q_isPlan a0) {x1 : Int32} {m : q_Mm} {r : Int32} (h : f_X5_legEnd a0 x1 m = some r) : q_Cn g mX5_legEnd [q_r g a0, .int x1] (q_mk n F m) (q_Q (some (.int r)) (q_mk n F m)) := by
  unfold f_X5_legEnd at h
  show q_V g mX5_legEnd q_T _ _ _ 0 [(0, q_r g a0), (1, .int x1)] [] (q_mk n F m)
  refine q_iload_n dX5_legEnd_0 rfl ?_
  refine q_iconst (v := 1) dX5_legEnd_1 (by decide) ?_
  refine q_iadd dX5_legEnd_2 ?_
  refine q_aload_n dX5_legEnd_3 rfl ?_
  refine u_geti dX5_legEnd_4 fX5_18 rfl (q_plan_0 ha0) (q_lt0 (q_plan_n ha0 hn)) ?_
  refine q_icmp_ge 21 dX5_legEnd_7 (by decide) (fun hc => ?_) (fun hc => ?_)
  · have h := q_it hc h
    refine q_bipush (v := 60) dX5_legEnd_21 (by decide) ?_
    cases h
    exact q_iret dX5_legEnd_23 rfl ⟨rfl, rfl⟩
  · have h := q_if hc h
    refine q_aload_n dX5_legEnd_10 rfl ?_
    refine u_getr dX5_legEnd_11 fX5_9 rfl (q_plan_0 ha0) (q_lt0 (q_plan_n ha0 hn)) (q_plan_F1 hF ha0) ?_
    refine q_iload_n dX5_legEnd_14 rfl ?_
    refine q_iconst (v := 1) dX5_legEnd_15 (by decide) ?_
    refine q_iadd dX5_legEnd_16 ?_
    obtain ⟨hi1, h⟩ := q_is h
    refine u_iald dX5_legEnd_17 (q_plan_1 ha0) (q_lt1 (q_plan_n ha0 hn)) (q_in_vp hi1) ?_
    refine q_goto 23 dX5_legEnd_18 (by decide) ?_
    cases h
    exact q_iret dX5_legEnd_23 rfl ⟨rfl, rfl⟩
def l_X2_considerMisses_17 : Nat → Nat → Int32 → Int32 → Int32 → q_Mm → Option (q_Mm)
  | 0, _, _, _, _, _ => none
  | k + 1, b1, y3, y4, y5, m =>
    if (m.1 b1 2) ≤ y5 then
      some (m)
    else
      (f_X5_courseAhead b1 y5 m).bind fun r1 =>
      (f_X9_pace r1 0 m).bind fun r3 =>
      if q_in y5 12 = true then
      (f_X9_pace (m.1 (b1 + 2) y5.toNatClampNeg) 0 m).bind fun r6 =>
      (f_X9_pace r1 1 m).bind fun r8 =>
      if q_in y5 12 = true then
      (f_X9_pace (m.1 (b1 + 2) y5.toNatClampNeg) 1 m).bind fun r11 =>
      if q_in y5 12 = true then
      (f_X5_legEnd b1 y5 m).bind fun r14 =>
      (f_X2_misfitLess (q_max 0 (y4 + (m.1 (b1 + 1) y5.toNatClampNeg))) (y4 + r14) ((m.1 42 2) * (r3 - r6)) ((m.1 42 2) * (r8 - r11)) m).bind fun r16 =>
      l_X2_considerMisses_17 k b1 y3 y4 (y5 + 1) (f_X2_consider r16 y3 y5 m)
      else none
      else none
      else none
set_option maxRecDepth 100000 in
set_option maxHeartbeats 4000000 in
theorem t_l_X2_considerMisses_17 {g : q_G} {n : Nat} {F : Nat → Nat → Option Nat} {Z : List Frame → Array Value → State → State → Prop} {kc ks : Nat} (hn : 89 ≤ n) (hF : q_FF F) {b1 : Nat} (hb1 : q_isPlan b1) : ∀ (k : Nat) (y3 : Int32) (y4 : Int32) (y5 : Int32) (m : q_Mm) {r : q_Mm}, l_X2_considerMisses_17 k b1 y3 y4 y5 m = some r → (q_V g mX2_considerMisses q_T Z kc ks 139 [] [] (q_mk n F r)) → q_V g mX2_considerMisses q_T Z kc ks 17 [(0, q_r g 38), (1, q_r g b1), (2, q_r g 2), (3, .int y3), (4, .int y4), (5, .int y5)] [] (q_mk n F m) := by
  intro k
  induction k with
  | zero => intro y3 y4 y5 m r h; cases h
  | succ k ih =>
    intro y3 y4 y5 m r h hx0
    unfold l_X2_considerMisses_17 at h
    refine q_iload dX2_considerMisses_17 rfl ?_
    refine q_aload_n dX2_considerMisses_19 rfl ?_
    refine u_geti dX2_considerMisses_20 fX2_86 rfl (q_plan_0 hb1) (q_lt0 (q_plan_n hb1 hn)) ?_
    refine q_icmp_ge 139 dX2_considerMisses_23 (by decide) (fun hc => ?_) (fun hc => ?_)
    · have h := q_it hc h
      refine q_drop [] (ls' := []) rfl ?_
      cases h
      exact hx0
    · have h := q_if hc h
      refine q_aload_n dX2_considerMisses_26 rfl ?_
      refine q_iload dX2_considerMisses_27 rfl ?_
      obtain ⟨r1, hr2, h⟩ := q_bd h
      refine c_V1 (as := [_]) (st := []) (ci := 5) dX2_considerMisses_29 okX5_courseAhead lX2_89 ⟨rfl, rfl⟩ ⟨Nat.le_of_ble_eq_true rfl, Nat.le_of_ble_eq_true rfl⟩ (by decide) rfl (q_plan_0 hb1) (q_lt0 (q_plan_n hb1 hn)) rfl rfl (Nat.le_of_ble_eq_true rfl) (Nat.le_of_ble_eq_true rfl) (t_X5_courseAhead hn hF hb1 hr2) ?_
      refine q_istore (ls' := [(0, _), (1, _), (2, _), (3, _), (4, _), (5, _), (6, _)]) [0, 1, 2, 3, 4, 5, 6] dX2_considerMisses_32 (Nat.le_of_ble_eq_true rfl) rfl ?_
      refine q_aload_n dX2_considerMisses_34 rfl ?_
      refine u_getr dX2_considerMisses_35 fX2_28 rfl rfl (Nat.lt_of_lt_of_le (Nat.le_of_ble_eq_true rfl) hn) (hF 38 4 42 rfl) ?_
      refine u_geti dX2_considerMisses_38 fX2_93 rfl rfl (Nat.lt_of_lt_of_le (Nat.le_of_ble_eq_true rfl) hn) ?_
      refine q_iload dX2_considerMisses_41 rfl ?_
      refine q_iconst (v := 0) dX2_considerMisses_43 (by decide) ?_
      obtain ⟨r3, hr4, h⟩ := q_bd h
      refine c_SN1 (as := [_, _]) (st := [_]) dX2_considerMisses_44 okX9_pace lX2_96 ⟨rfl, rfl⟩ ⟨Nat.le_of_ble_eq_true rfl, Nat.le_of_ble_eq_true rfl⟩ rfl rfl (Nat.le_of_ble_eq_true rfl) (Nat.le_of_ble_eq_true rfl) (t_X9_pace hn hF  hr4) ?_
      refine q_aload_n dX2_considerMisses_47 rfl ?_
      refine u_getr dX2_considerMisses_48 fX2_100 rfl (q_plan_0 hb1) (q_lt0 (q_plan_n hb1 hn)) (q_plan_F2 hF hb1) ?_
      refine q_iload dX2_considerMisses_51 rfl ?_
      obtain ⟨hi5, h⟩ := q_is h
      refine u_iald dX2_considerMisses_53 (q_plan_2 hb1) (q_lt2 (q_plan_n hb1 hn)) (q_in_vp hi5) ?_
      refine q_iconst (v := 0) dX2_considerMisses_54 (by decide) ?_
      obtain ⟨r6, hr7, h⟩ := q_bd h
      refine c_SN1 (as := [_, _]) (st := [_, _]) dX2_considerMisses_55 okX9_pace lX2_96 ⟨rfl, rfl⟩ ⟨Nat.le_of_ble_eq_true rfl, Nat.le_of_ble_eq_true rfl⟩ rfl rfl (Nat.le_of_ble_eq_true rfl) (Nat.le_of_ble_eq_true rfl) (t_X9_pace hn hF  hr7) ?_
      refine q_isub dX2_considerMisses_58 ?_
      refine q_imul dX2_considerMisses_59 ?_
      refine q_istore (ls' := [(0, _), (1, _), (2, _), (3, _), (4, _), (5, _), (6, _), (7, _)]) [0, 1, 2, 3, 4, 5, 6, 7] dX2_considerMisses_60 (Nat.le_of_ble_eq_true rfl) rfl ?_
      refine q_aload_n dX2_considerMisses_62 rfl ?_
      refine u_getr dX2_considerMisses_63 fX2_28 rfl rfl (Nat.lt_of_lt_of_le (Nat.le_of_ble_eq_true rfl) hn) (hF 38 4 42 rfl) ?_
      refine u_geti dX2_considerMisses_66 fX2_93 rfl rfl (Nat.lt_of_lt_of_le (Nat.le_of_ble_eq_true rfl) hn) ?_
      refine q_iload dX2_considerMisses_69 rfl ?_
      refine q_iconst (v := 1) dX2_considerMisses_71 (by decide) ?_
      obtain ⟨r8, hr9, h⟩ := q_bd h
      refine c_SN1 (as := [_, _]) (st := [_]) dX2_considerMisses_72 okX9_pace lX2_96 ⟨rfl, rfl⟩ ⟨Nat.le_of_ble_eq_true rfl, Nat.le_of_ble_eq_true rfl⟩ rfl rfl (Nat.le_of_ble_eq_true rfl) (Nat.le_of_ble_eq_true rfl) (t_X9_pace hn hF  hr9) ?_
      refine q_aload_n dX2_considerMisses_75 rfl ?_
      refine u_getr dX2_considerMisses_76 fX2_100 rfl (q_plan_0 hb1) (q_lt0 (q_plan_n hb1 hn)) (q_plan_F2 hF hb1) ?_
      refine q_iload dX2_considerMisses_79 rfl ?_
      obtain ⟨hi10, h⟩ := q_is h
      refine u_iald dX2_considerMisses_81 (q_plan_2 hb1) (q_lt2 (q_plan_n hb1 hn)) (q_in_vp hi10) ?_
      refine q_iconst (v := 1) dX2_considerMisses_82 (by decide) ?_
      obtain ⟨r11, hr12, h⟩ := q_bd h
      refine c_SN1 (as := [_, _]) (st := [_, _]) dX2_considerMisses_83 okX9_pace lX2_96 ⟨rfl, rfl⟩ ⟨Nat.le_of_ble_eq_true rfl, Nat.le_of_ble_eq_true rfl⟩ rfl rfl (Nat.le_of_ble_eq_true rfl) (Nat.le_of_ble_eq_true rfl) (t_X9_pace hn hF  hr12) ?_
      refine q_isub dX2_considerMisses_86 ?_
      refine q_imul dX2_considerMisses_87 ?_
      refine q_istore (ls' := [(0, _), (1, _), (2, _), (3, _), (4, _), (5, _), (7, _), (8, _)]) [0, 1, 2, 3, 4, 5, 7, 8] dX2_considerMisses_88 (Nat.le_of_ble_eq_true rfl) rfl ?_
      refine q_iconst (v := 0) dX2_considerMisses_90 (by decide) ?_
      refine q_iload dX2_considerMisses_91 rfl ?_
      refine q_aload_n dX2_considerMisses_93 rfl ?_
      refine u_getr dX2_considerMisses_94 fX2_103 rfl (q_plan_0 hb1) (q_lt0 (q_plan_n hb1 hn)) (q_plan_F1 hF hb1) ?_
      refine q_iload dX2_considerMisses_97 rfl ?_
      obtain ⟨hi13, h⟩ := q_is h
      refine u_iald dX2_considerMisses_99 (q_plan_1 hb1) (q_lt1 (q_plan_n hb1 hn)) (q_in_vp hi13) ?_
      refine q_iadd dX2_considerMisses_100 ?_
      refine q_mmax dX2_considerMisses_101 lX2_104 (Nat.le_of_ble_eq_true rfl) (Nat.le_of_ble_eq_true rfl) ?_
      refine q_istore (ls' := [(0, _), (1, _), (2, _), (3, _), (4, _), (5, _), (7, _), (8, _), (9, _)]) [0, 1, 2, 3, 4, 5, 7, 8, 9] dX2_considerMisses_104 (Nat.le_of_ble_eq_true rfl) rfl ?_
      refine q_aload_n dX2_considerMisses_106 rfl ?_
      refine q_aload_n dX2_considerMisses_107 rfl ?_
      refine q_aload_n dX2_considerMisses_108 rfl ?_
      refine q_iload dX2_considerMisses_109 rfl ?_
      refine q_iload dX2_considerMisses_111 rfl ?_
      refine q_aload_n dX2_considerMisses_113 rfl ?_
      refine q_iload dX2_considerMisses_114 rfl ?_
      obtain ⟨r14, hr15, h⟩ := q_bd h
      refine c_V1 (as := [_]) (st := [_, _, _, _, _]) (ci := 5) dX2_considerMisses_116 okX5_legEnd lX2_109 ⟨rfl, rfl⟩ ⟨Nat.le_of_ble_eq_true rfl, Nat.le_of_ble_eq_true rfl⟩ (by decide) rfl (q_plan_0 hb1) (q_lt0 (q_plan_n hb1 hn)) rfl rfl (Nat.le_of_ble_eq_true rfl) (Nat.le_of_ble_eq_true rfl) (t_X5_legEnd hn hF hb1 hr15) ?_
      refine q_iadd dX2_considerMisses_119 ?_
      refine q_iload dX2_considerMisses_120 rfl ?_
      refine q_iload dX2_considerMisses_122 rfl ?_
      obtain ⟨r16, hr17, h⟩ := q_bd h
      refine c_V1 (as := [_, _, _, _, _]) (st := [_]) (ci := 2) dX2_considerMisses_124 okX2_misfitLess lX2_62 ⟨rfl, rfl⟩ ⟨Nat.le_of_ble_eq_true rfl, Nat.le_of_ble_eq_true rfl⟩ (by decide) rfl rfl (Nat.lt_of_lt_of_le (Nat.le_of_ble_eq_true rfl) hn) rfl rfl (Nat.le_of_ble_eq_true rfl) (Nat.le_of_ble_eq_true rfl) (t_X2_misfitLess hn hF  hr17) ?_
      refine q_iload_n dX2_considerMisses_127 rfl ?_
      refine q_iload dX2_considerMisses_128 rfl ?_
      refine c_V0 (as := [_, _, _]) (st := []) (ci := 2) dX2_considerMisses_130 okX2_consider lX2_66 ⟨rfl, rfl⟩ ⟨Nat.le_of_ble_eq_true rfl, Nat.le_of_ble_eq_true rfl⟩ (by decide) rfl rfl (Nat.lt_of_lt_of_le (Nat.le_of_ble_eq_true rfl) hn) rfl rfl (Nat.le_of_ble_eq_true rfl) (Nat.le_of_ble_eq_true rfl) (t_X2_consider hn hF  rfl) ?_
      refine q_iinc1 (w := 1) (ls' := [(0, _), (1, _), (2, _), (3, _), (4, _), (5, _)]) [0, 1, 2, 3, 4, 5] dX2_considerMisses_133 rfl (by decide) (Nat.le_of_ble_eq_true rfl) rfl ?_
      refine q_goto 17 dX2_considerMisses_136 (by decide) ?_
      exact ih _ _ _ _ h hx0
def f_X2_considerMisses (a1 : Nat) (x3 : Int32) (m : q_Mm) : Option (q_Mm) :=
  (l_X2_considerMisses_17 7000 a1 x3 ((60 * x3) - (m.1 42 3)) 0 m).bind fun r18 =>
  some (r18)
set_option maxRecDepth 100000 in
set_option maxHeartbeats 4000000 in
theorem t_X2_considerMisses {g : q_G} {n : Nat} {F : Nat → Nat → Option Nat} (hn : 89 ≤ n) (hF : q_FF F) {a1 : Nat} (ha1 : q_isPlan a1) {x3 : Int32} {m : q_Mm} {r : q_Mm} (h : f_X2_considerMisses a1 x3 m = some r) : q_Cn g mX2_considerMisses [q_r g 38, q_r g a1, q_r g 2, .int x3] (q_mk n F m) (q_Q none (q_mk n F r)) := by
  unfold f_X2_considerMisses at h
  show q_V g mX2_considerMisses q_T _ _ _ 0 [(0, q_r g 38), (1, q_r g a1), (2, q_r g 2), (3, .int x3)] [] (q_mk n F m)
  refine q_bipush (v := 60) dX2_considerMisses_0 (by decide) ?_
  refine q_iload_n dX2_considerMisses_2 rfl ?_
  refine q_imul dX2_considerMisses_3 ?_
  refine q_aload_n dX2_considerMisses_4 rfl ?_
  refine u_getr dX2_considerMisses_5 fX2_28 rfl rfl (Nat.lt_of_lt_of_le (Nat.le_of_ble_eq_true rfl) hn) (hF 38 4 42 rfl) ?_
  refine u_geti dX2_considerMisses_8 fX2_57 rfl rfl (Nat.lt_of_lt_of_le (Nat.le_of_ble_eq_true rfl) hn) ?_
  refine q_isub dX2_considerMisses_11 ?_
  refine q_istore (ls' := [(0, _), (1, _), (2, _), (3, _), (4, _)]) [0, 1, 2, 3, 4] dX2_considerMisses_12 (Nat.le_of_ble_eq_true rfl) rfl ?_
  refine q_iconst (v := 0) dX2_considerMisses_14 (by decide) ?_
  refine q_istore (ls' := [(0, _), (1, _), (2, _), (3, _), (4, _), (5, _)]) [0, 1, 2, 3, 4, 5] dX2_considerMisses_15 (Nat.le_of_ble_eq_true rfl) rfl ?_
  obtain ⟨r18, hr19, h⟩ := q_bd h
  refine t_l_X2_considerMisses_17 hn hF ha1 7000 _ _ _ _ hr19 ?_
  cases h
  exact q_vret dX2_considerMisses_139 rfl ⟨rfl, rfl⟩
def l_X2_goTheWay_9 : Nat → Nat → Int32 → q_Mm → Option (q_Mm)
  | 0, _, _, _ => none
  | k + 1, b1, y3, m =>
    if 600 < y3 then
      some (m)
    else
      if q_in y3 601 = true then
      if q_in y3 601 = true then
      (f_X7_move 42 b1 y3 (q_wl (q_wl m 44 y3.toNatClampNeg (m.2 42 5)) 45 y3.toNatClampNeg ((q_wl m 44 y3.toNatClampNeg (m.2 42 5)).2 42 6))).bind fun r3 =>
      l_X2_goTheWay_9 k b1 (y3 + 1) r3
      else none
      else none
set_option maxRecDepth 100000 in
set_option maxHeartbeats 4000000 in
theorem t_l_X2_goTheWay_9 {g : q_G} {n : Nat} {F : Nat → Nat → Option Nat} {Z : List Frame → Array Value → State → State → Prop} {kc ks : Nat} (hn : 89 ≤ n) (hF : q_FF F) {b1 : Nat} (hb1 : q_isPlan b1) : ∀ (k : Nat) (y3 : Int32) (m : q_Mm) {r : q_Mm}, l_X2_goTheWay_9 k b1 y3 m = some r → (q_V g mX2_goTheWay q_T Z kc ks 58 [] [] (q_mk n F r)) → q_V g mX2_goTheWay q_T Z kc ks 9 [(0, q_r g 38), (1, q_r g b1), (2, q_r g 2), (3, .int y3)] [] (q_mk n F m) := by
  intro k
  induction k with
  | zero => intro y3 m r h; cases h
  | succ k ih =>
    intro y3 m r h hx0
    unfold l_X2_goTheWay_9 at h
    refine q_iload_n dX2_goTheWay_9 rfl ?_
    refine q_sipush (v := 600) dX2_goTheWay_10 (by decide) ?_
    refine q_icmp_gt 58 dX2_goTheWay_13 (by decide) (fun hc => ?_) (fun hc => ?_)
    · have h := q_it hc h
      refine q_drop [] (ls' := []) rfl ?_
      cases h
      exact hx0
    · have h := q_if hc h
      refine q_aload_n dX2_goTheWay_16 rfl ?_
      refine u_getr dX2_goTheWay_17 fX2_32 rfl rfl (Nat.lt_of_lt_of_le (Nat.le_of_ble_eq_true rfl) hn) (hF 38 5 44 rfl) ?_
      refine q_iload_n dX2_goTheWay_20 rfl ?_
      refine q_aload_n dX2_goTheWay_21 rfl ?_
      refine u_getr dX2_goTheWay_22 fX2_28 rfl rfl (Nat.lt_of_lt_of_le (Nat.le_of_ble_eq_true rfl) hn) (hF 38 4 42 rfl) ?_
      refine u_getl dX2_goTheWay_25 fX2_77 rfl rfl (Nat.lt_of_lt_of_le (Nat.le_of_ble_eq_true rfl) hn) ?_
      obtain ⟨hi1, h⟩ := q_is h
      refine u_last dX2_goTheWay_28 rfl (Nat.lt_of_lt_of_le (Nat.le_of_ble_eq_true rfl) hn) (q_in_vp hi1) ?_
      refine q_aload_n dX2_goTheWay_29 rfl ?_
      refine u_getr dX2_goTheWay_30 fX2_36 rfl rfl (Nat.lt_of_lt_of_le (Nat.le_of_ble_eq_true rfl) hn) (hF 38 6 45 rfl) ?_
      refine q_iload_n dX2_goTheWay_33 rfl ?_
      refine q_aload_n dX2_goTheWay_34 rfl ?_
      refine u_getr dX2_goTheWay_35 fX2_28 rfl rfl (Nat.lt_of_lt_of_le (Nat.le_of_ble_eq_true rfl) hn) (hF 38 4 42 rfl) ?_
      refine u_getl dX2_goTheWay_38 fX2_80 rfl rfl (Nat.lt_of_lt_of_le (Nat.le_of_ble_eq_true rfl) hn) ?_
      obtain ⟨hi2, h⟩ := q_is h
      refine u_last dX2_goTheWay_41 rfl (Nat.lt_of_lt_of_le (Nat.le_of_ble_eq_true rfl) hn) (q_in_vp hi2) ?_
      refine q_aload_n dX2_goTheWay_42 rfl ?_
      refine u_getr dX2_goTheWay_43 fX2_28 rfl rfl (Nat.lt_of_lt_of_le (Nat.le_of_ble_eq_true rfl) hn) (hF 38 4 42 rfl) ?_
      refine q_aload_n dX2_goTheWay_46 rfl ?_
      refine q_aload_n dX2_goTheWay_47 rfl ?_
      refine q_iload_n dX2_goTheWay_48 rfl ?_
      obtain ⟨r3, hr4, h⟩ := q_bd h
      refine c_V0 (as := [_, _, _]) (st := []) (ci := 7) dX2_goTheWay_49 okX7_move lX2_83 ⟨rfl, rfl⟩ ⟨Nat.le_of_ble_eq_true rfl, Nat.le_of_ble_eq_true rfl⟩ (by decide) rfl rfl (Nat.lt_of_lt_of_le (Nat.le_of_ble_eq_true rfl) hn) rfl rfl (Nat.le_of_ble_eq_true rfl) (Nat.le_of_ble_eq_true rfl) (t_X7_move hn hF q_is42 hb1 hr4) ?_
      refine q_iinc1 (w := 1) (ls' := [(0, _), (1, _), (2, _), (3, _)]) [0, 1, 2, 3] dX2_goTheWay_52 rfl (by decide) (Nat.le_of_ble_eq_true rfl) rfl ?_
      refine q_goto 9 dX2_goTheWay_55 (by decide) ?_
      exact ih _ _ h hx0
def f_X2_goTheWay (a1 : Nat) (m : q_Mm) : Option (q_Mm) :=
  (l_X2_goTheWay_9 7000 a1 0 (f_X7_begin 42 m)).bind fun r5 =>
  some (r5)
set_option maxRecDepth 100000 in
set_option maxHeartbeats 4000000 in
theorem t_X2_goTheWay {g : q_G} {n : Nat} {F : Nat → Nat → Option Nat} (hn : 89 ≤ n) (hF : q_FF F) {a1 : Nat} (ha1 : q_isPlan a1)  {m : q_Mm} {r : q_Mm} (h : f_X2_goTheWay a1 m = some r) : q_Cn g mX2_goTheWay [q_r g 38, q_r g a1, q_r g 2] (q_mk n F m) (q_Q none (q_mk n F r)) := by
  unfold f_X2_goTheWay at h
  show q_V g mX2_goTheWay q_T _ _ _ 0 [(0, q_r g 38), (1, q_r g a1), (2, q_r g 2)] [] (q_mk n F m)
  refine q_aload_n dX2_goTheWay_0 rfl ?_
  refine u_getr dX2_goTheWay_1 fX2_28 rfl rfl (Nat.lt_of_lt_of_le (Nat.le_of_ble_eq_true rfl) hn) (hF 38 4 42 rfl) ?_
  refine c_V0 (as := []) (st := []) (ci := 7) dX2_goTheWay_4 okX7_begin lX2_74 ⟨rfl, rfl⟩ ⟨Nat.le_of_ble_eq_true rfl, Nat.le_of_ble_eq_true rfl⟩ (by decide) rfl rfl (Nat.lt_of_lt_of_le (Nat.le_of_ble_eq_true rfl) hn) rfl rfl (Nat.le_of_ble_eq_true rfl) (Nat.le_of_ble_eq_true rfl) (t_X7_begin hn hF q_is42 rfl) ?_
  refine q_iconst (v := 0) dX2_goTheWay_7 (by decide) ?_
  refine q_istore_n (ls' := [(0, _), (1, _), (2, _), (3, _)]) [0, 1, 2, 3] dX2_goTheWay_8 (Nat.le_of_ble_eq_true rfl) rfl ?_
  obtain ⟨r5, hr6, h⟩ := q_bd h
  refine t_l_X2_goTheWay_9 hn hF ha1 7000 _ _ hr6 ?_
  cases h
  exact q_vret dX2_goTheWay_58 rfl ⟨rfl, rfl⟩
def l_X2_explain_55 : Nat → Nat → Int32 → Int32 → q_Mm → Option (q_Mm)
  | 0, _, _, _, _ => none
  | k + 1, b1, y3, y4, m =>
    if 10 ≤ y4 then
      some (m)
    else
      (f_X2_considerMisses b1 y4 m).bind fun r6 =>
      l_X2_explain_55 k b1 y3 (y4 + 1) r6
set_option maxRecDepth 100000 in
set_option maxHeartbeats 4000000 in
theorem t_l_X2_explain_55 {g : q_G} {n : Nat} {F : Nat → Nat → Option Nat} {Z : List Frame → Array Value → State → State → Prop} {kc ks : Nat} (hn : 89 ≤ n) (hF : q_FF F) {b1 : Nat} (hb1 : q_isPlan b1) : ∀ (k : Nat) (y3 : Int32) (y4 : Int32) (m : q_Mm) {r : q_Mm}, l_X2_explain_55 k b1 y3 y4 m = some r → (q_V g mX2_explain q_T Z kc ks 76 [(0, q_r g 38), (1, q_r g b1), (2, q_r g 2), (3, .int y3)] [] (q_mk n F r)) → q_V g mX2_explain q_T Z kc ks 55 [(0, q_r g 38), (1, q_r g b1), (2, q_r g 2), (3, .int y3), (4, .int y4)] [] (q_mk n F m) := by
  intro k
  induction k with
  | zero => intro y3 y4 m r h; cases h
  | succ k ih =>
    intro y3 y4 m r h hx0
    unfold l_X2_explain_55 at h
    refine q_iload dX2_explain_55 rfl ?_
    refine q_bipush (v := 10) dX2_explain_57 (by decide) ?_
    refine q_icmp_ge 76 dX2_explain_59 (by decide) (fun hc => ?_) (fun hc => ?_)
    · have h := q_it hc h
      refine q_drop [0, 1, 2, 3] (ls' := [(0, _), (1, _), (2, _), (3, _)]) rfl ?_
      cases h
      exact hx0
    · have h := q_if hc h
      refine q_aload_n dX2_explain_62 rfl ?_
      refine q_aload_n dX2_explain_63 rfl ?_
      refine q_aload_n dX2_explain_64 rfl ?_
      refine q_iload dX2_explain_65 rfl ?_
      obtain ⟨r6, hr7, h⟩ := q_bd h
      refine c_V0 (as := [_, _, _]) (st := []) (ci := 2) dX2_explain_67 okX2_considerMisses lX2_70 ⟨rfl, rfl⟩ ⟨Nat.le_of_ble_eq_true rfl, Nat.le_of_ble_eq_true rfl⟩ (by decide) rfl rfl (Nat.lt_of_lt_of_le (Nat.le_of_ble_eq_true rfl) hn) rfl rfl (Nat.le_of_ble_eq_true rfl) (Nat.le_of_ble_eq_true rfl) (t_X2_considerMisses hn hF hb1 hr7) ?_
      refine q_iinc1 (w := 1) (ls' := [(0, _), (1, _), (2, _), (3, _), (4, _)]) [0, 1, 2, 3, 4] dX2_explain_70 rfl (by decide) (Nat.le_of_ble_eq_true rfl) rfl ?_
      refine q_goto 55 dX2_explain_73 (by decide) ?_
      exact ih _ _ _ h hx0
def l_X2_explain_9 : Nat → Nat → Int32 → q_Mm → Option (q_Mm)
  | 0, _, _, _ => none
  | k + 1, b1, y3, m =>
    if 11 ≤ y3 then
      some (m)
    else
      if q_in y3 11 = true then
      (f_X2_goTheWay b1 (q_wi m 42 3 (q_sv 4 y3.toNatClampNeg))).bind fun r2 =>
      (f_X2_misfitLess 0 0 0 0 r2).bind fun r4 =>
      (l_X2_explain_55 7000 b1 y3 0 (f_X2_consider r4 (-6) (-6) r2)).bind fun r8 =>
      l_X2_explain_9 k b1 (y3 + 1) r8
      else none
set_option maxRecDepth 100000 in
set_option maxHeartbeats 4000000 in
theorem t_l_X2_explain_9 {g : q_G} {n : Nat} {F : Nat → Nat → Option Nat} {Z : List Frame → Array Value → State → State → Prop} {kc ks : Nat} (hn : 89 ≤ n) (hF : q_FF F) {b1 : Nat} (hb1 : q_isPlan b1) : ∀ (k : Nat) (y3 : Int32) (m : q_Mm) {r : q_Mm}, l_X2_explain_9 k b1 y3 m = some r → (q_V g mX2_explain q_T Z kc ks 82 [] [] (q_mk n F r)) → q_V g mX2_explain q_T Z kc ks 9 [(0, q_r g 38), (1, q_r g b1), (2, q_r g 2), (3, .int y3)] [] (q_mk n F m) := by
  intro k
  induction k with
  | zero => intro y3 m r h; cases h
  | succ k ih =>
    intro y3 m r h hx0
    unfold l_X2_explain_9 at h
    refine q_iload_n dX2_explain_9 rfl ?_
    refine q_gets (i := 4) dX2_explain_10 (by decide) fX2_54 ?_
    refine q_slen (i := 4) (v := 11) dX2_explain_13 (by decide) (by decide) ?_
    refine q_icmp_ge 82 dX2_explain_14 (by decide) (fun hc => ?_) (fun hc => ?_)
    · have h := q_it hc h
      refine q_drop [] (ls' := []) rfl ?_
      cases h
      exact hx0
    · have h := q_if hc h
      refine q_aload_n dX2_explain_17 rfl ?_
      refine u_getr dX2_explain_18 fX2_28 rfl rfl (Nat.lt_of_lt_of_le (Nat.le_of_ble_eq_true rfl) hn) (hF 38 4 42 rfl) ?_
      refine q_gets (i := 4) dX2_explain_21 (by decide) fX2_54 ?_
      refine q_iload_n dX2_explain_24 rfl ?_
      obtain ⟨hi1, h⟩ := q_is h
      refine q_sald (i := 4) dX2_explain_25 (by decide) (q_in_vp hi1) ?_
      refine u_puti dX2_explain_26 fX2_57 rfl rfl (Nat.lt_of_lt_of_le (Nat.le_of_ble_eq_true rfl) hn) rfl rfl rfl ?_
      refine q_aload_n dX2_explain_29 rfl ?_
      refine q_aload_n dX2_explain_30 rfl ?_
      refine q_aload_n dX2_explain_31 rfl ?_
      obtain ⟨r2, hr3, h⟩ := q_bd h
      refine c_V0 (as := [_, _]) (st := []) (ci := 2) dX2_explain_32 okX2_goTheWay lX2_58 ⟨rfl, rfl⟩ ⟨Nat.le_of_ble_eq_true rfl, Nat.le_of_ble_eq_true rfl⟩ (by decide) rfl rfl (Nat.lt_of_lt_of_le (Nat.le_of_ble_eq_true rfl) hn) rfl rfl (Nat.le_of_ble_eq_true rfl) (Nat.le_of_ble_eq_true rfl) (t_X2_goTheWay hn hF hb1 hr3) ?_
      refine q_aload_n dX2_explain_35 rfl ?_
      refine q_aload_n dX2_explain_36 rfl ?_
      refine q_aload_n dX2_explain_37 rfl ?_
      refine q_iconst (v := 0) dX2_explain_38 (by decide) ?_
      refine q_iconst (v := 0) dX2_explain_39 (by decide) ?_
      refine q_iconst (v := 0) dX2_explain_40 (by decide) ?_
      refine q_iconst (v := 0) dX2_explain_41 (by decide) ?_
      obtain ⟨r4, hr5, h⟩ := q_bd h
      refine c_V1 (as := [_, _, _, _, _]) (st := [_]) (ci := 2) dX2_explain_42 okX2_misfitLess lX2_62 ⟨rfl, rfl⟩ ⟨Nat.le_of_ble_eq_true rfl, Nat.le_of_ble_eq_true rfl⟩ (by decide) rfl rfl (Nat.lt_of_lt_of_le (Nat.le_of_ble_eq_true rfl) hn) rfl rfl (Nat.le_of_ble_eq_true rfl) (Nat.le_of_ble_eq_true rfl) (t_X2_misfitLess hn hF  hr5) ?_
      refine q_bipush (v := (-6)) dX2_explain_45 (by decide) ?_
      refine q_bipush (v := (-6)) dX2_explain_47 (by decide) ?_
      refine c_V0 (as := [_, _, _]) (st := []) (ci := 2) dX2_explain_49 okX2_consider lX2_66 ⟨rfl, rfl⟩ ⟨Nat.le_of_ble_eq_true rfl, Nat.le_of_ble_eq_true rfl⟩ (by decide) rfl rfl (Nat.lt_of_lt_of_le (Nat.le_of_ble_eq_true rfl) hn) rfl rfl (Nat.le_of_ble_eq_true rfl) (Nat.le_of_ble_eq_true rfl) (t_X2_consider hn hF  rfl) ?_
      refine q_iconst (v := 0) dX2_explain_52 (by decide) ?_
      refine q_istore (ls' := [(0, _), (1, _), (2, _), (3, _), (4, _)]) [0, 1, 2, 3, 4] dX2_explain_53 (Nat.le_of_ble_eq_true rfl) rfl ?_
      obtain ⟨r8, hr9, h⟩ := q_bd h
      refine t_l_X2_explain_55 hn hF hb1 7000 _ _ _ hr9 ?_
      refine q_iinc1 (w := 1) (ls' := [(0, _), (1, _), (2, _), (3, _)]) [0, 1, 2, 3] dX2_explain_76 rfl (by decide) (Nat.le_of_ble_eq_true rfl) rfl ?_
      refine q_goto 9 dX2_explain_79 (by decide) ?_
      exact ih _ _ h hx0
def f_X2_explain (a1 : Nat) (m : q_Mm) : Option (q_Mm) :=
  (l_X2_explain_9 7000 a1 0 (q_wl m 38 7 4611686018427387904)).bind fun r10 =>
  some (r10)
set_option maxRecDepth 100000 in
set_option maxHeartbeats 4000000 in
theorem t_X2_explain {g : q_G} {n : Nat} {F : Nat → Nat → Option Nat} (hn : 89 ≤ n) (hF : q_FF F) {a1 : Nat} (ha1 : q_isPlan a1)  {m : q_Mm} {r : q_Mm} (h : f_X2_explain a1 m = some r) : q_Cn g mX2_explain [q_r g 38, q_r g a1, q_r g 2] (q_mk n F m) (q_Q none (q_mk n F r)) := by
  unfold f_X2_explain at h
  show q_V g mX2_explain q_T _ _ _ 0 [(0, q_r g 38), (1, q_r g a1), (2, q_r g 2)] [] (q_mk n F m)
  refine q_aload_n dX2_explain_0 rfl ?_
  refine q_ldc2 dX2_explain_1 kX2_52 ?_
  refine u_putl dX2_explain_4 fX2_39 rfl rfl (Nat.lt_of_lt_of_le (Nat.le_of_ble_eq_true rfl) hn) rfl rfl rfl ?_
  refine q_iconst (v := 0) dX2_explain_7 (by decide) ?_
  refine q_istore_n (ls' := [(0, _), (1, _), (2, _), (3, _)]) [0, 1, 2, 3] dX2_explain_8 (Nat.le_of_ble_eq_true rfl) rfl ?_
  obtain ⟨r10, hr11, h⟩ := q_bd h
  refine t_l_X2_explain_9 hn hF ha1 7000 _ _ hr11 ?_
  cases h
  exact q_vret dX2_explain_82 rfl ⟨rfl, rfl⟩
def f_X3_canBeWithin (x1 : Int64) (x3 : Int64) (x5 : Int32) (x6 : Int32) (m : q_Mm) : (Int32) :=
  if ((((1000 * ((m.1 23 2).toInt64)) * x5.toInt64) + x6.toInt64) * (((1000 * ((m.1 23 2).toInt64)) * x5.toInt64) + x6.toInt64)) < (f_X9_squareOf (x1 - ((m.1 23 0).toInt64)) (x3 - ((m.1 23 1).toInt64)) m) then
    0
  else
    1
set_option maxRecDepth 100000 in
set_option maxHeartbeats 4000000 in
theorem t_X3_canBeWithin {g : q_G} {n : Nat} {F : Nat → Nat → Option Nat} (hn : 89 ≤ n) (hF : q_FF F)  {x1 : Int64} {x3 : Int64} {x5 : Int32} {x6 : Int32} {m : q_Mm} {r : Int32} (h : f_X3_canBeWithin x1 x3 x5 x6 m = r) : q_Cn g mX3_canBeWithin [q_r g 23, .long x1, .long x3, .int x5, .int x6] (q_mk n F m) (q_Q (some (.int r)) (q_mk n F m)) := by
  unfold f_X3_canBeWithin at h
  show q_V g mX3_canBeWithin q_T _ _ _ 0 [(0, q_r g 23), (1, .long x1), (3, .long x3), (5, .int x5), (6, .int x6)] [] (q_mk n F m)
  refine q_ldc2 dX3_canBeWithin_0 kX3_48 ?_
  refine q_aload_n dX3_canBeWithin_3 rfl ?_
  refine u_geti dX3_canBeWithin_4 fX3_19 rfl rfl (Nat.lt_of_lt_of_le (Nat.le_of_ble_eq_true rfl) hn) ?_
  refine q_i2l dX3_canBeWithin_7 ?_
  refine q_lmul dX3_canBeWithin_8 ?_
  refine q_iload dX3_canBeWithin_9 rfl ?_
  refine q_i2l dX3_canBeWithin_11 ?_
  refine q_lmul dX3_canBeWithin_12 ?_
  refine q_iload dX3_canBeWithin_13 rfl ?_
  refine q_i2l dX3_canBeWithin_15 ?_
  refine q_ladd dX3_canBeWithin_16 ?_
  refine q_lstore (ls' := [(0, _), (1, _), (3, _), (7, _)]) [0, 1, 3, 7] dX3_canBeWithin_17 (Nat.le_of_ble_eq_true rfl) rfl ?_
  refine q_lload_n dX3_canBeWithin_19 rfl ?_
  refine q_aload_n dX3_canBeWithin_20 rfl ?_
  refine u_geti dX3_canBeWithin_21 fX3_10 rfl rfl (Nat.lt_of_lt_of_le (Nat.le_of_ble_eq_true rfl) hn) ?_
  refine q_i2l dX3_canBeWithin_24 ?_
  refine q_lsub dX3_canBeWithin_25 ?_
  refine q_lload_n dX3_canBeWithin_26 rfl ?_
  refine q_aload_n dX3_canBeWithin_27 rfl ?_
  refine u_geti dX3_canBeWithin_28 fX3_16 rfl rfl (Nat.lt_of_lt_of_le (Nat.le_of_ble_eq_true rfl) hn) ?_
  refine q_i2l dX3_canBeWithin_31 ?_
  refine q_lsub dX3_canBeWithin_32 ?_
  refine c_SN1 (as := [_, _]) (st := []) dX3_canBeWithin_33 okX9_squareOf lX3_50 ⟨rfl, rfl⟩ ⟨Nat.le_of_ble_eq_true rfl, Nat.le_of_ble_eq_true rfl⟩ rfl rfl (Nat.le_of_ble_eq_true rfl) (Nat.le_of_ble_eq_true rfl) (t_X9_squareOf hn hF  rfl) ?_
  refine q_lload dX3_canBeWithin_36 rfl ?_
  refine q_lload dX3_canBeWithin_38 rfl ?_
  refine q_lmul dX3_canBeWithin_40 ?_
  refine q_lcmp_gt 49 dX3_canBeWithin_41 dX3_canBeWithin_42 (by decide) (fun hc => ?_) (fun hc => ?_)
  · have h := q_it hc h
    refine q_iconst (v := 0) dX3_canBeWithin_49 (by decide) ?_
    subst h
    exact q_zret dX3_canBeWithin_50 rfl rfl ⟨rfl, rfl⟩
  · have h := q_if hc h
    refine q_iconst (v := 1) dX3_canBeWithin_45 (by decide) ?_
    refine q_goto 50 dX3_canBeWithin_46 (by decide) ?_
    subst h
    exact q_zret dX3_canBeWithin_50 rfl rfl ⟨rfl, rfl⟩
theorem b_X3_canBeWithin {x1 : Int64} {x3 : Int64} {x5 : Int32} {x6 : Int32} {m : q_Mm} : q_bo (f_X3_canBeWithin x1 x3 x5 x6 m) := by
  unfold f_X3_canBeWithin
  repeat' split
  all_goals first | exact Or.inl rfl | exact Or.inr rfl
def l_X3_plansInReach_18 : Nat → Int32 → Int64 → Int32 → Int32 → q_Mm → Option (Int32)
  | 0, _, _, _, _, _ => none
  | k + 1, y1, y2, y4, y5, m =>
    if 4 ≤ y5 then
      some (y4)
    else
      if q_in y5 4 = true then
      if q_in y1 4 = true then
      if q_in y5 4 = true then
      if q_in y1 4 = true then
      if y2 < (f_X9_squareOf ((m.2 24 y5.toNatClampNeg) - (m.2 24 y1.toNatClampNeg)) ((m.2 25 y5.toNatClampNeg) - (m.2 25 y1.toNatClampNeg)) m) then
        l_X3_plansInReach_18 k  y1 y2 y4 (y5 + 1) m
      else
        l_X3_plansInReach_18 k  y1 y2 (y4 ||| ((1 : Int32) <<< (y5 &&& 31))) (y5 + 1) m
      else none
      else none
      else none
      else none
set_option maxRecDepth 100000 in
set_option maxHeartbeats 4000000 in
theorem t_l_X3_plansInReach_18 {g : q_G} {n : Nat} {F : Nat → Nat → Option Nat} {Z : List Frame → Array Value → State → State → Prop} {kc ks : Nat} (hn : 89 ≤ n) (hF : q_FF F)  : ∀ (k : Nat) (y1 : Int32) (y2 : Int64) (y4 : Int32) (y5 : Int32) (m : q_Mm) {r : Int32}, l_X3_plansInReach_18 k y1 y2 y4 y5 m = some r → (q_V g mX3_plansInReach q_T Z kc ks 75 [(4, .int r)] [] (q_mk n F m)) → q_V g mX3_plansInReach q_T Z kc ks 18 [(0, q_r g 23), (1, .int y1), (2, .long y2), (4, .int y4), (5, .int y5)] [] (q_mk n F m) := by
  intro k
  induction k with
  | zero => intro y1 y2 y4 y5 m r h; cases h
  | succ k ih =>
    intro y1 y2 y4 y5 m r h hx0
    unfold l_X3_plansInReach_18 at h
    refine q_iload dX3_plansInReach_18 rfl ?_
    refine q_iconst (v := 4) dX3_plansInReach_20 (by decide) ?_
    refine q_icmp_ge 75 dX3_plansInReach_21 (by decide) (fun hc => ?_) (fun hc => ?_)
    · have h := q_it hc h
      refine q_drop [4] (ls' := [(4, _)]) rfl ?_
      cases h
      exact hx0
    · have h := q_if hc h
      refine q_aload_n dX3_plansInReach_24 rfl ?_
      refine u_getr dX3_plansInReach_25 fX3_25 rfl rfl (Nat.lt_of_lt_of_le (Nat.le_of_ble_eq_true rfl) hn) (hF 23 4 24 rfl) ?_
      refine q_iload dX3_plansInReach_28 rfl ?_
      obtain ⟨hi1, h⟩ := q_is h
      refine u_lald dX3_plansInReach_30 rfl (Nat.lt_of_lt_of_le (Nat.le_of_ble_eq_true rfl) hn) (q_in_vp hi1) ?_
      refine q_aload_n dX3_plansInReach_31 rfl ?_
      refine u_getr dX3_plansInReach_32 fX3_25 rfl rfl (Nat.lt_of_lt_of_le (Nat.le_of_ble_eq_true rfl) hn) (hF 23 4 24 rfl) ?_
      refine q_iload_n dX3_plansInReach_35 rfl ?_
      obtain ⟨hi2, h⟩ := q_is h
      refine u_lald dX3_plansInReach_36 rfl (Nat.lt_of_lt_of_le (Nat.le_of_ble_eq_true rfl) hn) (q_in_vp hi2) ?_
      refine q_lsub dX3_plansInReach_37 ?_
      refine q_aload_n dX3_plansInReach_38 rfl ?_
      refine u_getr dX3_plansInReach_39 fX3_29 rfl rfl (Nat.lt_of_lt_of_le (Nat.le_of_ble_eq_true rfl) hn) (hF 23 5 25 rfl) ?_
      refine q_iload dX3_plansInReach_42 rfl ?_
      obtain ⟨hi3, h⟩ := q_is h
      refine u_lald dX3_plansInReach_44 rfl (Nat.lt_of_lt_of_le (Nat.le_of_ble_eq_true rfl) hn) (q_in_vp hi3) ?_
      refine q_aload_n dX3_plansInReach_45 rfl ?_
      refine u_getr dX3_plansInReach_46 fX3_29 rfl rfl (Nat.lt_of_lt_of_le (Nat.le_of_ble_eq_true rfl) hn) (hF 23 5 25 rfl) ?_
      refine q_iload_n dX3_plansInReach_49 rfl ?_
      obtain ⟨hi4, h⟩ := q_is h
      refine u_lald dX3_plansInReach_50 rfl (Nat.lt_of_lt_of_le (Nat.le_of_ble_eq_true rfl) hn) (q_in_vp hi4) ?_
      refine q_lsub dX3_plansInReach_51 ?_
      refine c_SN1 (as := [_, _]) (st := []) dX3_plansInReach_52 okX9_squareOf lX3_50 ⟨rfl, rfl⟩ ⟨Nat.le_of_ble_eq_true rfl, Nat.le_of_ble_eq_true rfl⟩ rfl rfl (Nat.le_of_ble_eq_true rfl) (Nat.le_of_ble_eq_true rfl) (t_X9_squareOf hn hF  rfl) ?_
      refine q_lload_n dX3_plansInReach_55 rfl ?_
      refine q_lcmp_gt 69 dX3_plansInReach_56 dX3_plansInReach_57 (by decide) (fun hc => ?_) (fun hc => ?_)
      · have h := q_it hc h
        refine q_iinc1 (w := 1) (ls' := [(0, _), (1, _), (2, _), (4, _), (5, _)]) [0, 1, 2, 4, 5] dX3_plansInReach_69 rfl (by decide) (Nat.le_of_ble_eq_true rfl) rfl ?_
        refine q_goto 18 dX3_plansInReach_72 (by decide) ?_
        exact ih _ _ _ _ _ h hx0
      · have h := q_if hc h
        refine q_iload dX3_plansInReach_60 rfl ?_
        refine q_iconst (v := 1) dX3_plansInReach_62 (by decide) ?_
        refine q_iload dX3_plansInReach_63 rfl ?_
        refine q_ishl dX3_plansInReach_65 ?_
        refine q_ior dX3_plansInReach_66 ?_
        refine q_istore (ls' := [(0, _), (1, _), (2, _), (4, _), (5, _)]) [0, 1, 2, 4, 5] dX3_plansInReach_67 (Nat.le_of_ble_eq_true rfl) rfl ?_
        refine q_iinc1 (w := 1) (ls' := [(0, _), (1, _), (2, _), (4, _), (5, _)]) [0, 1, 2, 4, 5] dX3_plansInReach_69 rfl (by decide) (Nat.le_of_ble_eq_true rfl) rfl ?_
        refine q_goto 18 dX3_plansInReach_72 (by decide) ?_
        exact ih _ _ _ _ _ h hx0
def f_X3_plansInReach (x1 : Int32) (m : q_Mm) : Option (Int32) :=
  (l_X3_plansInReach_18 7000  x1 (((m.1 23 3).toInt64) * ((m.1 23 3).toInt64)) 0 0 m).bind fun r5 =>
  some (r5)
set_option maxRecDepth 100000 in
set_option maxHeartbeats 4000000 in
theorem t_X3_plansInReach {g : q_G} {n : Nat} {F : Nat → Nat → Option Nat} (hn : 89 ≤ n) (hF : q_FF F)  {x1 : Int32} {m : q_Mm} {r : Int32} (h : f_X3_plansInReach x1 m = some r) : q_Cn g mX3_plansInReach [q_r g 23, .int x1] (q_mk n F m) (q_Q (some (.int r)) (q_mk n F m)) := by
  unfold f_X3_plansInReach at h
  show q_V g mX3_plansInReach q_T _ _ _ 0 [(0, q_r g 23), (1, .int x1)] [] (q_mk n F m)
  refine q_aload_n dX3_plansInReach_0 rfl ?_
  refine u_geti dX3_plansInReach_1 fX3_22 rfl rfl (Nat.lt_of_lt_of_le (Nat.le_of_ble_eq_true rfl) hn) ?_
  refine q_i2l dX3_plansInReach_4 ?_
  refine q_aload_n dX3_plansInReach_5 rfl ?_
  refine u_geti dX3_plansInReach_6 fX3_22 rfl rfl (Nat.lt_of_lt_of_le (Nat.le_of_ble_eq_true rfl) hn) ?_
  refine q_i2l dX3_plansInReach_9 ?_
  refine q_lmul dX3_plansInReach_10 ?_
  refine q_lstore_n (ls' := [(0, _), (1, _), (2, _)]) [0, 1, 2] dX3_plansInReach_11 (Nat.le_of_ble_eq_true rfl) rfl ?_
  refine q_iconst (v := 0) dX3_plansInReach_12 (by decide) ?_
  refine q_istore (ls' := [(0, _), (1, _), (2, _), (4, _)]) [0, 1, 2, 4] dX3_plansInReach_13 (Nat.le_of_ble_eq_true rfl) rfl ?_
  refine q_iconst (v := 0) dX3_plansInReach_15 (by decide) ?_
  refine q_istore (ls' := [(0, _), (1, _), (2, _), (4, _), (5, _)]) [0, 1, 2, 4, 5] dX3_plansInReach_16 (Nat.le_of_ble_eq_true rfl) rfl ?_
  obtain ⟨r5, hr6, h⟩ := q_bd h
  refine t_l_X3_plansInReach_18 hn hF  7000 _ _ _ _ _ hr6 ?_
  refine q_iload dX3_plansInReach_75 rfl ?_
  cases h
  exact q_iret dX3_plansInReach_77 rfl ⟨rfl, rfl⟩
def l_X5_gain_16 : Nat → Nat → Int32 → Int32 → Int32 → Int64 → Int32 → q_Mm → Option (Int64)
  | 0, _, _, _, _, _, _, _ => none
  | k + 1, b0, y1, y2, y3, y4, y6, m =>
    if (m.1 b0 2) ≤ y6 then
      some (y4)
    else
      (f_X5_legEnd b0 y6 m).bind fun r3 =>
      if q_in y6 12 = true then
      if q_in y6 12 = true then
      if q_in y6 12 = true then
      (f_X9_pace (m.1 (b0 + 2) y6.toNatClampNeg) y2 m).bind fun r8 =>
      l_X5_gain_16 k b0 y1 y2 y3 (y4 + (((((y1 / 60).toInt64) * ((r3 - (m.1 (b0 + 1) y6.toNatClampNeg)).toInt64)) + ((q_max 0 (q_min ((q_rm y1 60) - (m.1 (b0 + 1) y6.toNatClampNeg)) (r3 - (m.1 (b0 + 1) y6.toNatClampNeg)))).toInt64)) * ((r8 - y3).toInt64))) (y6 + 1) m
      else none
      else none
      else none
set_option maxRecDepth 100000 in
set_option maxHeartbeats 4000000 in
theorem t_l_X5_gain_16 {g : q_G} {n : Nat} {F : Nat → Nat → Option Nat} {Z : List Frame → Array Value → State → State → Prop} {kc ks : Nat} (hn : 89 ≤ n) (hF : q_FF F) {b0 : Nat} (hb0 : q_isPlan b0) : ∀ (k : Nat) (y1 : Int32) (y2 : Int32) (y3 : Int32) (y4 : Int64) (y6 : Int32) (m : q_Mm) {r : Int64}, l_X5_gain_16 k b0 y1 y2 y3 y4 y6 m = some r → (q_V g mX5_gain q_T Z kc ks 107 [(4, .long r)] [] (q_mk n F m)) → q_V g mX5_gain q_T Z kc ks 16 [(0, q_r g b0), (1, .int y1), (2, .int y2), (3, .int y3), (4, .long y4), (6, .int y6)] [] (q_mk n F m) := by
  intro k
  induction k with
  | zero => intro y1 y2 y3 y4 y6 m r h; cases h
  | succ k ih =>
    intro y1 y2 y3 y4 y6 m r h hx0
    unfold l_X5_gain_16 at h
    refine q_iload dX5_gain_16 rfl ?_
    refine q_aload_n dX5_gain_18 rfl ?_
    refine u_geti dX5_gain_19 fX5_18 rfl (q_plan_0 hb0) (q_lt0 (q_plan_n hb0 hn)) ?_
    refine q_icmp_ge 107 dX5_gain_22 (by decide) (fun hc => ?_) (fun hc => ?_)
    · have h := q_it hc h
      refine q_drop [4] (ls' := [(4, _)]) rfl ?_
      cases h
      exact hx0
    · have h := q_if hc h
      refine q_aload_n dX5_gain_25 rfl ?_
      refine q_iload dX5_gain_26 rfl ?_
      obtain ⟨r3, hr4, h⟩ := q_bd h
      refine c_V1 (as := [_]) (st := []) (ci := 5) dX5_gain_28 okX5_legEnd lX5_26 ⟨rfl, rfl⟩ ⟨Nat.le_of_ble_eq_true rfl, Nat.le_of_ble_eq_true rfl⟩ (by decide) rfl (q_plan_0 hb0) (q_lt0 (q_plan_n hb0 hn)) rfl rfl (Nat.le_of_ble_eq_true rfl) (Nat.le_of_ble_eq_true rfl) (t_X5_legEnd hn hF hb0 hr4) ?_
      refine q_aload_n dX5_gain_31 rfl ?_
      refine u_getr dX5_gain_32 fX5_9 rfl (q_plan_0 hb0) (q_lt0 (q_plan_n hb0 hn)) (q_plan_F1 hF hb0) ?_
      refine q_iload dX5_gain_35 rfl ?_
      obtain ⟨hi5, h⟩ := q_is h
      refine u_iald dX5_gain_37 (q_plan_1 hb0) (q_lt1 (q_plan_n hb0 hn)) (q_in_vp hi5) ?_
      refine q_isub dX5_gain_38 ?_
      refine q_istore (ls' := [(0, _), (1, _), (2, _), (3, _), (4, _), (6, _), (7, _)]) [0, 1, 2, 3, 4, 6, 7] dX5_gain_39 (Nat.le_of_ble_eq_true rfl) rfl ?_
      refine q_iconst (v := 0) dX5_gain_41 (by decide) ?_
      refine q_iload_n dX5_gain_42 rfl ?_
      refine q_bipush (v := 60) dX5_gain_43 (by decide) ?_
      refine q_irm dX5_gain_45 (by decide) ?_
      refine q_aload_n dX5_gain_46 rfl ?_
      refine u_getr dX5_gain_47 fX5_9 rfl (q_plan_0 hb0) (q_lt0 (q_plan_n hb0 hn)) (q_plan_F1 hF hb0) ?_
      refine q_iload dX5_gain_50 rfl ?_
      obtain ⟨hi6, h⟩ := q_is h
      refine u_iald dX5_gain_52 (q_plan_1 hb0) (q_lt1 (q_plan_n hb0 hn)) (q_in_vp hi6) ?_
      refine q_isub dX5_gain_53 ?_
      refine q_iload dX5_gain_54 rfl ?_
      refine q_mmin dX5_gain_56 lX5_30 (Nat.le_of_ble_eq_true rfl) (Nat.le_of_ble_eq_true rfl) ?_
      refine q_mmax dX5_gain_59 lX5_35 (Nat.le_of_ble_eq_true rfl) (Nat.le_of_ble_eq_true rfl) ?_
      refine q_istore (ls' := [(0, _), (1, _), (2, _), (3, _), (4, _), (6, _), (7, _), (8, _)]) [0, 1, 2, 3, 4, 6, 7, 8] dX5_gain_62 (Nat.le_of_ble_eq_true rfl) rfl ?_
      refine q_iload_n dX5_gain_64 rfl ?_
      refine q_bipush (v := 60) dX5_gain_65 (by decide) ?_
      refine q_idiv dX5_gain_67 (by decide) ?_
      refine q_i2l dX5_gain_68 ?_
      refine q_iload dX5_gain_69 rfl ?_
      refine q_i2l dX5_gain_71 ?_
      refine q_lmul dX5_gain_72 ?_
      refine q_iload dX5_gain_73 rfl ?_
      refine q_i2l dX5_gain_75 ?_
      refine q_ladd dX5_gain_76 ?_
      refine q_lstore (ls' := [(0, _), (1, _), (2, _), (3, _), (4, _), (6, _), (9, _)]) [0, 1, 2, 3, 4, 6, 9] dX5_gain_77 (Nat.le_of_ble_eq_true rfl) rfl ?_
      refine q_lload dX5_gain_79 rfl ?_
      refine q_lload dX5_gain_81 rfl ?_
      refine q_aload_n dX5_gain_83 rfl ?_
      refine u_getr dX5_gain_84 fX5_15 rfl (q_plan_0 hb0) (q_lt0 (q_plan_n hb0 hn)) (q_plan_F2 hF hb0) ?_
      refine q_iload dX5_gain_87 rfl ?_
      obtain ⟨hi7, h⟩ := q_is h
      refine u_iald dX5_gain_89 (q_plan_2 hb0) (q_lt2 (q_plan_n hb0 hn)) (q_in_vp hi7) ?_
      refine q_iload_n dX5_gain_90 rfl ?_
      obtain ⟨r8, hr9, h⟩ := q_bd h
      refine c_SN1 (as := [_, _]) (st := [_, _]) dX5_gain_91 okX9_pace lX5_22 ⟨rfl, rfl⟩ ⟨Nat.le_of_ble_eq_true rfl, Nat.le_of_ble_eq_true rfl⟩ rfl rfl (Nat.le_of_ble_eq_true rfl) (Nat.le_of_ble_eq_true rfl) (t_X9_pace hn hF  hr9) ?_
      refine q_iload_n dX5_gain_94 rfl ?_
      refine q_isub dX5_gain_95 ?_
      refine q_i2l dX5_gain_96 ?_
      refine q_lmul dX5_gain_97 ?_
      refine q_ladd dX5_gain_98 ?_
      refine q_lstore (ls' := [(0, _), (1, _), (2, _), (3, _), (4, _), (6, _)]) [0, 1, 2, 3, 4, 6] dX5_gain_99 (Nat.le_of_ble_eq_true rfl) rfl ?_
      refine q_iinc1 (w := 1) (ls' := [(0, _), (1, _), (2, _), (3, _), (4, _), (6, _)]) [0, 1, 2, 3, 4, 6] dX5_gain_101 rfl (by decide) (Nat.le_of_ble_eq_true rfl) rfl ?_
      refine q_goto 16 dX5_gain_104 (by decide) ?_
      exact ih _ _ _ _ _ _ h hx0
def f_X5_gain (a0 : Nat) (x1 : Int32) (x2 : Int32) (m : q_Mm) : Option (Int64) :=
  (f_X9_pace 0 x2 m).bind fun r1 =>
  (l_X5_gain_16 7000 a0 x1 x2 r1 (r1.toInt64 * x1.toInt64) 0 m).bind fun r10 =>
  some (r10)
set_option maxRecDepth 100000 in
set_option maxHeartbeats 4000000 in
theorem t_X5_gain {g : q_G} {n : Nat} {F : Nat → Nat → Option Nat} (hn : 89 ≤ n) (hF : q_FF F) {a0 : Nat} (ha0 : q_isPlan a0) {x1 : Int32} {x2 : Int32} {m : q_Mm} {r : Int64} (h : f_X5_gain a0 x1 x2 m = some r) : q_Cn g mX5_gain [q_r g a0, .int x1, .int x2] (q_mk n F m) (q_Q (some (.long r)) (q_mk n F m)) := by
  unfold f_X5_gain at h
  show q_V g mX5_gain q_T _ _ _ 0 [(0, q_r g a0), (1, .int x1), (2, .int x2)] [] (q_mk n F m)
  refine q_iconst (v := 0) dX5_gain_0 (by decide) ?_
  refine q_iload_n dX5_gain_1 rfl ?_
  obtain ⟨r1, hr2, h⟩ := q_bd h
  refine c_SN1 (as := [_, _]) (st := []) dX5_gain_2 okX9_pace lX5_22 ⟨rfl, rfl⟩ ⟨Nat.le_of_ble_eq_true rfl, Nat.le_of_ble_eq_true rfl⟩ rfl rfl (Nat.le_of_ble_eq_true rfl) (Nat.le_of_ble_eq_true rfl) (t_X9_pace hn hF  hr2) ?_
  refine q_istore_n (ls' := [(0, _), (1, _), (2, _), (3, _)]) [0, 1, 2, 3] dX5_gain_5 (Nat.le_of_ble_eq_true rfl) rfl ?_
  refine q_iload_n dX5_gain_6 rfl ?_
  refine q_i2l dX5_gain_7 ?_
  refine q_iload_n dX5_gain_8 rfl ?_
  refine q_i2l dX5_gain_9 ?_
  refine q_lmul dX5_gain_10 ?_
  refine q_lstore (ls' := [(0, _), (1, _), (2, _), (3, _), (4, _)]) [0, 1, 2, 3, 4] dX5_gain_11 (Nat.le_of_ble_eq_true rfl) rfl ?_
  refine q_iconst (v := 0) dX5_gain_13 (by decide) ?_
  refine q_istore (ls' := [(0, _), (1, _), (2, _), (3, _), (4, _), (6, _)]) [0, 1, 2, 3, 4, 6] dX5_gain_14 (Nat.le_of_ble_eq_true rfl) rfl ?_
  obtain ⟨r10, hr11, h⟩ := q_bd h
  refine t_l_X5_gain_16 hn hF ha0 7000 _ _ _ _ _ _ hr11 ?_
  refine q_lload dX5_gain_107 rfl ?_
  cases h
  exact q_lret dX5_gain_109 rfl ⟨rfl, rfl⟩
def l_X3_waitAt_3 : Nat → Int32 → Int32 → Int32 → q_Mm → Option (q_Mm)
  | 0, _, _, _, _ => none
  | k + 1, y2, y3, y4, m =>
    if 4 ≤ y4 then
      some (m)
    else
      if q_in y4 4 = true then
      (f_X5_gain (46 + 3 * y4.toNatClampNeg) y3 0 m).bind fun r2 =>
      if q_in y4 4 = true then
      if q_in y4 4 = true then
      (f_X5_gain (46 + 3 * y4.toNatClampNeg) y3 1 (q_wl m 24 y4.toNatClampNeg (y2.toInt64 * r2))).bind fun r6 =>
      if q_in y4 4 = true then
      l_X3_waitAt_3 k  y2 y3 (y4 + 1) (q_wl (q_wl m 24 y4.toNatClampNeg (y2.toInt64 * r2)) 25 y4.toNatClampNeg (y2.toInt64 * r6))
      else none
      else none
      else none
      else none
set_option maxRecDepth 100000 in
set_option maxHeartbeats 4000000 in
theorem t_l_X3_waitAt_3 {g : q_G} {n : Nat} {F : Nat → Nat → Option Nat} {Z : List Frame → Array Value → State → State → Prop} {kc ks : Nat} (hn : 89 ≤ n) (hF : q_FF F)  : ∀ (k : Nat) (y2 : Int32) (y3 : Int32) (y4 : Int32) (m : q_Mm) {r : q_Mm}, l_X3_waitAt_3 k y2 y3 y4 m = some r → (q_V g mX3_waitAt q_T Z kc ks 53 [(0, q_r g 23), (3, .int y3)] [] (q_mk n F r)) → q_V g mX3_waitAt q_T Z kc ks 3 [(0, q_r g 23), (1, q_r g 1), (2, .int y2), (3, .int y3), (4, .int y4)] [] (q_mk n F m) := by
  intro k
  induction k with
  | zero => intro y2 y3 y4 m r h; cases h
  | succ k ih =>
    intro y2 y3 y4 m r h hx0
    unfold l_X3_waitAt_3 at h
    refine q_iload dX3_waitAt_3 rfl ?_
    refine q_iconst (v := 4) dX3_waitAt_5 (by decide) ?_
    refine q_icmp_ge 53 dX3_waitAt_6 (by decide) (fun hc => ?_) (fun hc => ?_)
    · have h := q_it hc h
      refine q_drop [0, 3] (ls' := [(0, _), (3, _)]) rfl ?_
      cases h
      exact hx0
    · have h := q_if hc h
      refine q_aload_n dX3_waitAt_9 rfl ?_
      refine u_getr dX3_waitAt_10 fX3_25 rfl rfl (Nat.lt_of_lt_of_le (Nat.le_of_ble_eq_true rfl) hn) (hF 23 4 24 rfl) ?_
      refine q_iload dX3_waitAt_13 rfl ?_
      refine q_iload_n dX3_waitAt_15 rfl ?_
      refine q_i2l dX3_waitAt_16 ?_
      refine q_aload_n dX3_waitAt_17 rfl ?_
      refine q_iload dX3_waitAt_18 rfl ?_
      obtain ⟨hi1, h⟩ := q_is h
      refine u_aald dX3_waitAt_20 (Or.inl rfl) (Nat.lt_of_lt_of_le (Nat.le_of_ble_eq_true rfl) hn) (q_in_vp hi1) (q_at_planF hF hi1) ?_
      refine q_iload_n dX3_waitAt_21 rfl ?_
      refine q_iconst (v := 0) dX3_waitAt_22 (by decide) ?_
      obtain ⟨r2, hr3, h⟩ := q_bd h
      refine c_V1 (as := [_, _]) (st := [_, _, _]) (ci := 5) dX3_waitAt_23 okX5_gain lX3_54 ⟨rfl, rfl⟩ ⟨Nat.le_of_ble_eq_true rfl, Nat.le_of_ble_eq_true rfl⟩ (by decide) rfl (q_plan_0 (q_at_plan hi1)) (q_lt0 (q_plan_n (q_at_plan hi1) hn)) rfl rfl (Nat.le_of_ble_eq_true rfl) (Nat.le_of_ble_eq_true rfl) (t_X5_gain hn hF (q_at_plan hi1) hr3) ?_
      refine q_lmul dX3_waitAt_26 ?_
      obtain ⟨hi4, h⟩ := q_is h
      refine u_last dX3_waitAt_27 rfl (Nat.lt_of_lt_of_le (Nat.le_of_ble_eq_true rfl) hn) (q_in_vp hi4) ?_
      refine q_aload_n dX3_waitAt_28 rfl ?_
      refine u_getr dX3_waitAt_29 fX3_29 rfl rfl (Nat.lt_of_lt_of_le (Nat.le_of_ble_eq_true rfl) hn) (hF 23 5 25 rfl) ?_
      refine q_iload dX3_waitAt_32 rfl ?_
      refine q_iload_n dX3_waitAt_34 rfl ?_
      refine q_i2l dX3_waitAt_35 ?_
      refine q_aload_n dX3_waitAt_36 rfl ?_
      refine q_iload dX3_waitAt_37 rfl ?_
      obtain ⟨hi5, h⟩ := q_is h
      refine u_aald dX3_waitAt_39 (Or.inl rfl) (Nat.lt_of_lt_of_le (Nat.le_of_ble_eq_true rfl) hn) (q_in_vp hi5) (q_at_planF hF hi5) ?_
      refine q_iload_n dX3_waitAt_40 rfl ?_
      refine q_iconst (v := 1) dX3_waitAt_41 (by decide) ?_
      obtain ⟨r6, hr7, h⟩ := q_bd h
      refine c_V1 (as := [_, _]) (st := [_, _, _]) (ci := 5) dX3_waitAt_42 okX5_gain lX3_54 ⟨rfl, rfl⟩ ⟨Nat.le_of_ble_eq_true rfl, Nat.le_of_ble_eq_true rfl⟩ (by decide) rfl (q_plan_0 (q_at_plan hi5)) (q_lt0 (q_plan_n (q_at_plan hi5) hn)) rfl rfl (Nat.le_of_ble_eq_true rfl) (Nat.le_of_ble_eq_true rfl) (t_X5_gain hn hF (q_at_plan hi5) hr7) ?_
      refine q_lmul dX3_waitAt_45 ?_
      obtain ⟨hi8, h⟩ := q_is h
      refine u_last dX3_waitAt_46 rfl (Nat.lt_of_lt_of_le (Nat.le_of_ble_eq_true rfl) hn) (q_in_vp hi8) ?_
      refine q_iinc1 (w := 1) (ls' := [(0, _), (1, _), (2, _), (3, _), (4, _)]) [0, 1, 2, 3, 4] dX3_waitAt_47 rfl (by decide) (Nat.le_of_ble_eq_true rfl) rfl ?_
      refine q_goto 3 dX3_waitAt_50 (by decide) ?_
      exact ih _ _ _ _ h hx0
def l_X3_waitAt_56 : Nat → Int32 → Int32 → q_Mm → Option (q_Mm)
  | 0, _, _, _ => none
  | k + 1, y3, y4, m =>
    if 4 ≤ y4 then
      some (m)
    else
      if q_in y4 4 = true then
      if q_in y4 4 = true then
      if (f_X3_canBeWithin (m.2 24 y4.toNatClampNeg) (m.2 25 y4.toNatClampNeg) y3 0 m) = 0 then
        if q_in y4 4 = true then
        l_X3_waitAt_56 k  y3 (y4 + 1) (q_wi m 26 y4.toNatClampNeg 0)
        else none
      else
        (f_X3_plansInReach y4 m).bind fun r14 =>
        if q_in y4 4 = true then
        l_X3_waitAt_56 k  y3 (y4 + 1) (q_wi m 26 y4.toNatClampNeg r14)
        else none
      else none
      else none
set_option maxRecDepth 100000 in
set_option maxHeartbeats 4000000 in
theorem t_l_X3_waitAt_56 {g : q_G} {n : Nat} {F : Nat → Nat → Option Nat} {Z : List Frame → Array Value → State → State → Prop} {kc ks : Nat} (hn : 89 ≤ n) (hF : q_FF F)  : ∀ (k : Nat) (y3 : Int32) (y4 : Int32) (m : q_Mm) {r : q_Mm}, l_X3_waitAt_56 k y3 y4 m = some r → (q_V g mX3_waitAt q_T Z kc ks 108 [] [] (q_mk n F r)) → q_V g mX3_waitAt q_T Z kc ks 56 [(0, q_r g 23), (3, .int y3), (4, .int y4)] [] (q_mk n F m) := by
  intro k
  induction k with
  | zero => intro y3 y4 m r h; cases h
  | succ k ih =>
    intro y3 y4 m r h hx0
    unfold l_X3_waitAt_56 at h
    refine q_iload dX3_waitAt_56 rfl ?_
    refine q_iconst (v := 4) dX3_waitAt_58 (by decide) ?_
    refine q_icmp_ge 108 dX3_waitAt_59 (by decide) (fun hc => ?_) (fun hc => ?_)
    · have h := q_it hc h
      refine q_drop [] (ls' := []) rfl ?_
      cases h
      exact hx0
    · have h := q_if hc h
      refine q_aload_n dX3_waitAt_62 rfl ?_
      refine u_getr dX3_waitAt_63 fX3_32 rfl rfl (Nat.lt_of_lt_of_le (Nat.le_of_ble_eq_true rfl) hn) (hF 23 6 26 rfl) ?_
      refine q_iload dX3_waitAt_66 rfl ?_
      refine q_aload_n dX3_waitAt_68 rfl ?_
      refine q_aload_n dX3_waitAt_69 rfl ?_
      refine u_getr dX3_waitAt_70 fX3_25 rfl rfl (Nat.lt_of_lt_of_le (Nat.le_of_ble_eq_true rfl) hn) (hF 23 4 24 rfl) ?_
      refine q_iload dX3_waitAt_73 rfl ?_
      obtain ⟨hi11, h⟩ := q_is h
      refine u_lald dX3_waitAt_75 rfl (Nat.lt_of_lt_of_le (Nat.le_of_ble_eq_true rfl) hn) (q_in_vp hi11) ?_
      refine q_aload_n dX3_waitAt_76 rfl ?_
      refine u_getr dX3_waitAt_77 fX3_29 rfl rfl (Nat.lt_of_lt_of_le (Nat.le_of_ble_eq_true rfl) hn) (hF 23 5 25 rfl) ?_
      refine q_iload dX3_waitAt_80 rfl ?_
      obtain ⟨hi12, h⟩ := q_is h
      refine u_lald dX3_waitAt_82 rfl (Nat.lt_of_lt_of_le (Nat.le_of_ble_eq_true rfl) hn) (q_in_vp hi12) ?_
      refine q_iload_n dX3_waitAt_83 rfl ?_
      refine q_iconst (v := 0) dX3_waitAt_84 (by decide) ?_
      refine c_V1 (as := [_, _, _, _]) (st := [_, _]) (ci := 3) dX3_waitAt_85 okX3_canBeWithin lX3_60 ⟨rfl, rfl⟩ ⟨Nat.le_of_ble_eq_true rfl, Nat.le_of_ble_eq_true rfl⟩ (by decide) rfl rfl (Nat.lt_of_lt_of_le (Nat.le_of_ble_eq_true rfl) hn) rfl rfl (Nat.le_of_ble_eq_true rfl) (Nat.le_of_ble_eq_true rfl) (t_X3_canBeWithin hn hF  rfl) ?_
      refine q_if_eq 100 dX3_waitAt_88 (by decide) (fun hc => ?_) (fun hc => ?_)
      · have h := q_it hc h
        refine q_iconst (v := 0) dX3_waitAt_100 (by decide) ?_
        obtain ⟨hi13, h⟩ := q_is h
        refine u_iast dX3_waitAt_101 rfl (Nat.lt_of_lt_of_le (Nat.le_of_ble_eq_true rfl) hn) (q_in_vp hi13) ?_
        refine q_iinc1 (w := 1) (ls' := [(0, _), (3, _), (4, _)]) [0, 3, 4] dX3_waitAt_102 rfl (by decide) (Nat.le_of_ble_eq_true rfl) rfl ?_
        refine q_goto 56 dX3_waitAt_105 (by decide) ?_
        exact ih _ _ _ h hx0
      · have h := q_if hc h
        refine q_aload_n dX3_waitAt_91 rfl ?_
        refine q_iload dX3_waitAt_92 rfl ?_
        obtain ⟨r14, hr15, h⟩ := q_bd h
        refine c_V1 (as := [_]) (st := [_, _]) (ci := 3) dX3_waitAt_94 okX3_plansInReach lX3_64 ⟨rfl, rfl⟩ ⟨Nat.le_of_ble_eq_true rfl, Nat.le_of_ble_eq_true rfl⟩ (by decide) rfl rfl (Nat.lt_of_lt_of_le (Nat.le_of_ble_eq_true rfl) hn) rfl rfl (Nat.le_of_ble_eq_true rfl) (Nat.le_of_ble_eq_true rfl) (t_X3_plansInReach hn hF  hr15) ?_
        refine q_goto 101 dX3_waitAt_97 (by decide) ?_
        obtain ⟨hi16, h⟩ := q_is h
        refine u_iast dX3_waitAt_101 rfl (Nat.lt_of_lt_of_le (Nat.le_of_ble_eq_true rfl) hn) (q_in_vp hi16) ?_
        refine q_iinc1 (w := 1) (ls' := [(0, _), (3, _), (4, _)]) [0, 3, 4] dX3_waitAt_102 rfl (by decide) (Nat.le_of_ble_eq_true rfl) rfl ?_
        refine q_goto 56 dX3_waitAt_105 (by decide) ?_
        exact ih _ _ _ h hx0
def f_X3_waitAt (x2 : Int32) (x3 : Int32) (m : q_Mm) : Option (q_Mm) :=
  (l_X3_waitAt_3 7000  x2 x3 0 m).bind fun r9 =>
  (l_X3_waitAt_56 7000  x3 0 r9).bind fun r17 =>
  some (r17)
set_option maxRecDepth 100000 in
set_option maxHeartbeats 4000000 in
theorem t_X3_waitAt {g : q_G} {n : Nat} {F : Nat → Nat → Option Nat} (hn : 89 ≤ n) (hF : q_FF F)  {x2 : Int32} {x3 : Int32} {m : q_Mm} {r : q_Mm} (h : f_X3_waitAt x2 x3 m = some r) : q_Cn g mX3_waitAt [q_r g 23, q_r g 1, .int x2, .int x3] (q_mk n F m) (q_Q none (q_mk n F r)) := by
  unfold f_X3_waitAt at h
  show q_V g mX3_waitAt q_T _ _ _ 0 [(0, q_r g 23), (1, q_r g 1), (2, .int x2), (3, .int x3)] [] (q_mk n F m)
  refine q_iconst (v := 0) dX3_waitAt_0 (by decide) ?_
  refine q_istore (ls' := [(0, _), (1, _), (2, _), (3, _), (4, _)]) [0, 1, 2, 3, 4] dX3_waitAt_1 (Nat.le_of_ble_eq_true rfl) rfl ?_
  obtain ⟨r9, hr10, h⟩ := q_bd h
  refine t_l_X3_waitAt_3 hn hF  7000 _ _ _ _ hr10 ?_
  refine q_iconst (v := 0) dX3_waitAt_53 (by decide) ?_
  refine q_istore (ls' := [(0, _), (3, _), (4, _)]) [0, 3, 4] dX3_waitAt_54 (Nat.le_of_ble_eq_true rfl) rfl ?_
  obtain ⟨r17, hr18, h⟩ := q_bd h
  refine t_l_X3_waitAt_56 hn hF  7000 _ _ _ hr18 ?_
  cases h
  exact q_vret dX3_waitAt_108 rfl ⟨rfl, rfl⟩
def l_X3_choose_14 : Nat → Int32 → Int32 → Int32 → Int32 → Int32 → q_Mm → Option (q_Mm)
  | 0, _, _, _, _, _, _ => none
  | k + 1, y1, y2, y3, y4, y5, m =>
    if 4 ≤ y5 then
      some (m)
    else
      if q_in y5 4 = true then
      if (m.1 26 y5.toNatClampNeg) = 0 then
        l_X3_choose_14 k  y1 y2 y3 y4 (y5 + 1) m
      else
        if (m.1 23 8) = (-6) then
          l_X3_choose_14 k  y1 y2 y3 y4 (y5 + 1) (q_wi (q_wi m 23 7 ((((y1 * ((m.1 26 y5.toNatClampNeg) &&& 1)) + (y2 * (((m.1 26 y5.toNatClampNeg) >>> ((1 : Int32) &&& 31)) &&& 1))) + (y3 * (((m.1 26 y5.toNatClampNeg) >>> ((2 : Int32) &&& 31)) &&& 1))) + (y4 * (((m.1 26 y5.toNatClampNeg) >>> ((3 : Int32) &&& 31)) &&& 1)))) 23 8 y5)
        else
          if ((((y1 * ((m.1 26 y5.toNatClampNeg) &&& 1)) + (y2 * (((m.1 26 y5.toNatClampNeg) >>> ((1 : Int32) &&& 31)) &&& 1))) + (y3 * (((m.1 26 y5.toNatClampNeg) >>> ((2 : Int32) &&& 31)) &&& 1))) + (y4 * (((m.1 26 y5.toNatClampNeg) >>> ((3 : Int32) &&& 31)) &&& 1))) ≤ (m.1 23 7) then
            l_X3_choose_14 k  y1 y2 y3 y4 (y5 + 1) m
          else
            l_X3_choose_14 k  y1 y2 y3 y4 (y5 + 1) (q_wi (q_wi m 23 7 ((((y1 * ((m.1 26 y5.toNatClampNeg) &&& 1)) + (y2 * (((m.1 26 y5.toNatClampNeg) >>> ((1 : Int32) &&& 31)) &&& 1))) + (y3 * (((m.1 26 y5.toNatClampNeg) >>> ((2 : Int32) &&& 31)) &&& 1))) + (y4 * (((m.1 26 y5.toNatClampNeg) >>> ((3 : Int32) &&& 31)) &&& 1)))) 23 8 y5)
      else none
set_option maxRecDepth 100000 in
set_option maxHeartbeats 4000000 in
theorem t_l_X3_choose_14 {g : q_G} {n : Nat} {F : Nat → Nat → Option Nat} {Z : List Frame → Array Value → State → State → Prop} {kc ks : Nat} (hn : 89 ≤ n) (hF : q_FF F)  : ∀ (k : Nat) (y1 : Int32) (y2 : Int32) (y3 : Int32) (y4 : Int32) (y5 : Int32) (m : q_Mm) {r : q_Mm}, l_X3_choose_14 k y1 y2 y3 y4 y5 m = some r → (q_V g mX3_choose q_T Z kc ks 106 [] [] (q_mk n F r)) → q_V g mX3_choose q_T Z kc ks 14 [(0, q_r g 23), (1, .int y1), (2, .int y2), (3, .int y3), (4, .int y4), (5, .int y5)] [] (q_mk n F m) := by
  intro k
  induction k with
  | zero => intro y1 y2 y3 y4 y5 m r h; cases h
  | succ k ih =>
    intro y1 y2 y3 y4 y5 m r h hx0
    unfold l_X3_choose_14 at h
    refine q_iload dX3_choose_14 rfl ?_
    refine q_iconst (v := 4) dX3_choose_16 (by decide) ?_
    refine q_icmp_ge 106 dX3_choose_17 (by decide) (fun hc => ?_) (fun hc => ?_)
    · have h := q_it hc h
      refine q_drop [] (ls' := []) rfl ?_
      cases h
      exact hx0
    · have h := q_if hc h
      refine q_aload_n dX3_choose_20 rfl ?_
      refine u_getr dX3_choose_21 fX3_32 rfl rfl (Nat.lt_of_lt_of_le (Nat.le_of_ble_eq_true rfl) hn) (hF 23 6 26 rfl) ?_
      refine q_iload dX3_choose_24 rfl ?_
      obtain ⟨hi1, h⟩ := q_is h
      refine u_iald dX3_choose_26 rfl (Nat.lt_of_lt_of_le (Nat.le_of_ble_eq_true rfl) hn) (q_in_vp hi1) ?_
      refine q_istore (ls' := [(0, _), (1, _), (2, _), (3, _), (4, _), (5, _), (6, _)]) [0, 1, 2, 3, 4, 5, 6] dX3_choose_27 (Nat.le_of_ble_eq_true rfl) rfl ?_
      refine q_iload_n dX3_choose_29 rfl ?_
      refine q_iload dX3_choose_30 rfl ?_
      refine q_iconst (v := 1) dX3_choose_32 (by decide) ?_
      refine q_iand dX3_choose_33 ?_
      refine q_imul dX3_choose_34 ?_
      refine q_iload_n dX3_choose_35 rfl ?_
      refine q_iload dX3_choose_36 rfl ?_
      refine q_iconst (v := 1) dX3_choose_38 (by decide) ?_
      refine q_ishr dX3_choose_39 ?_
      refine q_iconst (v := 1) dX3_choose_40 (by decide) ?_
      refine q_iand dX3_choose_41 ?_
      refine q_imul dX3_choose_42 ?_
      refine q_iadd dX3_choose_43 ?_
      refine q_iload_n dX3_choose_44 rfl ?_
      refine q_iload dX3_choose_45 rfl ?_
      refine q_iconst (v := 2) dX3_choose_47 (by decide) ?_
      refine q_ishr dX3_choose_48 ?_
      refine q_iconst (v := 1) dX3_choose_49 (by decide) ?_
      refine q_iand dX3_choose_50 ?_
      refine q_imul dX3_choose_51 ?_
      refine q_iadd dX3_choose_52 ?_
      refine q_iload dX3_choose_53 rfl ?_
      refine q_iload dX3_choose_55 rfl ?_
      refine q_iconst (v := 3) dX3_choose_57 (by decide) ?_
      refine q_ishr dX3_choose_58 ?_
      refine q_iconst (v := 1) dX3_choose_59 (by decide) ?_
      refine q_iand dX3_choose_60 ?_
      refine q_imul dX3_choose_61 ?_
      refine q_iadd dX3_choose_62 ?_
      refine q_istore (ls' := [(0, _), (1, _), (2, _), (3, _), (4, _), (5, _), (6, _), (7, _)]) [0, 1, 2, 3, 4, 5, 6, 7] dX3_choose_63 (Nat.le_of_ble_eq_true rfl) rfl ?_
      refine q_iload dX3_choose_65 rfl ?_
      refine q_if_eq 100 dX3_choose_67 (by decide) (fun hc => ?_) (fun hc => ?_)
      · have h := q_it hc h
        refine q_iinc1 (w := 1) (ls' := [(0, _), (1, _), (2, _), (3, _), (4, _), (5, _)]) [0, 1, 2, 3, 4, 5] dX3_choose_100 rfl (by decide) (Nat.le_of_ble_eq_true rfl) rfl ?_
        refine q_goto 14 dX3_choose_103 (by decide) ?_
        exact ih _ _ _ _ _ _ h hx0
      · have h := q_if hc h
        refine q_aload_n dX3_choose_70 rfl ?_
        refine u_geti dX3_choose_71 fX3_39 rfl rfl (Nat.lt_of_lt_of_le (Nat.le_of_ble_eq_true rfl) hn) ?_
        refine q_bipush (v := (-6)) dX3_choose_74 (by decide) ?_
        refine q_icmp_eq 88 dX3_choose_76 (by decide) (fun hc => ?_) (fun hc => ?_)
        · have h := q_it hc h
          refine q_aload_n dX3_choose_88 rfl ?_
          refine q_iload dX3_choose_89 rfl ?_
          refine u_puti dX3_choose_91 fX3_36 rfl rfl (Nat.lt_of_lt_of_le (Nat.le_of_ble_eq_true rfl) hn) rfl rfl rfl ?_
          refine q_aload_n dX3_choose_94 rfl ?_
          refine q_iload dX3_choose_95 rfl ?_
          refine u_puti dX3_choose_97 fX3_39 rfl rfl (Nat.lt_of_lt_of_le (Nat.le_of_ble_eq_true rfl) hn) rfl rfl rfl ?_
          refine q_iinc1 (w := 1) (ls' := [(0, _), (1, _), (2, _), (3, _), (4, _), (5, _)]) [0, 1, 2, 3, 4, 5] dX3_choose_100 rfl (by decide) (Nat.le_of_ble_eq_true rfl) rfl ?_
          refine q_goto 14 dX3_choose_103 (by decide) ?_
          exact ih _ _ _ _ _ _ h hx0
        · have h := q_if hc h
          refine q_iload dX3_choose_79 rfl ?_
          refine q_aload_n dX3_choose_81 rfl ?_
          refine u_geti dX3_choose_82 fX3_36 rfl rfl (Nat.lt_of_lt_of_le (Nat.le_of_ble_eq_true rfl) hn) ?_
          refine q_icmp_le 100 dX3_choose_85 (by decide) (fun hc => ?_) (fun hc => ?_)
          · have h := q_it hc h
            refine q_iinc1 (w := 1) (ls' := [(0, _), (1, _), (2, _), (3, _), (4, _), (5, _)]) [0, 1, 2, 3, 4, 5] dX3_choose_100 rfl (by decide) (Nat.le_of_ble_eq_true rfl) rfl ?_
            refine q_goto 14 dX3_choose_103 (by decide) ?_
            exact ih _ _ _ _ _ _ h hx0
          · have h := q_if hc h
            refine q_aload_n dX3_choose_88 rfl ?_
            refine q_iload dX3_choose_89 rfl ?_
            refine u_puti dX3_choose_91 fX3_36 rfl rfl (Nat.lt_of_lt_of_le (Nat.le_of_ble_eq_true rfl) hn) rfl rfl rfl ?_
            refine q_aload_n dX3_choose_94 rfl ?_
            refine q_iload dX3_choose_95 rfl ?_
            refine u_puti dX3_choose_97 fX3_39 rfl rfl (Nat.lt_of_lt_of_le (Nat.le_of_ble_eq_true rfl) hn) rfl rfl rfl ?_
            refine q_iinc1 (w := 1) (ls' := [(0, _), (1, _), (2, _), (3, _), (4, _), (5, _)]) [0, 1, 2, 3, 4, 5] dX3_choose_100 rfl (by decide) (Nat.le_of_ble_eq_true rfl) rfl ?_
            refine q_goto 14 dX3_choose_103 (by decide) ?_
            exact ih _ _ _ _ _ _ h hx0
def f_X3_choose (x1 : Int32) (x2 : Int32) (x3 : Int32) (x4 : Int32) (m : q_Mm) : Option (q_Mm) :=
  (l_X3_choose_14 7000  x1 x2 x3 x4 0 (q_wi (q_wi m 23 7 0) 23 8 (-6))).bind fun r2 =>
  some (r2)
set_option maxRecDepth 100000 in
set_option maxHeartbeats 4000000 in
theorem t_X3_choose {g : q_G} {n : Nat} {F : Nat → Nat → Option Nat} (hn : 89 ≤ n) (hF : q_FF F)  {x1 : Int32} {x2 : Int32} {x3 : Int32} {x4 : Int32} {m : q_Mm} {r : q_Mm} (h : f_X3_choose x1 x2 x3 x4 m = some r) : q_Cn g mX3_choose [q_r g 23, .int x1, .int x2, .int x3, .int x4] (q_mk n F m) (q_Q none (q_mk n F r)) := by
  unfold f_X3_choose at h
  show q_V g mX3_choose q_T _ _ _ 0 [(0, q_r g 23), (1, .int x1), (2, .int x2), (3, .int x3), (4, .int x4)] [] (q_mk n F m)
  refine q_aload_n dX3_choose_0 rfl ?_
  refine q_iconst (v := 0) dX3_choose_1 (by decide) ?_
  refine u_puti dX3_choose_2 fX3_36 rfl rfl (Nat.lt_of_lt_of_le (Nat.le_of_ble_eq_true rfl) hn) rfl rfl rfl ?_
  refine q_aload_n dX3_choose_5 rfl ?_
  refine q_bipush (v := (-6)) dX3_choose_6 (by decide) ?_
  refine u_puti dX3_choose_8 fX3_39 rfl rfl (Nat.lt_of_lt_of_le (Nat.le_of_ble_eq_true rfl) hn) rfl rfl rfl ?_
  refine q_iconst (v := 0) dX3_choose_11 (by decide) ?_
  refine q_istore (ls' := [(0, _), (1, _), (2, _), (3, _), (4, _), (5, _)]) [0, 1, 2, 3, 4, 5] dX3_choose_12 (Nat.le_of_ble_eq_true rfl) rfl ?_
  obtain ⟨r2, hr3, h⟩ := q_bd h
  refine t_l_X3_choose_14 hn hF  7000 _ _ _ _ _ _ hr3 ?_
  cases h
  exact q_vret dX3_choose_106 rfl ⟨rfl, rfl⟩
