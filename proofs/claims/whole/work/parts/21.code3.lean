def l_X10_misfit_29 : Nat → Int32 → Int32 → Int64 → Int32 → Int32 → q_Mm → Option (Int64)
  | 0, _, _, _, _, _, _ => none
  | k + 1, y3, y4, y5, y7, y8, m =>
    if (m.1 58 47) ≤ y8 then
      some (y5)
    else
      if q_in y8 12 = true then
      if (m.1 86 y8.toNatClampNeg) = y7 then
        if q_in y8 12 = true then
        if q_in y8 12 = true then
        l_X10_misfit_29 k  y3 y4 (y5 + ((f_X10_far (m.2 58 5) ((m.1 87 y8.toNatClampNeg).toInt64) m) + (f_X10_far (m.2 58 6) ((m.1 88 y8.toNatClampNeg).toInt64) m))) y7 (y8 + 1) m
        else none
        else none
      else
        l_X10_misfit_29 k  y3 y4 (y5 + 0) y7 (y8 + 1) m
      else none
set_option maxRecDepth 100000 in
set_option maxHeartbeats 4000000 in
theorem t_l_X10_misfit_29 {g : q_G} {n : Nat} {F : Nat → Nat → Option Nat} {Z : List Frame → Array Value → State → State → Prop} {kc ks : Nat} (hn : 89 ≤ n) (hF : q_FF F)  : ∀ (k : Nat) (y3 : Int32) (y4 : Int32) (y5 : Int64) (y7 : Int32) (y8 : Int32) (m : q_Mm) {r : Int64}, l_X10_misfit_29 k y3 y4 y5 y7 y8 m = some r → (q_V g mX10_misfit q_T Z kc ks 96 [(0, q_r g 58), (3, .int y3), (4, .int y4), (5, .long r), (7, .int y7)] [] (q_mk n F m)) → q_V g mX10_misfit q_T Z kc ks 29 [(0, q_r g 58), (3, .int y3), (4, .int y4), (5, .long y5), (7, .int y7), (8, .int y8)] [] (q_mk n F m) := by
  intro k
  induction k with
  | zero => intro y3 y4 y5 y7 y8 m r h; cases h
  | succ k ih =>
    intro y3 y4 y5 y7 y8 m r h hx0
    unfold l_X10_misfit_29 at h
    refine q_iload dX10_misfit_29 rfl ?_
    refine q_aload_n dX10_misfit_31 rfl ?_
    refine u_geti dX10_misfit_32 fX10_349 rfl rfl (Nat.lt_of_lt_of_le (Nat.le_of_ble_eq_true rfl) hn) ?_
    refine q_icmp_ge 96 dX10_misfit_35 (by decide) (fun hc => ?_) (fun hc => ?_)
    · have h := q_it hc h
      refine q_drop [0, 3, 4, 5, 7] (ls' := [(0, _), (3, _), (4, _), (5, _), (7, _)]) rfl ?_
      cases h
      exact hx0
    · have h := q_if hc h
      refine q_lload dX10_misfit_38 rfl ?_
      refine q_aload_n dX10_misfit_40 rfl ?_
      refine u_getr dX10_misfit_41 fX10_111 rfl rfl (Nat.lt_of_lt_of_le (Nat.le_of_ble_eq_true rfl) hn) (hF 58 44 86 rfl) ?_
      refine q_iload dX10_misfit_44 rfl ?_
      obtain ⟨hi1, h⟩ := q_is h
      refine u_iald dX10_misfit_46 rfl (Nat.lt_of_lt_of_le (Nat.le_of_ble_eq_true rfl) hn) (q_in_vp hi1) ?_
      refine q_iload dX10_misfit_47 rfl ?_
      refine q_icmp_ne 86 dX10_misfit_49 (by decide) (fun hc => ?_) (fun hc => ?_)
      · have h := q_if hc h
        refine q_lconst (v := 0) dX10_misfit_86 (by decide) ?_
        refine q_ladd dX10_misfit_87 ?_
        refine q_lstore (ls' := [(0, _), (3, _), (4, _), (5, _), (7, _), (8, _)]) [0, 3, 4, 5, 7, 8] dX10_misfit_88 (Nat.le_of_ble_eq_true rfl) rfl ?_
        refine q_iinc1 (w := 1) (ls' := [(0, _), (3, _), (4, _), (5, _), (7, _), (8, _)]) [0, 3, 4, 5, 7, 8] dX10_misfit_90 rfl (by decide) (Nat.le_of_ble_eq_true rfl) rfl ?_
        refine q_goto 29 dX10_misfit_93 (by decide) ?_
        exact ih _ _ _ _ _ _ h hx0
      · have h := q_it hc h
        refine q_aload_n dX10_misfit_52 rfl ?_
        refine u_getl dX10_misfit_53 fX10_152 rfl rfl (Nat.lt_of_lt_of_le (Nat.le_of_ble_eq_true rfl) hn) ?_
        refine q_aload_n dX10_misfit_56 rfl ?_
        refine u_getr dX10_misfit_57 fX10_114 rfl rfl (Nat.lt_of_lt_of_le (Nat.le_of_ble_eq_true rfl) hn) (hF 58 45 87 rfl) ?_
        refine q_iload dX10_misfit_60 rfl ?_
        obtain ⟨hi2, h⟩ := q_is h
        refine u_iald dX10_misfit_62 rfl (Nat.lt_of_lt_of_le (Nat.le_of_ble_eq_true rfl) hn) (q_in_vp hi2) ?_
        refine q_i2l dX10_misfit_63 ?_
        refine c_S1 (as := [_, _]) (st := [_]) dX10_misfit_64 okX10_far lX10_352 ⟨rfl, rfl⟩ ⟨Nat.le_of_ble_eq_true rfl, Nat.le_of_ble_eq_true rfl⟩ rfl rfl (Nat.le_of_ble_eq_true rfl) (Nat.le_of_ble_eq_true rfl) (t_X10_far hn hF  rfl) ?_
        refine q_aload_n dX10_misfit_67 rfl ?_
        refine u_getl dX10_misfit_68 fX10_159 rfl rfl (Nat.lt_of_lt_of_le (Nat.le_of_ble_eq_true rfl) hn) ?_
        refine q_aload_n dX10_misfit_71 rfl ?_
        refine u_getr dX10_misfit_72 fX10_117 rfl rfl (Nat.lt_of_lt_of_le (Nat.le_of_ble_eq_true rfl) hn) (hF 58 46 88 rfl) ?_
        refine q_iload dX10_misfit_75 rfl ?_
        obtain ⟨hi3, h⟩ := q_is h
        refine u_iald dX10_misfit_77 rfl (Nat.lt_of_lt_of_le (Nat.le_of_ble_eq_true rfl) hn) (q_in_vp hi3) ?_
        refine q_i2l dX10_misfit_78 ?_
        refine c_S1 (as := [_, _]) (st := [_, _]) dX10_misfit_79 okX10_far lX10_352 ⟨rfl, rfl⟩ ⟨Nat.le_of_ble_eq_true rfl, Nat.le_of_ble_eq_true rfl⟩ rfl rfl (Nat.le_of_ble_eq_true rfl) (Nat.le_of_ble_eq_true rfl) (t_X10_far hn hF  rfl) ?_
        refine q_ladd dX10_misfit_82 ?_
        refine q_goto 87 dX10_misfit_83 (by decide) ?_
        refine q_ladd dX10_misfit_87 ?_
        refine q_lstore (ls' := [(0, _), (3, _), (4, _), (5, _), (7, _), (8, _)]) [0, 3, 4, 5, 7, 8] dX10_misfit_88 (Nat.le_of_ble_eq_true rfl) rfl ?_
        refine q_iinc1 (w := 1) (ls' := [(0, _), (3, _), (4, _), (5, _), (7, _), (8, _)]) [0, 3, 4, 5, 7, 8] dX10_misfit_90 rfl (by decide) (Nat.le_of_ble_eq_true rfl) rfl ?_
        refine q_goto 29 dX10_misfit_93 (by decide) ?_
        exact ih _ _ _ _ _ _ h hx0
def l_X10_misfit_18 : Nat → Int32 → Int32 → Int64 → Int32 → q_Mm → Option (Int64 × q_Mm)
  | 0, _, _, _, _, _ => none
  | k + 1, y3, y4, y5, y7, m =>
    if 600 < y7 then
      some (y5, m)
    else
      (l_X10_misfit_29 7000  y3 y4 y5 y7 0 m).bind fun r4 =>
      (f_X10_step y7 y4 y3 m).bind fun r6 =>
      l_X10_misfit_18 k  y3 y4 r4 (y7 + 1) r6
set_option maxRecDepth 100000 in
set_option maxHeartbeats 4000000 in
theorem t_l_X10_misfit_18 {g : q_G} {n : Nat} {F : Nat → Nat → Option Nat} {Z : List Frame → Array Value → State → State → Prop} {kc ks : Nat} (hn : 89 ≤ n) (hF : q_FF F)  : ∀ (k : Nat) (y3 : Int32) (y4 : Int32) (y5 : Int64) (y7 : Int32) (m : q_Mm) {r : Int64 × q_Mm}, l_X10_misfit_18 k y3 y4 y5 y7 m = some r → (q_V g mX10_misfit q_T Z kc ks 111 [(5, .long r.1)] [] (q_mk n F r.2)) → q_V g mX10_misfit q_T Z kc ks 18 [(0, q_r g 58), (3, .int y3), (4, .int y4), (5, .long y5), (7, .int y7)] [] (q_mk n F m) := by
  intro k
  induction k with
  | zero => intro y3 y4 y5 y7 m r h; cases h
  | succ k ih =>
    intro y3 y4 y5 y7 m r h hx0
    unfold l_X10_misfit_18 at h
    refine q_iload dX10_misfit_18 rfl ?_
    refine q_sipush (v := 600) dX10_misfit_20 (by decide) ?_
    refine q_icmp_gt 111 dX10_misfit_23 (by decide) (fun hc => ?_) (fun hc => ?_)
    · have h := q_it hc h
      refine q_drop [5] (ls' := [(5, _)]) rfl ?_
      cases h
      exact hx0
    · have h := q_if hc h
      refine q_iconst (v := 0) dX10_misfit_26 (by decide) ?_
      refine q_istore (ls' := [(0, _), (3, _), (4, _), (5, _), (7, _), (8, _)]) [0, 3, 4, 5, 7, 8] dX10_misfit_27 (Nat.le_of_ble_eq_true rfl) rfl ?_
      obtain ⟨r4, hr5, h⟩ := q_bd h
      refine t_l_X10_misfit_29 hn hF  7000 _ _ _ _ _ _ hr5 ?_
      refine q_aload_n dX10_misfit_96 rfl ?_
      refine q_iload dX10_misfit_97 rfl ?_
      refine q_iload dX10_misfit_99 rfl ?_
      refine q_iload_n dX10_misfit_101 rfl ?_
      obtain ⟨r6, hr7, h⟩ := q_bd h
      refine c_V0 (as := [_, _, _]) (st := []) (ci := 10) dX10_misfit_102 okX10_step lX10_214 ⟨rfl, rfl⟩ ⟨Nat.le_of_ble_eq_true rfl, Nat.le_of_ble_eq_true rfl⟩ (by decide) rfl rfl (Nat.lt_of_lt_of_le (Nat.le_of_ble_eq_true rfl) hn) rfl rfl (Nat.le_of_ble_eq_true rfl) (Nat.le_of_ble_eq_true rfl) (t_X10_step hn hF  hr7) ?_
      refine q_iinc1 (w := 1) (ls' := [(0, _), (3, _), (4, _), (5, _), (7, _)]) [0, 3, 4, 5, 7] dX10_misfit_105 rfl (by decide) (Nat.le_of_ble_eq_true rfl) rfl ?_
      refine q_goto 18 dX10_misfit_108 (by decide) ?_
      exact ih _ _ _ _ _ h hx0
def f_X10_misfit (x1 : Int32) (x2 : Int32) (x3 : Int32) (x4 : Int32) (m : q_Mm) : Option (Int64 × q_Mm) :=
  (l_X10_misfit_18 7000  x3 x4 0 0 (q_wl (q_wl m 58 5 x1.toInt64) 58 6 x2.toInt64)).bind fun r8 =>
  some ((r8.1, r8.2))
set_option maxRecDepth 100000 in
set_option maxHeartbeats 4000000 in
theorem t_X10_misfit {g : q_G} {n : Nat} {F : Nat → Nat → Option Nat} (hn : 89 ≤ n) (hF : q_FF F)  {x1 : Int32} {x2 : Int32} {x3 : Int32} {x4 : Int32} {m : q_Mm} {r : Int64 × q_Mm} (h : f_X10_misfit x1 x2 x3 x4 m = some r) : q_Cn g mX10_misfit [q_r g 58, .int x1, .int x2, .int x3, .int x4] (q_mk n F m) (q_Q (some (.long r.1)) (q_mk n F r.2)) := by
  unfold f_X10_misfit at h
  show q_V g mX10_misfit q_T _ _ _ 0 [(0, q_r g 58), (1, .int x1), (2, .int x2), (3, .int x3), (4, .int x4)] [] (q_mk n F m)
  refine q_lconst (v := 0) dX10_misfit_0 (by decide) ?_
  refine q_lstore (ls' := [(0, _), (1, _), (2, _), (3, _), (4, _), (5, _)]) [0, 1, 2, 3, 4, 5] dX10_misfit_1 (Nat.le_of_ble_eq_true rfl) rfl ?_
  refine q_aload_n dX10_misfit_3 rfl ?_
  refine q_iload_n dX10_misfit_4 rfl ?_
  refine q_i2l dX10_misfit_5 ?_
  refine u_putl dX10_misfit_6 fX10_152 rfl rfl (Nat.lt_of_lt_of_le (Nat.le_of_ble_eq_true rfl) hn) rfl rfl rfl ?_
  refine q_aload_n dX10_misfit_9 rfl ?_
  refine q_iload_n dX10_misfit_10 rfl ?_
  refine q_i2l dX10_misfit_11 ?_
  refine u_putl dX10_misfit_12 fX10_159 rfl rfl (Nat.lt_of_lt_of_le (Nat.le_of_ble_eq_true rfl) hn) rfl rfl rfl ?_
  refine q_iconst (v := 0) dX10_misfit_15 (by decide) ?_
  refine q_istore (ls' := [(0, _), (3, _), (4, _), (5, _), (7, _)]) [0, 3, 4, 5, 7] dX10_misfit_16 (Nat.le_of_ble_eq_true rfl) rfl ?_
  obtain ⟨r8, hr9, h⟩ := q_bd h
  refine t_l_X10_misfit_18 hn hF  7000 _ _ _ _ _ hr9 ?_
  refine q_lload dX10_misfit_111 rfl ?_
  cases h
  exact q_lret dX10_misfit_113 rfl ⟨rfl, rfl⟩
def f_X10_tryFit (x1 : Int32) (x2 : Int32) (x3 : Int32) (x4 : Int32) (x5 : Int32) (x6 : Int32) (m : q_Mm) : Option (q_Mm) :=
  (f_X10_missNone  m).bind fun r1 =>
  if x5 < 0 then
    (f_X10_misfit x1 x2 x3 x4 r1).bind fun r3 =>
    if (r3.2.2 58 48) < 0 then
      some (q_wi (q_wi (q_wi (q_wl r3.2 58 48 r3.1) 58 49 x4) 58 50 x5) 58 51 x6)
    else
      if (r3.2.2 58 48) ≤ r3.1 then
        some (r3.2)
      else
        some (q_wi (q_wi (q_wi (q_wl r3.2 58 48 r3.1) 58 49 x4) 58 50 x5) 58 51 x6)
  else
    if q_in x5 11 = true then
    (f_X10_misfit x1 x2 x3 x4 (q_wi r1 62 x5.toNatClampNeg ((1 : Int32) <<< (x6 &&& 31)))).bind fun r6 =>
    if (r6.2.2 58 48) < 0 then
      some (q_wi (q_wi (q_wi (q_wl r6.2 58 48 r6.1) 58 49 x4) 58 50 x5) 58 51 x6)
    else
      if (r6.2.2 58 48) ≤ r6.1 then
        some (r6.2)
      else
        some (q_wi (q_wi (q_wi (q_wl r6.2 58 48 r6.1) 58 49 x4) 58 50 x5) 58 51 x6)
    else none
set_option maxRecDepth 100000 in
set_option maxHeartbeats 4000000 in
theorem t_X10_tryFit {g : q_G} {n : Nat} {F : Nat → Nat → Option Nat} (hn : 89 ≤ n) (hF : q_FF F)  {x1 : Int32} {x2 : Int32} {x3 : Int32} {x4 : Int32} {x5 : Int32} {x6 : Int32} {m : q_Mm} {r : q_Mm} (h : f_X10_tryFit x1 x2 x3 x4 x5 x6 m = some r) : q_Cn g mX10_tryFit [q_r g 58, .int x1, .int x2, .int x3, .int x4, .int x5, .int x6] (q_mk n F m) (q_Q none (q_mk n F r)) := by
  unfold f_X10_tryFit at h
  show q_V g mX10_tryFit q_T _ _ _ 0 [(0, q_r g 58), (1, .int x1), (2, .int x2), (3, .int x3), (4, .int x4), (5, .int x5), (6, .int x6)] [] (q_mk n F m)
  refine q_aload_n dX10_tryFit_0 rfl ?_
  obtain ⟨r1, hr2, h⟩ := q_bd h
  refine c_V0 (as := []) (st := []) (ci := 10) dX10_tryFit_1 okX10_missNone lX10_138 ⟨rfl, rfl⟩ ⟨Nat.le_of_ble_eq_true rfl, Nat.le_of_ble_eq_true rfl⟩ (by decide) rfl rfl (Nat.lt_of_lt_of_le (Nat.le_of_ble_eq_true rfl) hn) rfl rfl (Nat.le_of_ble_eq_true rfl) (Nat.le_of_ble_eq_true rfl) (t_X10_missNone hn hF  hr2) ?_
  refine q_iload dX10_tryFit_4 rfl ?_
  refine q_if_lt 20 dX10_tryFit_6 (by decide) (fun hc => ?_) (fun hc => ?_)
  · have h := q_it hc h
    refine q_aload_n dX10_tryFit_20 rfl ?_
    refine q_iload_n dX10_tryFit_21 rfl ?_
    refine q_iload_n dX10_tryFit_22 rfl ?_
    refine q_iload_n dX10_tryFit_23 rfl ?_
    refine q_iload dX10_tryFit_24 rfl ?_
    obtain ⟨r3, hr4, h⟩ := q_bd h
    refine c_V1 (as := [_, _, _, _]) (st := []) (ci := 10) dX10_tryFit_26 okX10_misfit lX10_356 ⟨rfl, rfl⟩ ⟨Nat.le_of_ble_eq_true rfl, Nat.le_of_ble_eq_true rfl⟩ (by decide) rfl rfl (Nat.lt_of_lt_of_le (Nat.le_of_ble_eq_true rfl) hn) rfl rfl (Nat.le_of_ble_eq_true rfl) (Nat.le_of_ble_eq_true rfl) (t_X10_misfit hn hF  hr4) ?_
    refine q_lstore (ls' := [(0, _), (4, _), (5, _), (6, _), (7, _)]) [0, 4, 5, 6, 7] dX10_tryFit_29 (Nat.le_of_ble_eq_true rfl) rfl ?_
    refine q_aload_n dX10_tryFit_31 rfl ?_
    refine u_getl dX10_tryFit_32 fX10_360 rfl rfl (Nat.lt_of_lt_of_le (Nat.le_of_ble_eq_true rfl) hn) ?_
    refine q_lconst (v := 0) dX10_tryFit_35 (by decide) ?_
    refine q_lcmp_lt 50 dX10_tryFit_36 dX10_tryFit_37 (by decide) (fun hc => ?_) (fun hc => ?_)
    · have h := q_it hc h
      refine q_aload_n dX10_tryFit_50 rfl ?_
      refine q_lload dX10_tryFit_51 rfl ?_
      refine u_putl dX10_tryFit_53 fX10_360 rfl rfl (Nat.lt_of_lt_of_le (Nat.le_of_ble_eq_true rfl) hn) rfl rfl rfl ?_
      refine q_aload_n dX10_tryFit_56 rfl ?_
      refine q_iload dX10_tryFit_57 rfl ?_
      refine u_puti dX10_tryFit_59 fX10_363 rfl rfl (Nat.lt_of_lt_of_le (Nat.le_of_ble_eq_true rfl) hn) rfl rfl rfl ?_
      refine q_aload_n dX10_tryFit_62 rfl ?_
      refine q_iload dX10_tryFit_63 rfl ?_
      refine u_puti dX10_tryFit_65 fX10_366 rfl rfl (Nat.lt_of_lt_of_le (Nat.le_of_ble_eq_true rfl) hn) rfl rfl rfl ?_
      refine q_aload_n dX10_tryFit_68 rfl ?_
      refine q_iload dX10_tryFit_69 rfl ?_
      refine u_puti dX10_tryFit_71 fX10_369 rfl rfl (Nat.lt_of_lt_of_le (Nat.le_of_ble_eq_true rfl) hn) rfl rfl rfl ?_
      cases h
      exact q_vret dX10_tryFit_74 rfl ⟨rfl, rfl⟩
    · have h := q_if hc h
      refine q_lload dX10_tryFit_40 rfl ?_
      refine q_aload_n dX10_tryFit_42 rfl ?_
      refine u_getl dX10_tryFit_43 fX10_360 rfl rfl (Nat.lt_of_lt_of_le (Nat.le_of_ble_eq_true rfl) hn) ?_
      refine q_lcmp_ge 74 dX10_tryFit_46 dX10_tryFit_47 (by decide) (fun hc => ?_) (fun hc => ?_)
      · have h := q_it hc h
        cases h
        exact q_vret dX10_tryFit_74 rfl ⟨rfl, rfl⟩
      · have h := q_if hc h
        refine q_aload_n dX10_tryFit_50 rfl ?_
        refine q_lload dX10_tryFit_51 rfl ?_
        refine u_putl dX10_tryFit_53 fX10_360 rfl rfl (Nat.lt_of_lt_of_le (Nat.le_of_ble_eq_true rfl) hn) rfl rfl rfl ?_
        refine q_aload_n dX10_tryFit_56 rfl ?_
        refine q_iload dX10_tryFit_57 rfl ?_
        refine u_puti dX10_tryFit_59 fX10_363 rfl rfl (Nat.lt_of_lt_of_le (Nat.le_of_ble_eq_true rfl) hn) rfl rfl rfl ?_
        refine q_aload_n dX10_tryFit_62 rfl ?_
        refine q_iload dX10_tryFit_63 rfl ?_
        refine u_puti dX10_tryFit_65 fX10_366 rfl rfl (Nat.lt_of_lt_of_le (Nat.le_of_ble_eq_true rfl) hn) rfl rfl rfl ?_
        refine q_aload_n dX10_tryFit_68 rfl ?_
        refine q_iload dX10_tryFit_69 rfl ?_
        refine u_puti dX10_tryFit_71 fX10_369 rfl rfl (Nat.lt_of_lt_of_le (Nat.le_of_ble_eq_true rfl) hn) rfl rfl rfl ?_
        cases h
        exact q_vret dX10_tryFit_74 rfl ⟨rfl, rfl⟩
  · have h := q_if hc h
    refine q_aload_n dX10_tryFit_9 rfl ?_
    refine u_getr dX10_tryFit_10 fX10_19 rfl rfl (Nat.lt_of_lt_of_le (Nat.le_of_ble_eq_true rfl) hn) (hF 58 4 62 rfl) ?_
    refine q_iload dX10_tryFit_13 rfl ?_
    refine q_iconst (v := 1) dX10_tryFit_15 (by decide) ?_
    refine q_iload dX10_tryFit_16 rfl ?_
    refine q_ishl dX10_tryFit_18 ?_
    obtain ⟨hi5, h⟩ := q_is h
    refine u_iast dX10_tryFit_19 rfl (Nat.lt_of_lt_of_le (Nat.le_of_ble_eq_true rfl) hn) (q_in_vp hi5) ?_
    refine q_aload_n dX10_tryFit_20 rfl ?_
    refine q_iload_n dX10_tryFit_21 rfl ?_
    refine q_iload_n dX10_tryFit_22 rfl ?_
    refine q_iload_n dX10_tryFit_23 rfl ?_
    refine q_iload dX10_tryFit_24 rfl ?_
    obtain ⟨r6, hr7, h⟩ := q_bd h
    refine c_V1 (as := [_, _, _, _]) (st := []) (ci := 10) dX10_tryFit_26 okX10_misfit lX10_356 ⟨rfl, rfl⟩ ⟨Nat.le_of_ble_eq_true rfl, Nat.le_of_ble_eq_true rfl⟩ (by decide) rfl rfl (Nat.lt_of_lt_of_le (Nat.le_of_ble_eq_true rfl) hn) rfl rfl (Nat.le_of_ble_eq_true rfl) (Nat.le_of_ble_eq_true rfl) (t_X10_misfit hn hF  hr7) ?_
    refine q_lstore (ls' := [(0, _), (4, _), (5, _), (6, _), (7, _)]) [0, 4, 5, 6, 7] dX10_tryFit_29 (Nat.le_of_ble_eq_true rfl) rfl ?_
    refine q_aload_n dX10_tryFit_31 rfl ?_
    refine u_getl dX10_tryFit_32 fX10_360 rfl rfl (Nat.lt_of_lt_of_le (Nat.le_of_ble_eq_true rfl) hn) ?_
    refine q_lconst (v := 0) dX10_tryFit_35 (by decide) ?_
    refine q_lcmp_lt 50 dX10_tryFit_36 dX10_tryFit_37 (by decide) (fun hc => ?_) (fun hc => ?_)
    · have h := q_it hc h
      refine q_aload_n dX10_tryFit_50 rfl ?_
      refine q_lload dX10_tryFit_51 rfl ?_
      refine u_putl dX10_tryFit_53 fX10_360 rfl rfl (Nat.lt_of_lt_of_le (Nat.le_of_ble_eq_true rfl) hn) rfl rfl rfl ?_
      refine q_aload_n dX10_tryFit_56 rfl ?_
      refine q_iload dX10_tryFit_57 rfl ?_
      refine u_puti dX10_tryFit_59 fX10_363 rfl rfl (Nat.lt_of_lt_of_le (Nat.le_of_ble_eq_true rfl) hn) rfl rfl rfl ?_
      refine q_aload_n dX10_tryFit_62 rfl ?_
      refine q_iload dX10_tryFit_63 rfl ?_
      refine u_puti dX10_tryFit_65 fX10_366 rfl rfl (Nat.lt_of_lt_of_le (Nat.le_of_ble_eq_true rfl) hn) rfl rfl rfl ?_
      refine q_aload_n dX10_tryFit_68 rfl ?_
      refine q_iload dX10_tryFit_69 rfl ?_
      refine u_puti dX10_tryFit_71 fX10_369 rfl rfl (Nat.lt_of_lt_of_le (Nat.le_of_ble_eq_true rfl) hn) rfl rfl rfl ?_
      cases h
      exact q_vret dX10_tryFit_74 rfl ⟨rfl, rfl⟩
    · have h := q_if hc h
      refine q_lload dX10_tryFit_40 rfl ?_
      refine q_aload_n dX10_tryFit_42 rfl ?_
      refine u_getl dX10_tryFit_43 fX10_360 rfl rfl (Nat.lt_of_lt_of_le (Nat.le_of_ble_eq_true rfl) hn) ?_
      refine q_lcmp_ge 74 dX10_tryFit_46 dX10_tryFit_47 (by decide) (fun hc => ?_) (fun hc => ?_)
      · have h := q_it hc h
        cases h
        exact q_vret dX10_tryFit_74 rfl ⟨rfl, rfl⟩
      · have h := q_if hc h
        refine q_aload_n dX10_tryFit_50 rfl ?_
        refine q_lload dX10_tryFit_51 rfl ?_
        refine u_putl dX10_tryFit_53 fX10_360 rfl rfl (Nat.lt_of_lt_of_le (Nat.le_of_ble_eq_true rfl) hn) rfl rfl rfl ?_
        refine q_aload_n dX10_tryFit_56 rfl ?_
        refine q_iload dX10_tryFit_57 rfl ?_
        refine u_puti dX10_tryFit_59 fX10_363 rfl rfl (Nat.lt_of_lt_of_le (Nat.le_of_ble_eq_true rfl) hn) rfl rfl rfl ?_
        refine q_aload_n dX10_tryFit_62 rfl ?_
        refine q_iload dX10_tryFit_63 rfl ?_
        refine u_puti dX10_tryFit_65 fX10_366 rfl rfl (Nat.lt_of_lt_of_le (Nat.le_of_ble_eq_true rfl) hn) rfl rfl rfl ?_
        refine q_aload_n dX10_tryFit_68 rfl ?_
        refine q_iload dX10_tryFit_69 rfl ?_
        refine u_puti dX10_tryFit_71 fX10_369 rfl rfl (Nat.lt_of_lt_of_le (Nat.le_of_ble_eq_true rfl) hn) rfl rfl rfl ?_
        cases h
        exact q_vret dX10_tryFit_74 rfl ⟨rfl, rfl⟩
def l_X10_told_103 : Nat → Int32 → Int32 → Int32 → Int32 → Int32 → Int32 → Int32 → Int32 → q_Mm → Option (q_Mm)
  | 0, _, _, _, _, _, _, _, _, _ => none
  | k + 1, y1, y2, y3, y4, y5, y6, y7, y8, m =>
    if q_in (m.1 58 3) 4 = true then
    if (m.1 61 (m.1 58 3).toNatClampNeg) ≤ y8 then
      some (m)
    else
      (f_X10_tryFit y1 y2 y3 y6 y7 y8 m).bind fun r4 =>
      l_X10_told_103 k  y1 y2 y3 y4 y5 y6 y7 (y8 + 1) r4
    else none
set_option maxRecDepth 100000 in
set_option maxHeartbeats 4000000 in
theorem t_l_X10_told_103 {g : q_G} {n : Nat} {F : Nat → Nat → Option Nat} {Z : List Frame → Array Value → State → State → Prop} {kc ks : Nat} (hn : 89 ≤ n) (hF : q_FF F)  : ∀ (k : Nat) (y1 : Int32) (y2 : Int32) (y3 : Int32) (y4 : Int32) (y5 : Int32) (y6 : Int32) (y7 : Int32) (y8 : Int32) (m : q_Mm) {r : q_Mm}, l_X10_told_103 k y1 y2 y3 y4 y5 y6 y7 y8 m = some r → (q_V g mX10_told q_T Z kc ks 136 [(0, q_r g 58), (1, .int y1), (2, .int y2), (3, .int y3), (4, .int y4), (5, .int y5), (6, .int y6), (7, .int y7)] [] (q_mk n F r)) → q_V g mX10_told q_T Z kc ks 103 [(0, q_r g 58), (1, .int y1), (2, .int y2), (3, .int y3), (4, .int y4), (5, .int y5), (6, .int y6), (7, .int y7), (8, .int y8)] [] (q_mk n F m) := by
  intro k
  induction k with
  | zero => intro y1 y2 y3 y4 y5 y6 y7 y8 m r h; cases h
  | succ k ih =>
    intro y1 y2 y3 y4 y5 y6 y7 y8 m r h hx0
    unfold l_X10_told_103 at h
    refine q_iload dX10_told_103 rfl ?_
    refine q_aload_n dX10_told_105 rfl ?_
    refine u_getr dX10_told_106 fX10_16 rfl rfl (Nat.lt_of_lt_of_le (Nat.le_of_ble_eq_true rfl) hn) (hF 58 2 61 rfl) ?_
    refine q_aload_n dX10_told_109 rfl ?_
    refine u_geti dX10_told_110 fX10_177 rfl rfl (Nat.lt_of_lt_of_le (Nat.le_of_ble_eq_true rfl) hn) ?_
    obtain ⟨hi3, h⟩ := q_is h
    refine u_iald dX10_told_113 rfl (Nat.lt_of_lt_of_le (Nat.le_of_ble_eq_true rfl) hn) (q_in_vp hi3) ?_
    refine q_icmp_ge 136 dX10_told_114 (by decide) (fun hc => ?_) (fun hc => ?_)
    · have h := q_it hc h
      refine q_drop [0, 1, 2, 3, 4, 5, 6, 7] (ls' := [(0, _), (1, _), (2, _), (3, _), (4, _), (5, _), (6, _), (7, _)]) rfl ?_
      cases h
      exact hx0
    · have h := q_if hc h
      refine q_aload_n dX10_told_117 rfl ?_
      refine q_iload_n dX10_told_118 rfl ?_
      refine q_iload_n dX10_told_119 rfl ?_
      refine q_iload_n dX10_told_120 rfl ?_
      refine q_iload dX10_told_121 rfl ?_
      refine q_iload dX10_told_123 rfl ?_
      refine q_iload dX10_told_125 rfl ?_
      obtain ⟨r4, hr5, h⟩ := q_bd h
      refine c_V0 (as := [_, _, _, _, _, _]) (st := []) (ci := 10) dX10_told_127 okX10_tryFit lX10_372 ⟨rfl, rfl⟩ ⟨Nat.le_of_ble_eq_true rfl, Nat.le_of_ble_eq_true rfl⟩ (by decide) rfl rfl (Nat.lt_of_lt_of_le (Nat.le_of_ble_eq_true rfl) hn) rfl rfl (Nat.le_of_ble_eq_true rfl) (Nat.le_of_ble_eq_true rfl) (t_X10_tryFit hn hF  hr5) ?_
      refine q_iinc1 (w := 1) (ls' := [(0, _), (1, _), (2, _), (3, _), (4, _), (5, _), (6, _), (7, _), (8, _)]) [0, 1, 2, 3, 4, 5, 6, 7, 8] dX10_told_130 rfl (by decide) (Nat.le_of_ble_eq_true rfl) rfl ?_
      refine q_goto 103 dX10_told_133 (by decide) ?_
      exact ih _ _ _ _ _ _ _ _ _ h hx0
def l_X10_told_93 : Nat → Int32 → Int32 → Int32 → Int32 → Int32 → Int32 → Int32 → q_Mm → Option (q_Mm)
  | 0, _, _, _, _, _, _, _, _ => none
  | k + 1, y1, y2, y3, y4, y5, y6, y7, m =>
    if 10 ≤ y7 then
      some (m)
    else
      (l_X10_told_103 7000  y1 y2 y3 y4 y5 y6 y7 0 m).bind fun r6 =>
      l_X10_told_93 k  y1 y2 y3 y4 y5 y6 (y7 + 1) r6
set_option maxRecDepth 100000 in
set_option maxHeartbeats 4000000 in
theorem t_l_X10_told_93 {g : q_G} {n : Nat} {F : Nat → Nat → Option Nat} {Z : List Frame → Array Value → State → State → Prop} {kc ks : Nat} (hn : 89 ≤ n) (hF : q_FF F)  : ∀ (k : Nat) (y1 : Int32) (y2 : Int32) (y3 : Int32) (y4 : Int32) (y5 : Int32) (y6 : Int32) (y7 : Int32) (m : q_Mm) {r : q_Mm}, l_X10_told_93 k y1 y2 y3 y4 y5 y6 y7 m = some r → (q_V g mX10_told q_T Z kc ks 142 [(0, q_r g 58), (1, .int y1), (2, .int y2), (3, .int y3), (4, .int y4), (5, .int y5)] [] (q_mk n F r)) → q_V g mX10_told q_T Z kc ks 93 [(0, q_r g 58), (1, .int y1), (2, .int y2), (3, .int y3), (4, .int y4), (5, .int y5), (6, .int y6), (7, .int y7)] [] (q_mk n F m) := by
  intro k
  induction k with
  | zero => intro y1 y2 y3 y4 y5 y6 y7 m r h; cases h
  | succ k ih =>
    intro y1 y2 y3 y4 y5 y6 y7 m r h hx0
    unfold l_X10_told_93 at h
    refine q_iload dX10_told_93 rfl ?_
    refine q_bipush (v := 10) dX10_told_95 (by decide) ?_
    refine q_icmp_ge 142 dX10_told_97 (by decide) (fun hc => ?_) (fun hc => ?_)
    · have h := q_it hc h
      refine q_drop [0, 1, 2, 3, 4, 5] (ls' := [(0, _), (1, _), (2, _), (3, _), (4, _), (5, _)]) rfl ?_
      cases h
      exact hx0
    · have h := q_if hc h
      refine q_iconst (v := 0) dX10_told_100 (by decide) ?_
      refine q_istore (ls' := [(0, _), (1, _), (2, _), (3, _), (4, _), (5, _), (6, _), (7, _), (8, _)]) [0, 1, 2, 3, 4, 5, 6, 7, 8] dX10_told_101 (Nat.le_of_ble_eq_true rfl) rfl ?_
      obtain ⟨r6, hr7, h⟩ := q_bd h
      refine t_l_X10_told_103 hn hF  7000 _ _ _ _ _ _ _ _ _ hr7 ?_
      refine q_iinc1 (w := 1) (ls' := [(0, _), (1, _), (2, _), (3, _), (4, _), (5, _), (6, _), (7, _)]) [0, 1, 2, 3, 4, 5, 6, 7] dX10_told_136 rfl (by decide) (Nat.le_of_ble_eq_true rfl) rfl ?_
      refine q_goto 93 dX10_told_139 (by decide) ?_
      exact ih _ _ _ _ _ _ _ _ h hx0
def l_X10_told_47 : Nat → Int32 → Int32 → Int32 → Int32 → Int32 → q_Mm → Option (q_Mm)
  | 0, _, _, _, _, _, _ => none
  | k + 1, y1, y2, y3, y4, y5, m =>
    if 11 ≤ y5 then
      some (m)
    else
      if (q_rm y5 2) = 0 then
        (f_X10_tryFit y1 y2 y3 (y5 / 2) (-6) (-6) m).bind fun r10 =>
        (l_X10_told_93 7000  y1 y2 y3 y4 y5 (y5 / 2) 0 r10).bind fun r12 =>
        l_X10_told_47 k  y1 y2 y3 y4 (y5 + 1) r12
      else
        (f_X10_tryFit y1 y2 y3 ((-(y5 + 1)) / 2) (-6) (-6) m).bind fun r1 =>
        (l_X10_told_93 7000  y1 y2 y3 y4 y5 ((-(y5 + 1)) / 2) 0 r1).bind fun r8 =>
        l_X10_told_47 k  y1 y2 y3 y4 (y5 + 1) r8
set_option maxRecDepth 100000 in
set_option maxHeartbeats 4000000 in
theorem t_l_X10_told_47 {g : q_G} {n : Nat} {F : Nat → Nat → Option Nat} {Z : List Frame → Array Value → State → State → Prop} {kc ks : Nat} (hn : 89 ≤ n) (hF : q_FF F)  : ∀ (k : Nat) (y1 : Int32) (y2 : Int32) (y3 : Int32) (y4 : Int32) (y5 : Int32) (m : q_Mm) {r : q_Mm}, l_X10_told_47 k y1 y2 y3 y4 y5 m = some r → (q_V g mX10_told q_T Z kc ks 148 [(0, q_r g 58), (4, .int y4)] [] (q_mk n F r)) → q_V g mX10_told q_T Z kc ks 47 [(0, q_r g 58), (1, .int y1), (2, .int y2), (3, .int y3), (4, .int y4), (5, .int y5)] [] (q_mk n F m) := by
  intro k
  induction k with
  | zero => intro y1 y2 y3 y4 y5 m r h; cases h
  | succ k ih =>
    intro y1 y2 y3 y4 y5 m r h hx0
    unfold l_X10_told_47 at h
    refine q_iload dX10_told_47 rfl ?_
    refine q_bipush (v := 11) dX10_told_49 (by decide) ?_
    refine q_icmp_ge 148 dX10_told_51 (by decide) (fun hc => ?_) (fun hc => ?_)
    · have h := q_it hc h
      refine q_drop [0, 4] (ls' := [(0, _), (4, _)]) rfl ?_
      cases h
      exact hx0
    · have h := q_if hc h
      refine q_iload dX10_told_54 rfl ?_
      refine q_iconst (v := 2) dX10_told_56 (by decide) ?_
      refine q_irm dX10_told_57 (by decide) ?_
      refine q_if_ne 68 dX10_told_58 (by decide) (fun hc => ?_) (fun hc => ?_)
      · have h := q_if hc h
        refine q_iload dX10_told_68 rfl ?_
        refine q_iconst (v := 1) dX10_told_70 (by decide) ?_
        refine q_iadd dX10_told_71 ?_
        refine q_ineg dX10_told_72 ?_
        refine q_iconst (v := 2) dX10_told_73 (by decide) ?_
        refine q_idiv dX10_told_74 (by decide) ?_
        refine q_istore (ls' := [(0, _), (1, _), (2, _), (3, _), (4, _), (5, _), (6, _)]) [0, 1, 2, 3, 4, 5, 6] dX10_told_75 (Nat.le_of_ble_eq_true rfl) rfl ?_
        refine q_aload_n dX10_told_77 rfl ?_
        refine q_iload_n dX10_told_78 rfl ?_
        refine q_iload_n dX10_told_79 rfl ?_
        refine q_iload_n dX10_told_80 rfl ?_
        refine q_iload dX10_told_81 rfl ?_
        refine q_bipush (v := (-6)) dX10_told_83 (by decide) ?_
        refine q_bipush (v := (-6)) dX10_told_85 (by decide) ?_
        obtain ⟨r1, hr2, h⟩ := q_bd h
        refine c_V0 (as := [_, _, _, _, _, _]) (st := []) (ci := 10) dX10_told_87 okX10_tryFit lX10_372 ⟨rfl, rfl⟩ ⟨Nat.le_of_ble_eq_true rfl, Nat.le_of_ble_eq_true rfl⟩ (by decide) rfl rfl (Nat.lt_of_lt_of_le (Nat.le_of_ble_eq_true rfl) hn) rfl rfl (Nat.le_of_ble_eq_true rfl) (Nat.le_of_ble_eq_true rfl) (t_X10_tryFit hn hF  hr2) ?_
        refine q_iconst (v := 0) dX10_told_90 (by decide) ?_
        refine q_istore (ls' := [(0, _), (1, _), (2, _), (3, _), (4, _), (5, _), (6, _), (7, _)]) [0, 1, 2, 3, 4, 5, 6, 7] dX10_told_91 (Nat.le_of_ble_eq_true rfl) rfl ?_
        obtain ⟨r8, hr9, h⟩ := q_bd h
        refine t_l_X10_told_93 hn hF  7000 _ _ _ _ _ _ _ _ hr9 ?_
        refine q_iinc1 (w := 1) (ls' := [(0, _), (1, _), (2, _), (3, _), (4, _), (5, _)]) [0, 1, 2, 3, 4, 5] dX10_told_142 rfl (by decide) (Nat.le_of_ble_eq_true rfl) rfl ?_
        refine q_goto 47 dX10_told_145 (by decide) ?_
        exact ih _ _ _ _ _ _ h hx0
      · have h := q_it hc h
        refine q_iload dX10_told_61 rfl ?_
        refine q_iconst (v := 2) dX10_told_63 (by decide) ?_
        refine q_idiv dX10_told_64 (by decide) ?_
        refine q_goto 75 dX10_told_65 (by decide) ?_
        refine q_istore (ls' := [(0, _), (1, _), (2, _), (3, _), (4, _), (5, _), (6, _)]) [0, 1, 2, 3, 4, 5, 6] dX10_told_75 (Nat.le_of_ble_eq_true rfl) rfl ?_
        refine q_aload_n dX10_told_77 rfl ?_
        refine q_iload_n dX10_told_78 rfl ?_
        refine q_iload_n dX10_told_79 rfl ?_
        refine q_iload_n dX10_told_80 rfl ?_
        refine q_iload dX10_told_81 rfl ?_
        refine q_bipush (v := (-6)) dX10_told_83 (by decide) ?_
        refine q_bipush (v := (-6)) dX10_told_85 (by decide) ?_
        obtain ⟨r10, hr11, h⟩ := q_bd h
        refine c_V0 (as := [_, _, _, _, _, _]) (st := []) (ci := 10) dX10_told_87 okX10_tryFit lX10_372 ⟨rfl, rfl⟩ ⟨Nat.le_of_ble_eq_true rfl, Nat.le_of_ble_eq_true rfl⟩ (by decide) rfl rfl (Nat.lt_of_lt_of_le (Nat.le_of_ble_eq_true rfl) hn) rfl rfl (Nat.le_of_ble_eq_true rfl) (Nat.le_of_ble_eq_true rfl) (t_X10_tryFit hn hF  hr11) ?_
        refine q_iconst (v := 0) dX10_told_90 (by decide) ?_
        refine q_istore (ls' := [(0, _), (1, _), (2, _), (3, _), (4, _), (5, _), (6, _), (7, _)]) [0, 1, 2, 3, 4, 5, 6, 7] dX10_told_91 (Nat.le_of_ble_eq_true rfl) rfl ?_
        obtain ⟨r12, hr13, h⟩ := q_bd h
        refine t_l_X10_told_93 hn hF  7000 _ _ _ _ _ _ _ _ hr13 ?_
        refine q_iinc1 (w := 1) (ls' := [(0, _), (1, _), (2, _), (3, _), (4, _), (5, _)]) [0, 1, 2, 3, 4, 5] dX10_told_142 rfl (by decide) (Nat.le_of_ble_eq_true rfl) rfl ?_
        refine q_goto 47 dX10_told_145 (by decide) ?_
        exact ih _ _ _ _ _ _ h hx0
def f_X10_told (x1 : Int32) (x2 : Int32) (x3 : Int32) (x4 : Int32) (m : q_Mm) : Option (Int64 × q_Mm) :=
  if (f_X10_isStart x1 x2 x3 m) = 0 then
    some (((-1000000000002), m))
  else
    if (f_X10_in x4.toInt64 0 3 m) = 0 then
      some (((-1000000000002), m))
    else
      if (m.1 58 47) = 0 then
        some (((-1000000000003), m))
      else
        (l_X10_told_47 7000  x1 x2 x3 x4 0 (q_wl m 58 48 (-1))).bind fun r14 =>
        if x4 = 0 then
          some ((r14.2 58 48, r14))
        else
          if x4 = 1 then
            some (((r14.1 58 49).toInt64, r14))
          else
            if x4 = 2 then
              some (((r14.1 58 50).toInt64, r14))
            else
              some (((r14.1 58 51).toInt64, r14))
set_option maxRecDepth 100000 in
set_option maxHeartbeats 4000000 in
theorem t_X10_told {g : q_G} {n : Nat} {F : Nat → Nat → Option Nat} (hn : 89 ≤ n) (hF : q_FF F)  {x1 : Int32} {x2 : Int32} {x3 : Int32} {x4 : Int32} {m : q_Mm} {r : Int64 × q_Mm} (h : f_X10_told x1 x2 x3 x4 m = some r) : q_Cn g mX10_told [q_r g 58, .int x1, .int x2, .int x3, .int x4] (q_mk n F m) (q_Q (some (.long r.1)) (q_mk n F r.2)) := by
  unfold f_X10_told at h
  show q_V g mX10_told q_T _ _ _ 0 [(0, q_r g 58), (1, .int x1), (2, .int x2), (3, .int x3), (4, .int x4)] [] (q_mk n F m)
  refine q_iload_n dX10_told_0 rfl ?_
  refine q_iload_n dX10_told_1 rfl ?_
  refine q_iload_n dX10_told_2 rfl ?_
  refine c_S1 (as := [_, _, _]) (st := []) dX10_told_3 okX10_isStart lX10_186 ⟨rfl, rfl⟩ ⟨Nat.le_of_ble_eq_true rfl, Nat.le_of_ble_eq_true rfl⟩ rfl rfl (Nat.le_of_ble_eq_true rfl) (Nat.le_of_ble_eq_true rfl) (t_X10_isStart hn hF  rfl) ?_
  refine q_if_eq 22 dX10_told_6 (by decide) (fun hc => ?_) (fun hc => ?_)
  · have h := q_it hc h
    refine q_ldc2 dX10_told_22 kX10_171 ?_
    cases h
    exact q_lret dX10_told_25 rfl ⟨rfl, rfl⟩
  · have h := q_if hc h
    refine q_iload dX10_told_9 rfl ?_
    refine q_i2l dX10_told_11 ?_
    refine q_lconst (v := 0) dX10_told_12 (by decide) ?_
    refine q_ldc2 dX10_told_13 kX10_120 ?_
    refine c_S1 (as := [_, _, _]) (st := []) dX10_told_16 okX10_in lX10_122 ⟨rfl, rfl⟩ ⟨Nat.le_of_ble_eq_true rfl, Nat.le_of_ble_eq_true rfl⟩ rfl rfl (Nat.le_of_ble_eq_true rfl) (Nat.le_of_ble_eq_true rfl) (t_X10_in hn hF  rfl) ?_
    refine q_if_ne 26 dX10_told_19 (by decide) (fun hc => ?_) (fun hc => ?_)
    · have h := q_if hc h
      refine q_aload_n dX10_told_26 rfl ?_
      refine u_geti dX10_told_27 fX10_349 rfl rfl (Nat.lt_of_lt_of_le (Nat.le_of_ble_eq_true rfl) hn) ?_
      refine q_if_ne 37 dX10_told_30 (by decide) (fun hc => ?_) (fun hc => ?_)
      · have h := q_if hc h
        refine q_aload_n dX10_told_37 rfl ?_
        refine q_ldc2 dX10_told_38 kX10_219 ?_
        refine u_putl dX10_told_41 fX10_360 rfl rfl (Nat.lt_of_lt_of_le (Nat.le_of_ble_eq_true rfl) hn) rfl rfl rfl ?_
        refine q_iconst (v := 0) dX10_told_44 (by decide) ?_
        refine q_istore (ls' := [(0, _), (1, _), (2, _), (3, _), (4, _), (5, _)]) [0, 1, 2, 3, 4, 5] dX10_told_45 (Nat.le_of_ble_eq_true rfl) rfl ?_
        obtain ⟨r14, hr15, h⟩ := q_bd h
        refine t_l_X10_told_47 hn hF  7000 _ _ _ _ _ _ hr15 ?_
        refine q_iload dX10_told_148 rfl ?_
        refine q_if_ne 160 dX10_told_150 (by decide) (fun hc => ?_) (fun hc => ?_)
        · have h := q_if hc h
          refine q_iload dX10_told_160 rfl ?_
          refine q_iconst (v := 1) dX10_told_162 (by decide) ?_
          refine q_icmp_ne 174 dX10_told_163 (by decide) (fun hc => ?_) (fun hc => ?_)
          · have h := q_if hc h
            refine q_iload dX10_told_174 rfl ?_
            refine q_iconst (v := 2) dX10_told_176 (by decide) ?_
            refine q_icmp_ne 188 dX10_told_177 (by decide) (fun hc => ?_) (fun hc => ?_)
            · have h := q_if hc h
              refine q_aload_n dX10_told_188 rfl ?_
              refine u_geti dX10_told_189 fX10_369 rfl rfl (Nat.lt_of_lt_of_le (Nat.le_of_ble_eq_true rfl) hn) ?_
              refine q_i2l dX10_told_192 ?_
              cases h
              exact q_lret dX10_told_193 rfl ⟨rfl, rfl⟩
            · have h := q_it hc h
              refine q_aload_n dX10_told_180 rfl ?_
              refine u_geti dX10_told_181 fX10_366 rfl rfl (Nat.lt_of_lt_of_le (Nat.le_of_ble_eq_true rfl) hn) ?_
              refine q_i2l dX10_told_184 ?_
              refine q_goto 193 dX10_told_185 (by decide) ?_
              cases h
              exact q_lret dX10_told_193 rfl ⟨rfl, rfl⟩
          · have h := q_it hc h
            refine q_aload_n dX10_told_166 rfl ?_
            refine u_geti dX10_told_167 fX10_363 rfl rfl (Nat.lt_of_lt_of_le (Nat.le_of_ble_eq_true rfl) hn) ?_
            refine q_i2l dX10_told_170 ?_
            refine q_goto 193 dX10_told_171 (by decide) ?_
            cases h
            exact q_lret dX10_told_193 rfl ⟨rfl, rfl⟩
        · have h := q_it hc h
          refine q_aload_n dX10_told_153 rfl ?_
          refine u_getl dX10_told_154 fX10_360 rfl rfl (Nat.lt_of_lt_of_le (Nat.le_of_ble_eq_true rfl) hn) ?_
          refine q_goto 193 dX10_told_157 (by decide) ?_
          cases h
          exact q_lret dX10_told_193 rfl ⟨rfl, rfl⟩
      · have h := q_it hc h
        refine q_ldc2 dX10_told_33 kX10_217 ?_
        cases h
        exact q_lret dX10_told_36 rfl ⟨rfl, rfl⟩
    · have h := q_it hc h
      refine q_ldc2 dX10_told_22 kX10_171 ?_
      cases h
      exact q_lret dX10_told_25 rfl ⟨rfl, rfl⟩
def l_X10_about_28 : Nat → Int32 → Int32 → Int32 → q_Mm → Option (Int32)
  | 0, _, _, _, _ => none
  | k + 1, y1, y2, y3, m =>
    if 144 ≤ y3 then
      some (y2)
    else
      if q_in y3 144 = true then
      if 0 ≤ (m.1 81 y3.toNatClampNeg) then
        l_X10_about_28 k  y1 (y2 + 0) (y3 + 1) m
      else
        l_X10_about_28 k  y1 (y2 + 1) (y3 + 1) m
      else none
set_option maxRecDepth 100000 in
set_option maxHeartbeats 4000000 in
theorem t_l_X10_about_28 {g : q_G} {n : Nat} {F : Nat → Nat → Option Nat} {Z : List Frame → Array Value → State → State → Prop} {kc ks : Nat} (hn : 89 ≤ n) (hF : q_FF F)  : ∀ (k : Nat) (y1 : Int32) (y2 : Int32) (y3 : Int32) (m : q_Mm) {r : Int32}, l_X10_about_28 k y1 y2 y3 m = some r → (q_V g mX10_about q_T Z kc ks 58 [(0, q_r g 58), (1, .int y1), (2, .int r)] [] (q_mk n F m)) → q_V g mX10_about q_T Z kc ks 28 [(0, q_r g 58), (1, .int y1), (2, .int y2), (3, .int y3)] [] (q_mk n F m) := by
  intro k
  induction k with
  | zero => intro y1 y2 y3 m r h; cases h
  | succ k ih =>
    intro y1 y2 y3 m r h hx0
    unfold l_X10_about_28 at h
    refine q_iload_n dX10_about_28 rfl ?_
    refine q_sipush (v := 144) dX10_about_29 (by decide) ?_
    refine q_icmp_ge 58 dX10_about_32 (by decide) (fun hc => ?_) (fun hc => ?_)
    · have h := q_it hc h
      refine q_drop [0, 1, 2] (ls' := [(0, _), (1, _), (2, _)]) rfl ?_
      cases h
      exact hx0
    · have h := q_if hc h
      refine q_iload_n dX10_about_35 rfl ?_
      refine q_aload_n dX10_about_36 rfl ?_
      refine u_getr dX10_about_37 fX10_91 rfl rfl (Nat.lt_of_lt_of_le (Nat.le_of_ble_eq_true rfl) hn) (hF 58 36 81 rfl) ?_
      refine q_iload_n dX10_about_40 rfl ?_
      obtain ⟨hi1, h⟩ := q_is h
      refine u_iald dX10_about_41 rfl (Nat.lt_of_lt_of_le (Nat.le_of_ble_eq_true rfl) hn) (q_in_vp hi1) ?_
      refine q_if_ge 49 dX10_about_42 (by decide) (fun hc => ?_) (fun hc => ?_)
      · have h := q_it hc h
        refine q_iconst (v := 0) dX10_about_49 (by decide) ?_
        refine q_iadd dX10_about_50 ?_
        refine q_istore_n (ls' := [(0, _), (1, _), (2, _), (3, _)]) [0, 1, 2, 3] dX10_about_51 (Nat.le_of_ble_eq_true rfl) rfl ?_
        refine q_iinc1 (w := 1) (ls' := [(0, _), (1, _), (2, _), (3, _)]) [0, 1, 2, 3] dX10_about_52 rfl (by decide) (Nat.le_of_ble_eq_true rfl) rfl ?_
        refine q_goto 28 dX10_about_55 (by decide) ?_
        exact ih _ _ _ _ h hx0
      · have h := q_if hc h
        refine q_iconst (v := 1) dX10_about_45 (by decide) ?_
        refine q_goto 50 dX10_about_46 (by decide) ?_
        refine q_iadd dX10_about_50 ?_
        refine q_istore_n (ls' := [(0, _), (1, _), (2, _), (3, _)]) [0, 1, 2, 3] dX10_about_51 (Nat.le_of_ble_eq_true rfl) rfl ?_
        refine q_iinc1 (w := 1) (ls' := [(0, _), (1, _), (2, _), (3, _)]) [0, 1, 2, 3] dX10_about_52 rfl (by decide) (Nat.le_of_ble_eq_true rfl) rfl ?_
        refine q_goto 28 dX10_about_55 (by decide) ?_
        exact ih _ _ _ _ h hx0
def f_X10_about (x1 : Int32) (m : q_Mm) : Option (Int32) :=
  if (f_X10_in x1.toInt64 10 13 m) = 0 then
    (l_X10_about_28 7000  x1 0 0 m).bind fun r2 =>
    if x1 = 0 then
      some (m.1 58 3)
    else
    if x1 = 1 then
      some (m.1 58 11)
    else
    if x1 = 2 then
      some (m.1 58 15)
    else
    if x1 = 3 then
      some (m.1 58 16)
    else
    if x1 = 4 then
      some (m.1 58 17)
    else
    if x1 = 5 then
      some (m.1 58 34)
    else
    if x1 = 6 then
      some (r2)
    else
    if x1 = 7 then
      some (m.1 58 47)
    else
    some ((-2))
  else
    if q_in (x1 - 10) 4 = true then
    some (m.1 61 (x1 - 10).toNatClampNeg)
    else none
set_option maxRecDepth 100000 in
set_option maxHeartbeats 4000000 in
theorem t_X10_about {g : q_G} {n : Nat} {F : Nat → Nat → Option Nat} (hn : 89 ≤ n) (hF : q_FF F)  {x1 : Int32} {m : q_Mm} {r : Int32} (h : f_X10_about x1 m = some r) : q_Cn g mX10_about [q_r g 58, .int x1] (q_mk n F m) (q_Q (some (.int r)) (q_mk n F m)) := by
  unfold f_X10_about at h
  show q_V g mX10_about q_T _ _ _ 0 [(0, q_r g 58), (1, .int x1)] [] (q_mk n F m)
  refine q_iload_n dX10_about_0 rfl ?_
  refine q_i2l dX10_about_1 ?_
  refine q_ldc2 dX10_about_2 kX10_376 ?_
  refine q_ldc2 dX10_about_5 kX10_378 ?_
  refine c_S1 (as := [_, _, _]) (st := []) dX10_about_8 okX10_in lX10_122 ⟨rfl, rfl⟩ ⟨Nat.le_of_ble_eq_true rfl, Nat.le_of_ble_eq_true rfl⟩ rfl rfl (Nat.le_of_ble_eq_true rfl) (Nat.le_of_ble_eq_true rfl) (t_X10_in hn hF  rfl) ?_
  refine q_if_eq 24 dX10_about_11 (by decide) (fun hc => ?_) (fun hc => ?_)
  · have h := q_it hc h
    refine q_iconst (v := 0) dX10_about_24 (by decide) ?_
    refine q_istore_n (ls' := [(0, _), (1, _), (2, _)]) [0, 1, 2] dX10_about_25 (Nat.le_of_ble_eq_true rfl) rfl ?_
    refine q_iconst (v := 0) dX10_about_26 (by decide) ?_
    refine q_istore_n (ls' := [(0, _), (1, _), (2, _), (3, _)]) [0, 1, 2, 3] dX10_about_27 (Nat.le_of_ble_eq_true rfl) rfl ?_
    obtain ⟨r2, hr3, h⟩ := q_bd h
    refine t_l_X10_about_28 hn hF  7000 _ _ _ _ hr3 ?_
    refine q_iload_n dX10_about_58 rfl ?_
    by_cases hs59_0 : x1 = 0
    · have h := q_it hs59_0 h
      rw [hs59_0]
      refine q_tblIn 104 dX10_about_59 (by decide) (by decide) rfl (by decide) ?_
      refine q_aload_n dX10_about_104 rfl ?_
      refine u_geti dX10_about_105 fX10_177 rfl rfl (Nat.lt_of_lt_of_le (Nat.le_of_ble_eq_true rfl) hn) ?_
      cases h
      exact q_iret dX10_about_108 rfl ⟨rfl, rfl⟩
    have h := q_if hs59_0 h
    by_cases hs59_1 : x1 = 1
    · have h := q_it hs59_1 h
      rw [hs59_1]
      refine q_tblIn 109 dX10_about_59 (by decide) (by decide) rfl (by decide) ?_
      refine q_aload_n dX10_about_109 rfl ?_
      refine u_geti dX10_about_110 fX10_194 rfl rfl (Nat.lt_of_lt_of_le (Nat.le_of_ble_eq_true rfl) hn) ?_
      cases h
      exact q_iret dX10_about_113 rfl ⟨rfl, rfl⟩
    have h := q_if hs59_1 h
    by_cases hs59_2 : x1 = 2
    · have h := q_it hs59_2 h
      rw [hs59_2]
      refine q_tblIn 114 dX10_about_59 (by decide) (by decide) rfl (by decide) ?_
      refine q_aload_n dX10_about_114 rfl ?_
      refine u_geti dX10_about_115 fX10_201 rfl rfl (Nat.lt_of_lt_of_le (Nat.le_of_ble_eq_true rfl) hn) ?_
      cases h
      exact q_iret dX10_about_118 rfl ⟨rfl, rfl⟩
    have h := q_if hs59_2 h
    by_cases hs59_3 : x1 = 3
    · have h := q_it hs59_3 h
      rw [hs59_3]
      refine q_tblIn 119 dX10_about_59 (by decide) (by decide) rfl (by decide) ?_
      refine q_aload_n dX10_about_119 rfl ?_
      refine u_geti dX10_about_120 fX10_204 rfl rfl (Nat.lt_of_lt_of_le (Nat.le_of_ble_eq_true rfl) hn) ?_
      cases h
      exact q_iret dX10_about_123 rfl ⟨rfl, rfl⟩
    have h := q_if hs59_3 h
    by_cases hs59_4 : x1 = 4
    · have h := q_it hs59_4 h
      rw [hs59_4]
      refine q_tblIn 124 dX10_about_59 (by decide) (by decide) rfl (by decide) ?_
      refine q_aload_n dX10_about_124 rfl ?_
      refine u_geti dX10_about_125 fX10_207 rfl rfl (Nat.lt_of_lt_of_le (Nat.le_of_ble_eq_true rfl) hn) ?_
      cases h
      exact q_iret dX10_about_128 rfl ⟨rfl, rfl⟩
    have h := q_if hs59_4 h
    by_cases hs59_5 : x1 = 5
    · have h := q_it hs59_5 h
      rw [hs59_5]
      refine q_tblIn 129 dX10_about_59 (by decide) (by decide) rfl (by decide) ?_
      refine q_aload_n dX10_about_129 rfl ?_
      refine u_geti dX10_about_130 fX10_275 rfl rfl (Nat.lt_of_lt_of_le (Nat.le_of_ble_eq_true rfl) hn) ?_
      cases h
      exact q_iret dX10_about_133 rfl ⟨rfl, rfl⟩
    have h := q_if hs59_5 h
    by_cases hs59_6 : x1 = 6
    · have h := q_it hs59_6 h
      rw [hs59_6]
      refine q_tblIn 134 dX10_about_59 (by decide) (by decide) rfl (by decide) ?_
      refine q_iload_n dX10_about_134 rfl ?_
      cases h
      exact q_iret dX10_about_135 rfl ⟨rfl, rfl⟩
    have h := q_if hs59_6 h
    by_cases hs59_7 : x1 = 7
    · have h := q_it hs59_7 h
      rw [hs59_7]
      refine q_tblIn 136 dX10_about_59 (by decide) (by decide) rfl (by decide) ?_
      refine q_aload_n dX10_about_136 rfl ?_
      refine u_geti dX10_about_137 fX10_349 rfl rfl (Nat.lt_of_lt_of_le (Nat.le_of_ble_eq_true rfl) hn) ?_
      cases h
      exact q_iret dX10_about_140 rfl ⟨rfl, rfl⟩
    have h := q_if hs59_7 h
    refine q_tblOut 141 dX10_about_59 (q_out 8 (by decide) (fun k hk => ?_)) (by decide) ?_
    · match k, hk with
      | 0, _ => exact hs59_0
      | 1, _ => exact hs59_1
      | 2, _ => exact hs59_2
      | 3, _ => exact hs59_3
      | 4, _ => exact hs59_4
      | 5, _ => exact hs59_5
      | 6, _ => exact hs59_6
      | 7, _ => exact hs59_7
      | k + 8, hk => exact absurd hk (by omega)
    refine q_bipush (v := (-2)) dX10_about_141 (by decide) ?_
    cases h
    exact q_iret dX10_about_143 rfl ⟨rfl, rfl⟩
  · have h := q_if hc h
    refine q_aload_n dX10_about_14 rfl ?_
    refine u_getr dX10_about_15 fX10_16 rfl rfl (Nat.lt_of_lt_of_le (Nat.le_of_ble_eq_true rfl) hn) (hF 58 2 61 rfl) ?_
    refine q_iload_n dX10_about_18 rfl ?_
    refine q_bipush (v := 10) dX10_about_19 (by decide) ?_
    refine q_isub dX10_about_21 ?_
    obtain ⟨hi4, h⟩ := q_is h
    refine u_iald dX10_about_22 rfl (Nat.lt_of_lt_of_le (Nat.le_of_ble_eq_true rfl) hn) (q_in_vp hi4) ?_
    cases h
    exact q_iret dX10_about_23 rfl ⟨rfl, rfl⟩
