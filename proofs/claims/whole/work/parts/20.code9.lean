def f_X10_centre (x1 : Int32) (m : q_Mm) : (Int32 × q_Mm) :=
  if (f_X10_in x1.toInt64 1 20 m) = 0 then
    ((-2), m)
  else
    (m.1 58 20, q_wi m 58 20 x1)
set_option maxRecDepth 100000 in
set_option maxHeartbeats 4000000 in
theorem t_X10_centre {g : q_G} {n : Nat} {F : Nat → Nat → Option Nat} (hn : 89 ≤ n) (hF : q_FF F)  {x1 : Int32} {m : q_Mm} {r : Int32 × q_Mm} (h : f_X10_centre x1 m = r) : q_Cn g mX10_centre [q_r g 58, .int x1] (q_mk n F m) (q_Q (some (.int r.1)) (q_mk n F r.2)) := by
  unfold f_X10_centre at h
  show q_V g mX10_centre q_T _ _ _ 0 [(0, q_r g 58), (1, .int x1)] [] (q_mk n F m)
  refine q_iload_n dX10_centre_0 rfl ?_
  refine q_i2l dX10_centre_1 ?_
  refine q_lconst (v := 1) dX10_centre_2 (by decide) ?_
  refine q_ldc2 dX10_centre_3 kX10_184 ?_
  refine c_S1 (as := [_, _, _]) (st := []) dX10_centre_6 okX10_in lX10_122 ⟨rfl, rfl⟩ ⟨Nat.le_of_ble_eq_true rfl, Nat.le_of_ble_eq_true rfl⟩ rfl rfl (Nat.le_of_ble_eq_true rfl) (Nat.le_of_ble_eq_true rfl) (t_X10_in hn hF  rfl) ?_
  refine q_if_ne 15 dX10_centre_9 (by decide) (fun hc => ?_) (fun hc => ?_)
  · have h := q_if hc h
    refine q_aload_n dX10_centre_15 rfl ?_
    refine u_geti dX10_centre_16 fX10_50 rfl rfl (Nat.lt_of_lt_of_le (Nat.le_of_ble_eq_true rfl) hn) ?_
    refine q_istore_n (ls' := [(0, _), (1, _), (2, _)]) [0, 1, 2] dX10_centre_19 (Nat.le_of_ble_eq_true rfl) rfl ?_
    refine q_aload_n dX10_centre_20 rfl ?_
    refine q_iload_n dX10_centre_21 rfl ?_
    refine u_puti dX10_centre_22 fX10_50 rfl rfl (Nat.lt_of_lt_of_le (Nat.le_of_ble_eq_true rfl) hn) rfl rfl rfl ?_
    refine q_iload_n dX10_centre_25 rfl ?_
    subst h
    exact q_iret dX10_centre_26 rfl ⟨rfl, rfl⟩
  · have h := q_it hc h
    refine q_bipush (v := (-2)) dX10_centre_12 (by decide) ?_
    subst h
    exact q_iret dX10_centre_14 rfl ⟨rfl, rfl⟩
def f_X10_lurk (x1 : Int32) (x2 : Int32) (x3 : Int32) (x4 : Int32) (m : q_Mm) : (Int32 × q_Mm) :=
  if (f_X10_in x1.toInt64 (-2000000) 2000000 m) = 0 then
    ((-2), m)
  else
    if (f_X10_in x2.toInt64 (-2000000) 2000000 m) = 0 then
      ((-2), m)
    else
      if (f_X10_in x3.toInt64 1 20 m) = 0 then
        ((-2), m)
      else
        if (f_X10_in x4.toInt64 0 200000 m) = 0 then
          ((-2), m)
        else
          (1, q_wi (q_wi (q_wi (q_wi m 58 21 x1) 58 22 x2) 58 23 x3) 58 24 x4)
set_option maxRecDepth 100000 in
set_option maxHeartbeats 4000000 in
theorem t_X10_lurk {g : q_G} {n : Nat} {F : Nat → Nat → Option Nat} (hn : 89 ≤ n) (hF : q_FF F)  {x1 : Int32} {x2 : Int32} {x3 : Int32} {x4 : Int32} {m : q_Mm} {r : Int32 × q_Mm} (h : f_X10_lurk x1 x2 x3 x4 m = r) : q_Cn g mX10_lurk [q_r g 58, .int x1, .int x2, .int x3, .int x4] (q_mk n F m) (q_Q (some (.int r.1)) (q_mk n F r.2)) := by
  unfold f_X10_lurk at h
  show q_V g mX10_lurk q_T _ _ _ 0 [(0, q_r g 58), (1, .int x1), (2, .int x2), (3, .int x3), (4, .int x4)] [] (q_mk n F m)
  refine q_iload_n dX10_lurk_0 rfl ?_
  refine q_i2l dX10_lurk_1 ?_
  refine q_ldc2 dX10_lurk_2 kX10_233 ?_
  refine q_ldc2 dX10_lurk_5 kX10_235 ?_
  refine c_S1 (as := [_, _, _]) (st := []) dX10_lurk_8 okX10_in lX10_122 ⟨rfl, rfl⟩ ⟨Nat.le_of_ble_eq_true rfl, Nat.le_of_ble_eq_true rfl⟩ rfl rfl (Nat.le_of_ble_eq_true rfl) (Nat.le_of_ble_eq_true rfl) (t_X10_in hn hF  rfl) ?_
  refine q_if_eq 53 dX10_lurk_11 (by decide) (fun hc => ?_) (fun hc => ?_)
  · have h := q_it hc h
    refine q_bipush (v := (-2)) dX10_lurk_53 (by decide) ?_
    subst h
    exact q_iret dX10_lurk_55 rfl ⟨rfl, rfl⟩
  · have h := q_if hc h
    refine q_iload_n dX10_lurk_14 rfl ?_
    refine q_i2l dX10_lurk_15 ?_
    refine q_ldc2 dX10_lurk_16 kX10_233 ?_
    refine q_ldc2 dX10_lurk_19 kX10_235 ?_
    refine c_S1 (as := [_, _, _]) (st := []) dX10_lurk_22 okX10_in lX10_122 ⟨rfl, rfl⟩ ⟨Nat.le_of_ble_eq_true rfl, Nat.le_of_ble_eq_true rfl⟩ rfl rfl (Nat.le_of_ble_eq_true rfl) (Nat.le_of_ble_eq_true rfl) (t_X10_in hn hF  rfl) ?_
    refine q_if_eq 53 dX10_lurk_25 (by decide) (fun hc => ?_) (fun hc => ?_)
    · have h := q_it hc h
      refine q_bipush (v := (-2)) dX10_lurk_53 (by decide) ?_
      subst h
      exact q_iret dX10_lurk_55 rfl ⟨rfl, rfl⟩
    · have h := q_if hc h
      refine q_iload_n dX10_lurk_28 rfl ?_
      refine q_i2l dX10_lurk_29 ?_
      refine q_lconst (v := 1) dX10_lurk_30 (by decide) ?_
      refine q_ldc2 dX10_lurk_31 kX10_184 ?_
      refine c_S1 (as := [_, _, _]) (st := []) dX10_lurk_34 okX10_in lX10_122 ⟨rfl, rfl⟩ ⟨Nat.le_of_ble_eq_true rfl, Nat.le_of_ble_eq_true rfl⟩ rfl rfl (Nat.le_of_ble_eq_true rfl) (Nat.le_of_ble_eq_true rfl) (t_X10_in hn hF  rfl) ?_
      refine q_if_eq 53 dX10_lurk_37 (by decide) (fun hc => ?_) (fun hc => ?_)
      · have h := q_it hc h
        refine q_bipush (v := (-2)) dX10_lurk_53 (by decide) ?_
        subst h
        exact q_iret dX10_lurk_55 rfl ⟨rfl, rfl⟩
      · have h := q_if hc h
        refine q_iload dX10_lurk_40 rfl ?_
        refine q_i2l dX10_lurk_42 ?_
        refine q_lconst (v := 0) dX10_lurk_43 (by decide) ?_
        refine q_ldc2 dX10_lurk_44 kX10_237 ?_
        refine c_S1 (as := [_, _, _]) (st := []) dX10_lurk_47 okX10_in lX10_122 ⟨rfl, rfl⟩ ⟨Nat.le_of_ble_eq_true rfl, Nat.le_of_ble_eq_true rfl⟩ rfl rfl (Nat.le_of_ble_eq_true rfl) (Nat.le_of_ble_eq_true rfl) (t_X10_in hn hF  rfl) ?_
        refine q_if_ne 56 dX10_lurk_50 (by decide) (fun hc => ?_) (fun hc => ?_)
        · have h := q_if hc h
          refine q_aload_n dX10_lurk_56 rfl ?_
          refine q_iload_n dX10_lurk_57 rfl ?_
          refine u_puti dX10_lurk_58 fX10_55 rfl rfl (Nat.lt_of_lt_of_le (Nat.le_of_ble_eq_true rfl) hn) rfl rfl rfl ?_
          refine q_aload_n dX10_lurk_61 rfl ?_
          refine q_iload_n dX10_lurk_62 rfl ?_
          refine u_puti dX10_lurk_63 fX10_239 rfl rfl (Nat.lt_of_lt_of_le (Nat.le_of_ble_eq_true rfl) hn) rfl rfl rfl ?_
          refine q_aload_n dX10_lurk_66 rfl ?_
          refine q_iload_n dX10_lurk_67 rfl ?_
          refine u_puti dX10_lurk_68 fX10_58 rfl rfl (Nat.lt_of_lt_of_le (Nat.le_of_ble_eq_true rfl) hn) rfl rfl rfl ?_
          refine q_aload_n dX10_lurk_71 rfl ?_
          refine q_iload dX10_lurk_72 rfl ?_
          refine u_puti dX10_lurk_74 fX10_61 rfl rfl (Nat.lt_of_lt_of_le (Nat.le_of_ble_eq_true rfl) hn) rfl rfl rfl ?_
          refine q_iconst (v := 1) dX10_lurk_77 (by decide) ?_
          subst h
          exact q_iret dX10_lurk_78 rfl ⟨rfl, rfl⟩
        · have h := q_it hc h
          refine q_bipush (v := (-2)) dX10_lurk_53 (by decide) ?_
          subst h
          exact q_iret dX10_lurk_55 rfl ⟨rfl, rfl⟩
def f_X10_isWithin (x0 : Int64) (x2 : Int64) (x4 : Int64) (m : q_Mm) : (Int32) :=
  if (x4 * x4) < ((x0 * x0) + (x2 * x2)) then
    0
  else
    1
set_option maxRecDepth 100000 in
set_option maxHeartbeats 4000000 in
theorem t_X10_isWithin {g : q_G} {n : Nat} {F : Nat → Nat → Option Nat} (hn : 89 ≤ n) (hF : q_FF F)  {x0 : Int64} {x2 : Int64} {x4 : Int64} {m : q_Mm} {r : Int32} (h : f_X10_isWithin x0 x2 x4 m = r) : q_Cn g mX10_isWithin [.long x0, .long x2, .long x4] (q_mk n F m) (q_Q (some (.int r)) (q_mk n F m)) := by
  unfold f_X10_isWithin at h
  show q_V g mX10_isWithin q_T _ _ _ 0 [(0, .long x0), (2, .long x2), (4, .long x4)] [] (q_mk n F m)
  refine q_lload_n dX10_isWithin_0 rfl ?_
  refine q_lload_n dX10_isWithin_1 rfl ?_
  refine q_lmul dX10_isWithin_2 ?_
  refine q_lload_n dX10_isWithin_3 rfl ?_
  refine q_lload_n dX10_isWithin_4 rfl ?_
  refine q_lmul dX10_isWithin_5 ?_
  refine q_ladd dX10_isWithin_6 ?_
  refine q_lload dX10_isWithin_7 rfl ?_
  refine q_lload dX10_isWithin_9 rfl ?_
  refine q_lmul dX10_isWithin_11 ?_
  refine q_lcmp_gt 20 dX10_isWithin_12 dX10_isWithin_13 (by decide) (fun hc => ?_) (fun hc => ?_)
  · have h := q_it hc h
    refine q_iconst (v := 0) dX10_isWithin_20 (by decide) ?_
    subst h
    exact q_zret dX10_isWithin_21 rfl rfl ⟨rfl, rfl⟩
  · have h := q_if hc h
    refine q_iconst (v := 1) dX10_isWithin_16 (by decide) ?_
    refine q_goto 21 dX10_isWithin_17 (by decide) ?_
    subst h
    exact q_zret dX10_isWithin_21 rfl rfl ⟨rfl, rfl⟩
theorem b_X10_isWithin {x0 : Int64} {x2 : Int64} {x4 : Int64} {m : q_Mm} : q_bo (f_X10_isWithin x0 x2 x4 m) := by
  unfold f_X10_isWithin
  repeat' split
  all_goals first | exact Or.inl rfl | exact Or.inr rfl
def l_X10_comes_25 : Nat → Int32 → Int32 → q_Mm → Option ((Int32 × q_Mm) ⊕ (q_Mm))
  | 0, _, _, _ => none
  | k + 1, y1, y2, m =>
    if 600 < y2 then
      some (.inr m)
    else
      if (f_X10_isWithin ((m.2 58 5) - ((m.1 58 21).toInt64)) ((m.2 58 6) - ((m.1 58 22).toInt64)) (((1000 * ((m.1 58 23).toInt64)) * y2.toInt64) + ((m.1 58 24).toInt64)) m) = 0 then
        (f_X10_courseAt y1 y2 m).bind fun r3 =>
        l_X10_comes_25 k  y1 (y2 + 1) (f_X10_go r3 (m.1 58 20) m)
      else
        some (.inl (y2, m))
set_option maxRecDepth 100000 in
set_option maxHeartbeats 4000000 in
theorem t_l_X10_comes_25 {g : q_G} {n : Nat} {F : Nat → Nat → Option Nat} {Z : List Frame → Array Value → State → State → Prop} {kc ks : Nat} (hn : 89 ≤ n) (hF : q_FF F)  : ∀ (k : Nat) (y1 : Int32) (y2 : Int32) (m : q_Mm) {rr : (Int32 × q_Mm) ⊕ (q_Mm)}, l_X10_comes_25 k y1 y2 m = some rr → (∀ r, rr = .inl r → q_V g mX10_comes q_T Z kc ks 76 [(2, .int r.1)] [] (q_mk n F r.2)) → (∀ r, rr = .inr r → q_V g mX10_comes q_T Z kc ks 98 [] [] (q_mk n F r)) → q_V g mX10_comes q_T Z kc ks 25 [(0, q_r g 58), (1, .int y1), (2, .int y2)] [] (q_mk n F m) := by
  intro k
  induction k with
  | zero => intro y1 y2 m rr h; cases h
  | succ k ih =>
    intro y1 y2 m rr h hx0 hx1
    unfold l_X10_comes_25 at h
    refine q_iload_n dX10_comes_25 rfl ?_
    refine q_sipush (v := 600) dX10_comes_26 (by decide) ?_
    refine q_icmp_gt 98 dX10_comes_29 (by decide) (fun hc => ?_) (fun hc => ?_)
    · have h := q_it hc h
      refine q_drop [] (ls' := []) rfl ?_
      cases h
      exact hx1 _ rfl
    · have h := q_if hc h
      refine q_aload_n dX10_comes_32 rfl ?_
      refine u_getl dX10_comes_33 fX10_152 rfl rfl (Nat.lt_of_lt_of_le (Nat.le_of_ble_eq_true rfl) hn) ?_
      refine q_aload_n dX10_comes_36 rfl ?_
      refine u_geti dX10_comes_37 fX10_55 rfl rfl (Nat.lt_of_lt_of_le (Nat.le_of_ble_eq_true rfl) hn) ?_
      refine q_i2l dX10_comes_40 ?_
      refine q_lsub dX10_comes_41 ?_
      refine q_aload_n dX10_comes_42 rfl ?_
      refine u_getl dX10_comes_43 fX10_159 rfl rfl (Nat.lt_of_lt_of_le (Nat.le_of_ble_eq_true rfl) hn) ?_
      refine q_aload_n dX10_comes_46 rfl ?_
      refine u_geti dX10_comes_47 fX10_239 rfl rfl (Nat.lt_of_lt_of_le (Nat.le_of_ble_eq_true rfl) hn) ?_
      refine q_i2l dX10_comes_50 ?_
      refine q_lsub dX10_comes_51 ?_
      refine q_ldc2 dX10_comes_52 kX10_242 ?_
      refine q_aload_n dX10_comes_55 rfl ?_
      refine u_geti dX10_comes_56 fX10_58 rfl rfl (Nat.lt_of_lt_of_le (Nat.le_of_ble_eq_true rfl) hn) ?_
      refine q_i2l dX10_comes_59 ?_
      refine q_lmul dX10_comes_60 ?_
      refine q_iload_n dX10_comes_61 rfl ?_
      refine q_i2l dX10_comes_62 ?_
      refine q_lmul dX10_comes_63 ?_
      refine q_aload_n dX10_comes_64 rfl ?_
      refine u_geti dX10_comes_65 fX10_61 rfl rfl (Nat.lt_of_lt_of_le (Nat.le_of_ble_eq_true rfl) hn) ?_
      refine q_i2l dX10_comes_68 ?_
      refine q_ladd dX10_comes_69 ?_
      refine c_S1 (as := [_, _, _]) (st := []) dX10_comes_70 okX10_isWithin lX10_244 ⟨rfl, rfl⟩ ⟨Nat.le_of_ble_eq_true rfl, Nat.le_of_ble_eq_true rfl⟩ rfl rfl (Nat.le_of_ble_eq_true rfl) (Nat.le_of_ble_eq_true rfl) (t_X10_isWithin hn hF  rfl) ?_
      refine q_if_eq 78 dX10_comes_73 (by decide) (fun hc => ?_) (fun hc => ?_)
      · have h := q_it hc h
        refine q_aload_n dX10_comes_78 rfl ?_
        refine q_aload_n dX10_comes_79 rfl ?_
        refine q_iload_n dX10_comes_80 rfl ?_
        refine q_iload_n dX10_comes_81 rfl ?_
        obtain ⟨r3, hr4, h⟩ := q_bd h
        refine c_V1 (as := [_, _]) (st := [_]) (ci := 10) dX10_comes_82 okX10_courseAt lX10_141 ⟨rfl, rfl⟩ ⟨Nat.le_of_ble_eq_true rfl, Nat.le_of_ble_eq_true rfl⟩ (by decide) rfl rfl (Nat.lt_of_lt_of_le (Nat.le_of_ble_eq_true rfl) hn) rfl rfl (Nat.le_of_ble_eq_true rfl) (Nat.le_of_ble_eq_true rfl) (t_X10_courseAt hn hF  hr4) ?_
        refine q_aload_n dX10_comes_85 rfl ?_
        refine u_geti dX10_comes_86 fX10_50 rfl rfl (Nat.lt_of_lt_of_le (Nat.le_of_ble_eq_true rfl) hn) ?_
        refine c_V0 (as := [_, _]) (st := []) (ci := 10) dX10_comes_89 okX10_go lX10_165 ⟨rfl, rfl⟩ ⟨Nat.le_of_ble_eq_true rfl, Nat.le_of_ble_eq_true rfl⟩ (by decide) rfl rfl (Nat.lt_of_lt_of_le (Nat.le_of_ble_eq_true rfl) hn) rfl rfl (Nat.le_of_ble_eq_true rfl) (Nat.le_of_ble_eq_true rfl) (t_X10_go hn hF  rfl) ?_
        refine q_iinc1 (w := 1) (ls' := [(0, _), (1, _), (2, _)]) [0, 1, 2] dX10_comes_92 rfl (by decide) (Nat.le_of_ble_eq_true rfl) rfl ?_
        refine q_goto 25 dX10_comes_95 (by decide) ?_
        exact ih _ _ _ h hx0 hx1
      · have h := q_if hc h
        refine q_drop [2] (ls' := [(2, _)]) rfl ?_
        cases h
        exact hx0 _ rfl
def f_X10_comes (x1 : Int32) (m : q_Mm) : Option (Int32 × q_Mm) :=
  if (f_X10_isPlan x1 m) = 0 then
    some (((-1), m))
  else
    (f_X10_missNone  m).bind fun r1 =>
    (l_X10_comes_25 7000  x1 0 (q_wl (q_wl r1 58 5 0) 58 6 0)).bind fun r5 => match r5 with
    | .inl r7 =>
      some ((r7.1, r7.2))
    | .inr r8 =>
      some (((-6), r8))
set_option maxRecDepth 100000 in
set_option maxHeartbeats 4000000 in
theorem t_X10_comes {g : q_G} {n : Nat} {F : Nat → Nat → Option Nat} (hn : 89 ≤ n) (hF : q_FF F)  {x1 : Int32} {m : q_Mm} {r : Int32 × q_Mm} (h : f_X10_comes x1 m = some r) : q_Cn g mX10_comes [q_r g 58, .int x1] (q_mk n F m) (q_Q (some (.int r.1)) (q_mk n F r.2)) := by
  unfold f_X10_comes at h
  show q_V g mX10_comes q_T _ _ _ 0 [(0, q_r g 58), (1, .int x1)] [] (q_mk n F m)
  refine q_iload_n dX10_comes_0 rfl ?_
  refine c_S1 (as := [_]) (st := []) dX10_comes_1 okX10_isPlan lX10_126 ⟨rfl, rfl⟩ ⟨Nat.le_of_ble_eq_true rfl, Nat.le_of_ble_eq_true rfl⟩ rfl rfl (Nat.le_of_ble_eq_true rfl) (Nat.le_of_ble_eq_true rfl) (t_X10_isPlan hn hF  rfl) ?_
  refine q_if_ne 9 dX10_comes_4 (by decide) (fun hc => ?_) (fun hc => ?_)
  · have h := q_if hc h
    refine q_aload_n dX10_comes_9 rfl ?_
    obtain ⟨r1, hr2, h⟩ := q_bd h
    refine c_V0 (as := []) (st := []) (ci := 10) dX10_comes_10 okX10_missNone lX10_138 ⟨rfl, rfl⟩ ⟨Nat.le_of_ble_eq_true rfl, Nat.le_of_ble_eq_true rfl⟩ (by decide) rfl rfl (Nat.lt_of_lt_of_le (Nat.le_of_ble_eq_true rfl) hn) rfl rfl (Nat.le_of_ble_eq_true rfl) (Nat.le_of_ble_eq_true rfl) (t_X10_missNone hn hF  hr2) ?_
    refine q_aload_n dX10_comes_13 rfl ?_
    refine q_lconst (v := 0) dX10_comes_14 (by decide) ?_
    refine u_putl dX10_comes_15 fX10_152 rfl rfl (Nat.lt_of_lt_of_le (Nat.le_of_ble_eq_true rfl) hn) rfl rfl rfl ?_
    refine q_aload_n dX10_comes_18 rfl ?_
    refine q_lconst (v := 0) dX10_comes_19 (by decide) ?_
    refine u_putl dX10_comes_20 fX10_159 rfl rfl (Nat.lt_of_lt_of_le (Nat.le_of_ble_eq_true rfl) hn) rfl rfl rfl ?_
    refine q_iconst (v := 0) dX10_comes_23 (by decide) ?_
    refine q_istore_n (ls' := [(0, _), (1, _), (2, _)]) [0, 1, 2] dX10_comes_24 (Nat.le_of_ble_eq_true rfl) rfl ?_
    obtain ⟨r5, hr6, h⟩ := q_bd h
    refine t_l_X10_comes_25 hn hF  7000 _ _ _ hr6 ?_ ?_
    · intro r7 er7
      subst er7
      dsimp only at h
      refine q_iload_n dX10_comes_76 rfl ?_
      cases h
      exact q_iret dX10_comes_77 rfl ⟨rfl, rfl⟩
    · intro r8 er8
      subst er8
      dsimp only at h
      refine q_bipush (v := (-6)) dX10_comes_98 (by decide) ?_
      cases h
      exact q_iret dX10_comes_100 rfl ⟨rfl, rfl⟩
  · have h := q_it hc h
    refine q_iconst (v := (-1)) dX10_comes_7 (by decide) ?_
    cases h
    exact q_iret dX10_comes_8 rfl ⟨rfl, rfl⟩
def l_X10_layPlans_2 : Nat → Int32 → Int32 → q_Mm → Option (q_Mm)
  | 0, _, _, _ => none
  | k + 1, y1, y2, m =>
    if 4 ≤ y2 then
      some (m)
    else
      (f_X10_runPlan y2 y1 (m.1 58 20) m).bind fun r1 =>
      if q_in y2 4 = true then
      if q_in y2 4 = true then
      l_X10_layPlans_2 k  y1 (y2 + 1) (q_wl (q_wl r1 72 y2.toNatClampNeg (r1.2 58 5)) 73 y2.toNatClampNeg ((q_wl r1 72 y2.toNatClampNeg (r1.2 58 5)).2 58 6))
      else none
      else none
set_option maxRecDepth 100000 in
set_option maxHeartbeats 4000000 in
theorem t_l_X10_layPlans_2 {g : q_G} {n : Nat} {F : Nat → Nat → Option Nat} {Z : List Frame → Array Value → State → State → Prop} {kc ks : Nat} (hn : 89 ≤ n) (hF : q_FF F)  : ∀ (k : Nat) (y1 : Int32) (y2 : Int32) (m : q_Mm) {r : q_Mm}, l_X10_layPlans_2 k y1 y2 m = some r → (q_V g mX10_layPlans q_T Z kc ks 43 [] [] (q_mk n F r)) → q_V g mX10_layPlans q_T Z kc ks 2 [(0, q_r g 58), (1, .int y1), (2, .int y2)] [] (q_mk n F m) := by
  intro k
  induction k with
  | zero => intro y1 y2 m r h; cases h
  | succ k ih =>
    intro y1 y2 m r h hx0
    unfold l_X10_layPlans_2 at h
    refine q_iload_n dX10_layPlans_2 rfl ?_
    refine q_iconst (v := 4) dX10_layPlans_3 (by decide) ?_
    refine q_icmp_ge 43 dX10_layPlans_4 (by decide) (fun hc => ?_) (fun hc => ?_)
    · have h := q_it hc h
      refine q_drop [] (ls' := []) rfl ?_
      cases h
      exact hx0
    · have h := q_if hc h
      refine q_aload_n dX10_layPlans_7 rfl ?_
      refine q_iload_n dX10_layPlans_8 rfl ?_
      refine q_iload_n dX10_layPlans_9 rfl ?_
      refine q_aload_n dX10_layPlans_10 rfl ?_
      refine u_geti dX10_layPlans_11 fX10_50 rfl rfl (Nat.lt_of_lt_of_le (Nat.le_of_ble_eq_true rfl) hn) ?_
      obtain ⟨r1, hr2, h⟩ := q_bd h
      refine c_V0 (as := [_, _, _]) (st := []) (ci := 10) dX10_layPlans_14 okX10_runPlan lX10_173 ⟨rfl, rfl⟩ ⟨Nat.le_of_ble_eq_true rfl, Nat.le_of_ble_eq_true rfl⟩ (by decide) rfl rfl (Nat.lt_of_lt_of_le (Nat.le_of_ble_eq_true rfl) hn) rfl rfl (Nat.le_of_ble_eq_true rfl) (Nat.le_of_ble_eq_true rfl) (t_X10_runPlan hn hF  hr2) ?_
      refine q_aload_n dX10_layPlans_17 rfl ?_
      refine u_getr dX10_layPlans_18 fX10_64 rfl rfl (Nat.lt_of_lt_of_le (Nat.le_of_ble_eq_true rfl) hn) (hF 58 25 72 rfl) ?_
      refine q_iload_n dX10_layPlans_21 rfl ?_
      refine q_aload_n dX10_layPlans_22 rfl ?_
      refine u_getl dX10_layPlans_23 fX10_152 rfl rfl (Nat.lt_of_lt_of_le (Nat.le_of_ble_eq_true rfl) hn) ?_
      obtain ⟨hi3, h⟩ := q_is h
      refine u_last dX10_layPlans_26 rfl (Nat.lt_of_lt_of_le (Nat.le_of_ble_eq_true rfl) hn) (q_in_vp hi3) ?_
      refine q_aload_n dX10_layPlans_27 rfl ?_
      refine u_getr dX10_layPlans_28 fX10_67 rfl rfl (Nat.lt_of_lt_of_le (Nat.le_of_ble_eq_true rfl) hn) (hF 58 26 73 rfl) ?_
      refine q_iload_n dX10_layPlans_31 rfl ?_
      refine q_aload_n dX10_layPlans_32 rfl ?_
      refine u_getl dX10_layPlans_33 fX10_159 rfl rfl (Nat.lt_of_lt_of_le (Nat.le_of_ble_eq_true rfl) hn) ?_
      obtain ⟨hi4, h⟩ := q_is h
      refine u_last dX10_layPlans_36 rfl (Nat.lt_of_lt_of_le (Nat.le_of_ble_eq_true rfl) hn) (q_in_vp hi4) ?_
      refine q_iinc1 (w := 1) (ls' := [(0, _), (1, _), (2, _)]) [0, 1, 2] dX10_layPlans_37 rfl (by decide) (Nat.le_of_ble_eq_true rfl) rfl ?_
      refine q_goto 2 dX10_layPlans_40 (by decide) ?_
      exact ih _ _ _ h hx0
def f_X10_layPlans (x1 : Int32) (m : q_Mm) : Option (q_Mm) :=
  (l_X10_layPlans_2 7000  x1 0 m).bind fun r5 =>
  some (r5)
set_option maxRecDepth 100000 in
set_option maxHeartbeats 4000000 in
theorem t_X10_layPlans {g : q_G} {n : Nat} {F : Nat → Nat → Option Nat} (hn : 89 ≤ n) (hF : q_FF F)  {x1 : Int32} {m : q_Mm} {r : q_Mm} (h : f_X10_layPlans x1 m = some r) : q_Cn g mX10_layPlans [q_r g 58, .int x1] (q_mk n F m) (q_Q none (q_mk n F r)) := by
  unfold f_X10_layPlans at h
  show q_V g mX10_layPlans q_T _ _ _ 0 [(0, q_r g 58), (1, .int x1)] [] (q_mk n F m)
  refine q_iconst (v := 0) dX10_layPlans_0 (by decide) ?_
  refine q_istore_n (ls' := [(0, _), (1, _), (2, _)]) [0, 1, 2] dX10_layPlans_1 (Nat.le_of_ble_eq_true rfl) rfl ?_
  obtain ⟨r5, hr6, h⟩ := q_bd h
  refine t_l_X10_layPlans_2 hn hF  7000 _ _ _ hr6 ?_
  cases h
  exact q_vret dX10_layPlans_43 rfl ⟨rfl, rfl⟩
def f_X10_canBe (x1 : Int32) (x2 : Int32) (m : q_Mm) : Option (Int32) :=
  if q_in x1 4 = true then
  if q_in x1 4 = true then
  some ((f_X10_isWithin ((m.2 72 x1.toNatClampNeg) - ((m.1 58 21).toInt64)) ((m.2 73 x1.toNatClampNeg) - ((m.1 58 22).toInt64)) ((1000 * ((m.1 58 23).toInt64)) * x2.toInt64) m))
  else none
  else none
set_option maxRecDepth 100000 in
set_option maxHeartbeats 4000000 in
theorem t_X10_canBe {g : q_G} {n : Nat} {F : Nat → Nat → Option Nat} (hn : 89 ≤ n) (hF : q_FF F)  {x1 : Int32} {x2 : Int32} {m : q_Mm} {r : Int32} (h : f_X10_canBe x1 x2 m = some r) : q_Cn g mX10_canBe [q_r g 58, .int x1, .int x2] (q_mk n F m) (q_Q (some (.int r)) (q_mk n F m)) := by
  unfold f_X10_canBe at h
  show q_V g mX10_canBe q_T _ _ _ 0 [(0, q_r g 58), (1, .int x1), (2, .int x2)] [] (q_mk n F m)
  refine q_aload_n dX10_canBe_0 rfl ?_
  refine u_getr dX10_canBe_1 fX10_64 rfl rfl (Nat.lt_of_lt_of_le (Nat.le_of_ble_eq_true rfl) hn) (hF 58 25 72 rfl) ?_
  refine q_iload_n dX10_canBe_4 rfl ?_
  obtain ⟨hi1, h⟩ := q_is h
  refine u_lald dX10_canBe_5 rfl (Nat.lt_of_lt_of_le (Nat.le_of_ble_eq_true rfl) hn) (q_in_vp hi1) ?_
  refine q_aload_n dX10_canBe_6 rfl ?_
  refine u_geti dX10_canBe_7 fX10_55 rfl rfl (Nat.lt_of_lt_of_le (Nat.le_of_ble_eq_true rfl) hn) ?_
  refine q_i2l dX10_canBe_10 ?_
  refine q_lsub dX10_canBe_11 ?_
  refine q_aload_n dX10_canBe_12 rfl ?_
  refine u_getr dX10_canBe_13 fX10_67 rfl rfl (Nat.lt_of_lt_of_le (Nat.le_of_ble_eq_true rfl) hn) (hF 58 26 73 rfl) ?_
  refine q_iload_n dX10_canBe_16 rfl ?_
  obtain ⟨hi2, h⟩ := q_is h
  refine u_lald dX10_canBe_17 rfl (Nat.lt_of_lt_of_le (Nat.le_of_ble_eq_true rfl) hn) (q_in_vp hi2) ?_
  refine q_aload_n dX10_canBe_18 rfl ?_
  refine u_geti dX10_canBe_19 fX10_239 rfl rfl (Nat.lt_of_lt_of_le (Nat.le_of_ble_eq_true rfl) hn) ?_
  refine q_i2l dX10_canBe_22 ?_
  refine q_lsub dX10_canBe_23 ?_
  refine q_ldc2 dX10_canBe_24 kX10_242 ?_
  refine q_aload_n dX10_canBe_27 rfl ?_
  refine u_geti dX10_canBe_28 fX10_58 rfl rfl (Nat.lt_of_lt_of_le (Nat.le_of_ble_eq_true rfl) hn) ?_
  refine q_i2l dX10_canBe_31 ?_
  refine q_lmul dX10_canBe_32 ?_
  refine q_iload_n dX10_canBe_33 rfl ?_
  refine q_i2l dX10_canBe_34 ?_
  refine q_lmul dX10_canBe_35 ?_
  refine c_S1 (as := [_, _, _]) (st := []) dX10_canBe_36 okX10_isWithin lX10_244 ⟨rfl, rfl⟩ ⟨Nat.le_of_ble_eq_true rfl, Nat.le_of_ble_eq_true rfl⟩ rfl rfl (Nat.le_of_ble_eq_true rfl) (Nat.le_of_ble_eq_true rfl) (t_X10_isWithin hn hF  rfl) ?_
  cases h
  exact q_zret dX10_canBe_39 rfl (q_bo_n (b_X10_isWithin ..)) ⟨rfl, rfl⟩
def l_X10_getsAt_5 : Nat → Int32 → Int32 → Int32 → Int32 → q_Mm → Option (Int32)
  | 0, _, _, _, _, _ => none
  | k + 1, y1, y2, y3, y4, m =>
    if 4 ≤ y4 then
      some (y3)
    else
      (f_X10_canBe y1 y2 m).bind fun r1 =>
      if r1 = 0 then
        some (y3)
      else
        if q_in y4 4 = true then
        if q_in y1 4 = true then
        if q_in y4 4 = true then
        if q_in y1 4 = true then
        if (f_X10_isWithin ((m.2 72 y4.toNatClampNeg) - (m.2 72 y1.toNatClampNeg)) ((m.2 73 y4.toNatClampNeg) - (m.2 73 y1.toNatClampNeg)) ((m.1 58 24).toInt64) m) = 0 then
          l_X10_getsAt_5 k  y1 y2 (y3 ||| 0) (y4 + 1) m
        else
          l_X10_getsAt_5 k  y1 y2 (y3 ||| ((1 : Int32) <<< (y4 &&& 31))) (y4 + 1) m
        else none
        else none
        else none
        else none
set_option maxRecDepth 100000 in
set_option maxHeartbeats 4000000 in
theorem t_l_X10_getsAt_5 {g : q_G} {n : Nat} {F : Nat → Nat → Option Nat} {Z : List Frame → Array Value → State → State → Prop} {kc ks : Nat} (hn : 89 ≤ n) (hF : q_FF F)  : ∀ (k : Nat) (y1 : Int32) (y2 : Int32) (y3 : Int32) (y4 : Int32) (m : q_Mm) {r : Int32}, l_X10_getsAt_5 k y1 y2 y3 y4 m = some r → (q_V g mX10_getsAt q_T Z kc ks 76 [(3, .int r)] [] (q_mk n F m)) → q_V g mX10_getsAt q_T Z kc ks 5 [(0, q_r g 58), (1, .int y1), (2, .int y2), (3, .int y3), (4, .int y4)] [] (q_mk n F m) := by
  intro k
  induction k with
  | zero => intro y1 y2 y3 y4 m r h; cases h
  | succ k ih =>
    intro y1 y2 y3 y4 m r h hx0
    unfold l_X10_getsAt_5 at h
    refine q_iload dX10_getsAt_5 rfl ?_
    refine q_iconst (v := 4) dX10_getsAt_7 (by decide) ?_
    refine q_icmp_ge 76 dX10_getsAt_8 (by decide) (fun hc => ?_) (fun hc => ?_)
    · have h := q_it hc h
      refine q_drop [3] (ls' := [(3, _)]) rfl ?_
      cases h
      exact hx0
    · have h := q_if hc h
      refine q_aload_n dX10_getsAt_11 rfl ?_
      refine q_iload_n dX10_getsAt_12 rfl ?_
      refine q_iload_n dX10_getsAt_13 rfl ?_
      obtain ⟨r1, hr2, h⟩ := q_bd h
      refine c_V1 (as := [_, _]) (st := []) (ci := 10) dX10_getsAt_14 okX10_canBe lX10_247 ⟨rfl, rfl⟩ ⟨Nat.le_of_ble_eq_true rfl, Nat.le_of_ble_eq_true rfl⟩ (by decide) rfl rfl (Nat.lt_of_lt_of_le (Nat.le_of_ble_eq_true rfl) hn) rfl rfl (Nat.le_of_ble_eq_true rfl) (Nat.le_of_ble_eq_true rfl) (t_X10_canBe hn hF  hr2) ?_
      refine q_if_eq 76 dX10_getsAt_17 (by decide) (fun hc => ?_) (fun hc => ?_)
      · have h := q_it hc h
        refine q_drop [3] (ls' := [(3, _)]) rfl ?_
        cases h
        exact hx0
      · have h := q_if hc h
        refine q_iload_n dX10_getsAt_20 rfl ?_
        refine q_aload_n dX10_getsAt_21 rfl ?_
        refine u_getr dX10_getsAt_22 fX10_64 rfl rfl (Nat.lt_of_lt_of_le (Nat.le_of_ble_eq_true rfl) hn) (hF 58 25 72 rfl) ?_
        refine q_iload dX10_getsAt_25 rfl ?_
        obtain ⟨hi3, h⟩ := q_is h
        refine u_lald dX10_getsAt_27 rfl (Nat.lt_of_lt_of_le (Nat.le_of_ble_eq_true rfl) hn) (q_in_vp hi3) ?_
        refine q_aload_n dX10_getsAt_28 rfl ?_
        refine u_getr dX10_getsAt_29 fX10_64 rfl rfl (Nat.lt_of_lt_of_le (Nat.le_of_ble_eq_true rfl) hn) (hF 58 25 72 rfl) ?_
        refine q_iload_n dX10_getsAt_32 rfl ?_
        obtain ⟨hi4, h⟩ := q_is h
        refine u_lald dX10_getsAt_33 rfl (Nat.lt_of_lt_of_le (Nat.le_of_ble_eq_true rfl) hn) (q_in_vp hi4) ?_
        refine q_lsub dX10_getsAt_34 ?_
        refine q_aload_n dX10_getsAt_35 rfl ?_
        refine u_getr dX10_getsAt_36 fX10_67 rfl rfl (Nat.lt_of_lt_of_le (Nat.le_of_ble_eq_true rfl) hn) (hF 58 26 73 rfl) ?_
        refine q_iload dX10_getsAt_39 rfl ?_
        obtain ⟨hi5, h⟩ := q_is h
        refine u_lald dX10_getsAt_41 rfl (Nat.lt_of_lt_of_le (Nat.le_of_ble_eq_true rfl) hn) (q_in_vp hi5) ?_
        refine q_aload_n dX10_getsAt_42 rfl ?_
        refine u_getr dX10_getsAt_43 fX10_67 rfl rfl (Nat.lt_of_lt_of_le (Nat.le_of_ble_eq_true rfl) hn) (hF 58 26 73 rfl) ?_
        refine q_iload_n dX10_getsAt_46 rfl ?_
        obtain ⟨hi6, h⟩ := q_is h
        refine u_lald dX10_getsAt_47 rfl (Nat.lt_of_lt_of_le (Nat.le_of_ble_eq_true rfl) hn) (q_in_vp hi6) ?_
        refine q_lsub dX10_getsAt_48 ?_
        refine q_aload_n dX10_getsAt_49 rfl ?_
        refine u_geti dX10_getsAt_50 fX10_61 rfl rfl (Nat.lt_of_lt_of_le (Nat.le_of_ble_eq_true rfl) hn) ?_
        refine q_i2l dX10_getsAt_53 ?_
        refine c_S1 (as := [_, _, _]) (st := [_]) dX10_getsAt_54 okX10_isWithin lX10_244 ⟨rfl, rfl⟩ ⟨Nat.le_of_ble_eq_true rfl, Nat.le_of_ble_eq_true rfl⟩ rfl rfl (Nat.le_of_ble_eq_true rfl) (Nat.le_of_ble_eq_true rfl) (t_X10_isWithin hn hF  rfl) ?_
        refine q_if_eq 67 dX10_getsAt_57 (by decide) (fun hc => ?_) (fun hc => ?_)
        · have h := q_it hc h
          refine q_iconst (v := 0) dX10_getsAt_67 (by decide) ?_
          refine q_ior dX10_getsAt_68 ?_
          refine q_istore_n (ls' := [(0, _), (1, _), (2, _), (3, _), (4, _)]) [0, 1, 2, 3, 4] dX10_getsAt_69 (Nat.le_of_ble_eq_true rfl) rfl ?_
          refine q_iinc1 (w := 1) (ls' := [(0, _), (1, _), (2, _), (3, _), (4, _)]) [0, 1, 2, 3, 4] dX10_getsAt_70 rfl (by decide) (Nat.le_of_ble_eq_true rfl) rfl ?_
          refine q_goto 5 dX10_getsAt_73 (by decide) ?_
          exact ih _ _ _ _ _ h hx0
        · have h := q_if hc h
          refine q_iconst (v := 1) dX10_getsAt_60 (by decide) ?_
          refine q_iload dX10_getsAt_61 rfl ?_
          refine q_ishl dX10_getsAt_63 ?_
          refine q_goto 68 dX10_getsAt_64 (by decide) ?_
          refine q_ior dX10_getsAt_68 ?_
          refine q_istore_n (ls' := [(0, _), (1, _), (2, _), (3, _), (4, _)]) [0, 1, 2, 3, 4] dX10_getsAt_69 (Nat.le_of_ble_eq_true rfl) rfl ?_
          refine q_iinc1 (w := 1) (ls' := [(0, _), (1, _), (2, _), (3, _), (4, _)]) [0, 1, 2, 3, 4] dX10_getsAt_70 rfl (by decide) (Nat.le_of_ble_eq_true rfl) rfl ?_
          refine q_goto 5 dX10_getsAt_73 (by decide) ?_
          exact ih _ _ _ _ _ h hx0
def f_X10_getsAt (x1 : Int32) (x2 : Int32) (m : q_Mm) : Option (Int32) :=
  (l_X10_getsAt_5 7000  x1 x2 0 0 m).bind fun r7 =>
  some (r7)
set_option maxRecDepth 100000 in
set_option maxHeartbeats 4000000 in
theorem t_X10_getsAt {g : q_G} {n : Nat} {F : Nat → Nat → Option Nat} (hn : 89 ≤ n) (hF : q_FF F)  {x1 : Int32} {x2 : Int32} {m : q_Mm} {r : Int32} (h : f_X10_getsAt x1 x2 m = some r) : q_Cn g mX10_getsAt [q_r g 58, .int x1, .int x2] (q_mk n F m) (q_Q (some (.int r)) (q_mk n F m)) := by
  unfold f_X10_getsAt at h
  show q_V g mX10_getsAt q_T _ _ _ 0 [(0, q_r g 58), (1, .int x1), (2, .int x2)] [] (q_mk n F m)
  refine q_iconst (v := 0) dX10_getsAt_0 (by decide) ?_
  refine q_istore_n (ls' := [(0, _), (1, _), (2, _), (3, _)]) [0, 1, 2, 3] dX10_getsAt_1 (Nat.le_of_ble_eq_true rfl) rfl ?_
  refine q_iconst (v := 0) dX10_getsAt_2 (by decide) ?_
  refine q_istore (ls' := [(0, _), (1, _), (2, _), (3, _), (4, _)]) [0, 1, 2, 3, 4] dX10_getsAt_3 (Nat.le_of_ble_eq_true rfl) rfl ?_
  obtain ⟨r7, hr8, h⟩ := q_bd h
  refine t_l_X10_getsAt_5 hn hF  7000 _ _ _ _ _ hr8 ?_
  refine q_iload_n dX10_getsAt_76 rfl ?_
  cases h
  exact q_iret dX10_getsAt_77 rfl ⟨rfl, rfl⟩
def f_X10_gets (x1 : Int32) (x2 : Int32) (m : q_Mm) : Option (Int32 × q_Mm) :=
  if (f_X10_isPlan x1 m) = 0 then
    some (((-1), m))
  else
    if (f_X10_in x2.toInt64 0 600 m) = 0 then
      some (((-2), m))
    else
      (f_X10_layPlans x2 m).bind fun r1 =>
      (f_X10_getsAt x1 x2 r1).bind fun r3 =>
      some ((r3, r1))
set_option maxRecDepth 100000 in
set_option maxHeartbeats 4000000 in
theorem t_X10_gets {g : q_G} {n : Nat} {F : Nat → Nat → Option Nat} (hn : 89 ≤ n) (hF : q_FF F)  {x1 : Int32} {x2 : Int32} {m : q_Mm} {r : Int32 × q_Mm} (h : f_X10_gets x1 x2 m = some r) : q_Cn g mX10_gets [q_r g 58, .int x1, .int x2] (q_mk n F m) (q_Q (some (.int r.1)) (q_mk n F r.2)) := by
  unfold f_X10_gets at h
  show q_V g mX10_gets q_T _ _ _ 0 [(0, q_r g 58), (1, .int x1), (2, .int x2)] [] (q_mk n F m)
  refine q_iload_n dX10_gets_0 rfl ?_
  refine c_S1 (as := [_]) (st := []) dX10_gets_1 okX10_isPlan lX10_126 ⟨rfl, rfl⟩ ⟨Nat.le_of_ble_eq_true rfl, Nat.le_of_ble_eq_true rfl⟩ rfl rfl (Nat.le_of_ble_eq_true rfl) (Nat.le_of_ble_eq_true rfl) (t_X10_isPlan hn hF  rfl) ?_
  refine q_if_ne 9 dX10_gets_4 (by decide) (fun hc => ?_) (fun hc => ?_)
  · have h := q_if hc h
    refine q_iload_n dX10_gets_9 rfl ?_
    refine q_i2l dX10_gets_10 ?_
    refine q_lconst (v := 0) dX10_gets_11 (by decide) ?_
    refine q_ldc2 dX10_gets_12 kX10_136 ?_
    refine c_S1 (as := [_, _, _]) (st := []) dX10_gets_15 okX10_in lX10_122 ⟨rfl, rfl⟩ ⟨Nat.le_of_ble_eq_true rfl, Nat.le_of_ble_eq_true rfl⟩ rfl rfl (Nat.le_of_ble_eq_true rfl) (Nat.le_of_ble_eq_true rfl) (t_X10_in hn hF  rfl) ?_
    refine q_if_ne 24 dX10_gets_18 (by decide) (fun hc => ?_) (fun hc => ?_)
    · have h := q_if hc h
      refine q_aload_n dX10_gets_24 rfl ?_
      refine q_iload_n dX10_gets_25 rfl ?_
      obtain ⟨r1, hr2, h⟩ := q_bd h
      refine c_V0 (as := [_]) (st := []) (ci := 10) dX10_gets_26 okX10_layPlans lX10_251 ⟨rfl, rfl⟩ ⟨Nat.le_of_ble_eq_true rfl, Nat.le_of_ble_eq_true rfl⟩ (by decide) rfl rfl (Nat.lt_of_lt_of_le (Nat.le_of_ble_eq_true rfl) hn) rfl rfl (Nat.le_of_ble_eq_true rfl) (Nat.le_of_ble_eq_true rfl) (t_X10_layPlans hn hF  hr2) ?_
      refine q_aload_n dX10_gets_29 rfl ?_
      refine q_iload_n dX10_gets_30 rfl ?_
      refine q_iload_n dX10_gets_31 rfl ?_
      obtain ⟨r3, hr4, h⟩ := q_bd h
      refine c_V1 (as := [_, _]) (st := []) (ci := 10) dX10_gets_32 okX10_getsAt lX10_254 ⟨rfl, rfl⟩ ⟨Nat.le_of_ble_eq_true rfl, Nat.le_of_ble_eq_true rfl⟩ (by decide) rfl rfl (Nat.lt_of_lt_of_le (Nat.le_of_ble_eq_true rfl) hn) rfl rfl (Nat.le_of_ble_eq_true rfl) (Nat.le_of_ble_eq_true rfl) (t_X10_getsAt hn hF  hr4) ?_
      cases h
      exact q_iret dX10_gets_35 rfl ⟨rfl, rfl⟩
    · have h := q_it hc h
      refine q_bipush (v := (-2)) dX10_gets_21 (by decide) ?_
      cases h
      exact q_iret dX10_gets_23 rfl ⟨rfl, rfl⟩
  · have h := q_it hc h
    refine q_iconst (v := (-1)) dX10_gets_7 (by decide) ?_
    cases h
    exact q_iret dX10_gets_8 rfl ⟨rfl, rfl⟩
def l_X10_layCaught_7 : Nat → Int32 → Int32 → q_Mm → Option (q_Mm)
  | 0, _, _, _ => none
  | k + 1, y1, y2, m =>
    if 4 ≤ y2 then
      some (m)
    else
      (f_X10_getsAt y2 y1 m).bind fun r3 =>
      if q_in y2 4 = true then
      l_X10_layCaught_7 k  y1 (y2 + 1) (q_wi m 75 y2.toNatClampNeg r3)
      else none
set_option maxRecDepth 100000 in
set_option maxHeartbeats 4000000 in
theorem t_l_X10_layCaught_7 {g : q_G} {n : Nat} {F : Nat → Nat → Option Nat} {Z : List Frame → Array Value → State → State → Prop} {kc ks : Nat} (hn : 89 ≤ n) (hF : q_FF F)  : ∀ (k : Nat) (y1 : Int32) (y2 : Int32) (m : q_Mm) {r : q_Mm}, l_X10_layCaught_7 k y1 y2 m = some r → (q_V g mX10_layCaught q_T Z kc ks 30 [] [] (q_mk n F r)) → q_V g mX10_layCaught q_T Z kc ks 7 [(0, q_r g 58), (1, .int y1), (2, .int y2)] [] (q_mk n F m) := by
  intro k
  induction k with
  | zero => intro y1 y2 m r h; cases h
  | succ k ih =>
    intro y1 y2 m r h hx0
    unfold l_X10_layCaught_7 at h
    refine q_iload_n dX10_layCaught_7 rfl ?_
    refine q_iconst (v := 4) dX10_layCaught_8 (by decide) ?_
    refine q_icmp_ge 30 dX10_layCaught_9 (by decide) (fun hc => ?_) (fun hc => ?_)
    · have h := q_it hc h
      refine q_drop [] (ls' := []) rfl ?_
      cases h
      exact hx0
    · have h := q_if hc h
      refine q_aload_n dX10_layCaught_12 rfl ?_
      refine u_getr dX10_layCaught_13 fX10_73 rfl rfl (Nat.lt_of_lt_of_le (Nat.le_of_ble_eq_true rfl) hn) (hF 58 29 75 rfl) ?_
      refine q_iload_n dX10_layCaught_16 rfl ?_
      refine q_aload_n dX10_layCaught_17 rfl ?_
      refine q_iload_n dX10_layCaught_18 rfl ?_
      refine q_iload_n dX10_layCaught_19 rfl ?_
      obtain ⟨r3, hr4, h⟩ := q_bd h
      refine c_V1 (as := [_, _]) (st := [_, _]) (ci := 10) dX10_layCaught_20 okX10_getsAt lX10_254 ⟨rfl, rfl⟩ ⟨Nat.le_of_ble_eq_true rfl, Nat.le_of_ble_eq_true rfl⟩ (by decide) rfl rfl (Nat.lt_of_lt_of_le (Nat.le_of_ble_eq_true rfl) hn) rfl rfl (Nat.le_of_ble_eq_true rfl) (Nat.le_of_ble_eq_true rfl) (t_X10_getsAt hn hF  hr4) ?_
      obtain ⟨hi5, h⟩ := q_is h
      refine u_iast dX10_layCaught_23 rfl (Nat.lt_of_lt_of_le (Nat.le_of_ble_eq_true rfl) hn) (q_in_vp hi5) ?_
      refine q_iinc1 (w := 1) (ls' := [(0, _), (1, _), (2, _)]) [0, 1, 2] dX10_layCaught_24 rfl (by decide) (Nat.le_of_ble_eq_true rfl) rfl ?_
      refine q_goto 7 dX10_layCaught_27 (by decide) ?_
      exact ih _ _ _ h hx0
def f_X10_layCaught (x1 : Int32) (m : q_Mm) : Option (q_Mm) :=
  (f_X10_layPlans x1 m).bind fun r1 =>
  (l_X10_layCaught_7 7000  x1 0 r1).bind fun r6 =>
  some (r6)
set_option maxRecDepth 100000 in
set_option maxHeartbeats 4000000 in
theorem t_X10_layCaught {g : q_G} {n : Nat} {F : Nat → Nat → Option Nat} (hn : 89 ≤ n) (hF : q_FF F)  {x1 : Int32} {m : q_Mm} {r : q_Mm} (h : f_X10_layCaught x1 m = some r) : q_Cn g mX10_layCaught [q_r g 58, .int x1] (q_mk n F m) (q_Q none (q_mk n F r)) := by
  unfold f_X10_layCaught at h
  show q_V g mX10_layCaught q_T _ _ _ 0 [(0, q_r g 58), (1, .int x1)] [] (q_mk n F m)
  refine q_aload_n dX10_layCaught_0 rfl ?_
  refine q_iload_n dX10_layCaught_1 rfl ?_
  obtain ⟨r1, hr2, h⟩ := q_bd h
  refine c_V0 (as := [_]) (st := []) (ci := 10) dX10_layCaught_2 okX10_layPlans lX10_251 ⟨rfl, rfl⟩ ⟨Nat.le_of_ble_eq_true rfl, Nat.le_of_ble_eq_true rfl⟩ (by decide) rfl rfl (Nat.lt_of_lt_of_le (Nat.le_of_ble_eq_true rfl) hn) rfl rfl (Nat.le_of_ble_eq_true rfl) (Nat.le_of_ble_eq_true rfl) (t_X10_layPlans hn hF  hr2) ?_
  refine q_iconst (v := 0) dX10_layCaught_5 (by decide) ?_
  refine q_istore_n (ls' := [(0, _), (1, _), (2, _)]) [0, 1, 2] dX10_layCaught_6 (Nat.le_of_ble_eq_true rfl) rfl ?_
  obtain ⟨r6, hr7, h⟩ := q_bd h
  refine t_l_X10_layCaught_7 hn hF  7000 _ _ _ hr7 ?_
  cases h
  exact q_vret dX10_layCaught_30 rfl ⟨rfl, rfl⟩
def l_X10_worstOf_20 : Nat → Int32 → Int32 → Int32 → Int32 → q_Mm → Option (Int32)
  | 0, _, _, _, _, _ => none
  | k + 1, y1, y2, y3, y4, m =>
    if 4 ≤ y4 then
      some (y3)
    else
      if q_in y2 4 = true then
      if (((m.1 75 y2.toNatClampNeg) >>> (y4 &&& 31)) &&& 1) = 1 then
        if q_in y4 4 = true then
        l_X10_worstOf_20 k  y1 y2 (y3 + (m.1 74 y4.toNatClampNeg)) (y4 + 1) m
        else none
      else
        l_X10_worstOf_20 k  y1 y2 (y3 + 0) (y4 + 1) m
      else none
set_option maxRecDepth 100000 in
set_option maxHeartbeats 4000000 in
theorem t_l_X10_worstOf_20 {g : q_G} {n : Nat} {F : Nat → Nat → Option Nat} {Z : List Frame → Array Value → State → State → Prop} {kc ks : Nat} (hn : 89 ≤ n) (hF : q_FF F)  : ∀ (k : Nat) (y1 : Int32) (y2 : Int32) (y3 : Int32) (y4 : Int32) (m : q_Mm) {r : Int32}, l_X10_worstOf_20 k y1 y2 y3 y4 m = some r → (q_V g mX10_worstOf q_T Z kc ks 61 [(0, q_r g 58), (1, .int y1), (2, .int y2), (3, .int r)] [] (q_mk n F m)) → q_V g mX10_worstOf q_T Z kc ks 20 [(0, q_r g 58), (1, .int y1), (2, .int y2), (3, .int y3), (4, .int y4)] [] (q_mk n F m) := by
  intro k
  induction k with
  | zero => intro y1 y2 y3 y4 m r h; cases h
  | succ k ih =>
    intro y1 y2 y3 y4 m r h hx0
    unfold l_X10_worstOf_20 at h
    refine q_iload dX10_worstOf_20 rfl ?_
    refine q_iconst (v := 4) dX10_worstOf_22 (by decide) ?_
    refine q_icmp_ge 61 dX10_worstOf_23 (by decide) (fun hc => ?_) (fun hc => ?_)
    · have h := q_it hc h
      refine q_drop [0, 1, 2, 3] (ls' := [(0, _), (1, _), (2, _), (3, _)]) rfl ?_
      cases h
      exact hx0
    · have h := q_if hc h
      refine q_iload_n dX10_worstOf_26 rfl ?_
      refine q_aload_n dX10_worstOf_27 rfl ?_
      refine u_getr dX10_worstOf_28 fX10_73 rfl rfl (Nat.lt_of_lt_of_le (Nat.le_of_ble_eq_true rfl) hn) (hF 58 29 75 rfl) ?_
      refine q_iload_n dX10_worstOf_31 rfl ?_
      obtain ⟨hi1, h⟩ := q_is h
      refine u_iald dX10_worstOf_32 rfl (Nat.lt_of_lt_of_le (Nat.le_of_ble_eq_true rfl) hn) (q_in_vp hi1) ?_
      refine q_iload dX10_worstOf_33 rfl ?_
      refine q_ishr dX10_worstOf_35 ?_
      refine q_iconst (v := 1) dX10_worstOf_36 (by decide) ?_
      refine q_iand dX10_worstOf_37 ?_
      refine q_iconst (v := 1) dX10_worstOf_38 (by decide) ?_
      refine q_icmp_ne 52 dX10_worstOf_39 (by decide) (fun hc => ?_) (fun hc => ?_)
      · have h := q_if hc h
        refine q_iconst (v := 0) dX10_worstOf_52 (by decide) ?_
        refine q_iadd dX10_worstOf_53 ?_
        refine q_istore_n (ls' := [(0, _), (1, _), (2, _), (3, _), (4, _)]) [0, 1, 2, 3, 4] dX10_worstOf_54 (Nat.le_of_ble_eq_true rfl) rfl ?_
        refine q_iinc1 (w := 1) (ls' := [(0, _), (1, _), (2, _), (3, _), (4, _)]) [0, 1, 2, 3, 4] dX10_worstOf_55 rfl (by decide) (Nat.le_of_ble_eq_true rfl) rfl ?_
        refine q_goto 20 dX10_worstOf_58 (by decide) ?_
        exact ih _ _ _ _ _ h hx0
      · have h := q_it hc h
        refine q_aload_n dX10_worstOf_42 rfl ?_
        refine u_getr dX10_worstOf_43 fX10_70 rfl rfl (Nat.lt_of_lt_of_le (Nat.le_of_ble_eq_true rfl) hn) (hF 58 27 74 rfl) ?_
        refine q_iload dX10_worstOf_46 rfl ?_
        obtain ⟨hi2, h⟩ := q_is h
        refine u_iald dX10_worstOf_48 rfl (Nat.lt_of_lt_of_le (Nat.le_of_ble_eq_true rfl) hn) (q_in_vp hi2) ?_
        refine q_goto 53 dX10_worstOf_49 (by decide) ?_
        refine q_iadd dX10_worstOf_53 ?_
        refine q_istore_n (ls' := [(0, _), (1, _), (2, _), (3, _), (4, _)]) [0, 1, 2, 3, 4] dX10_worstOf_54 (Nat.le_of_ble_eq_true rfl) rfl ?_
        refine q_iinc1 (w := 1) (ls' := [(0, _), (1, _), (2, _), (3, _), (4, _)]) [0, 1, 2, 3, 4] dX10_worstOf_55 rfl (by decide) (Nat.le_of_ble_eq_true rfl) rfl ?_
        refine q_goto 20 dX10_worstOf_58 (by decide) ?_
        exact ih _ _ _ _ _ h hx0
def l_X10_worstOf_10 : Nat → Int32 → Int32 → q_Mm → Option (Int32 × q_Mm)
  | 0, _, _, _ => none
  | k + 1, y1, y2, m =>
    if 4 ≤ y2 then
      some (y1, m)
    else
      (l_X10_worstOf_20 7000  y1 y2 0 0 m).bind fun r3 =>
      if q_in y2 4 = true then
      if (m.1 75 y2.toNatClampNeg) = 0 then
        l_X10_worstOf_10 k  y1 (y2 + 1) m
      else
        if (m.1 58 28) < 0 then
          l_X10_worstOf_10 k  r3 (y2 + 1) (q_wi m 58 28 y2)
        else
          if r3 ≤ y1 then
            l_X10_worstOf_10 k  y1 (y2 + 1) m
          else
            l_X10_worstOf_10 k  r3 (y2 + 1) (q_wi m 58 28 y2)
      else none
set_option maxRecDepth 100000 in
set_option maxHeartbeats 4000000 in
theorem t_l_X10_worstOf_10 {g : q_G} {n : Nat} {F : Nat → Nat → Option Nat} {Z : List Frame → Array Value → State → State → Prop} {kc ks : Nat} (hn : 89 ≤ n) (hF : q_FF F)  : ∀ (k : Nat) (y1 : Int32) (y2 : Int32) (m : q_Mm) {r : Int32 × q_Mm}, l_X10_worstOf_10 k y1 y2 m = some r → (q_V g mX10_worstOf q_T Z kc ks 95 [(1, .int r.1)] [] (q_mk n F r.2)) → q_V g mX10_worstOf q_T Z kc ks 10 [(0, q_r g 58), (1, .int y1), (2, .int y2)] [] (q_mk n F m) := by
  intro k
  induction k with
  | zero => intro y1 y2 m r h; cases h
  | succ k ih =>
    intro y1 y2 m r h hx0
    unfold l_X10_worstOf_10 at h
    refine q_iload_n dX10_worstOf_10 rfl ?_
    refine q_iconst (v := 4) dX10_worstOf_11 (by decide) ?_
    refine q_icmp_ge 95 dX10_worstOf_12 (by decide) (fun hc => ?_) (fun hc => ?_)
    · have h := q_it hc h
      refine q_drop [1] (ls' := [(1, _)]) rfl ?_
      cases h
      exact hx0
    · have h := q_if hc h
      refine q_iconst (v := 0) dX10_worstOf_15 (by decide) ?_
      refine q_istore_n (ls' := [(0, _), (1, _), (2, _), (3, _)]) [0, 1, 2, 3] dX10_worstOf_16 (Nat.le_of_ble_eq_true rfl) rfl ?_
      refine q_iconst (v := 0) dX10_worstOf_17 (by decide) ?_
      refine q_istore (ls' := [(0, _), (1, _), (2, _), (3, _), (4, _)]) [0, 1, 2, 3, 4] dX10_worstOf_18 (Nat.le_of_ble_eq_true rfl) rfl ?_
      obtain ⟨r3, hr4, h⟩ := q_bd h
      refine t_l_X10_worstOf_20 hn hF  7000 _ _ _ _ _ hr4 ?_
      refine q_aload_n dX10_worstOf_61 rfl ?_
      refine u_getr dX10_worstOf_62 fX10_73 rfl rfl (Nat.lt_of_lt_of_le (Nat.le_of_ble_eq_true rfl) hn) (hF 58 29 75 rfl) ?_
      refine q_iload_n dX10_worstOf_65 rfl ?_
      obtain ⟨hi5, h⟩ := q_is h
      refine u_iald dX10_worstOf_66 rfl (Nat.lt_of_lt_of_le (Nat.le_of_ble_eq_true rfl) hn) (q_in_vp hi5) ?_
      refine q_if_eq 89 dX10_worstOf_67 (by decide) (fun hc => ?_) (fun hc => ?_)
      · have h := q_it hc h
        refine q_iinc1 (w := 1) (ls' := [(0, _), (1, _), (2, _)]) [0, 1, 2] dX10_worstOf_89 rfl (by decide) (Nat.le_of_ble_eq_true rfl) rfl ?_
        refine q_goto 10 dX10_worstOf_92 (by decide) ?_
        exact ih _ _ _ h hx0
      · have h := q_if hc h
        refine q_aload_n dX10_worstOf_70 rfl ?_
        refine u_geti dX10_worstOf_71 fX10_257 rfl rfl (Nat.lt_of_lt_of_le (Nat.le_of_ble_eq_true rfl) hn) ?_
        refine q_if_lt 82 dX10_worstOf_74 (by decide) (fun hc => ?_) (fun hc => ?_)
        · have h := q_it hc h
          refine q_iload_n dX10_worstOf_82 rfl ?_
          refine q_istore_n (ls' := [(0, _), (1, _), (2, _)]) [0, 1, 2] dX10_worstOf_83 (Nat.le_of_ble_eq_true rfl) rfl ?_
          refine q_aload_n dX10_worstOf_84 rfl ?_
          refine q_iload_n dX10_worstOf_85 rfl ?_
          refine u_puti dX10_worstOf_86 fX10_257 rfl rfl (Nat.lt_of_lt_of_le (Nat.le_of_ble_eq_true rfl) hn) rfl rfl rfl ?_
          refine q_iinc1 (w := 1) (ls' := [(0, _), (1, _), (2, _)]) [0, 1, 2] dX10_worstOf_89 rfl (by decide) (Nat.le_of_ble_eq_true rfl) rfl ?_
          refine q_goto 10 dX10_worstOf_92 (by decide) ?_
          exact ih _ _ _ h hx0
        · have h := q_if hc h
          refine q_iload_n dX10_worstOf_77 rfl ?_
          refine q_iload_n dX10_worstOf_78 rfl ?_
          refine q_icmp_le 89 dX10_worstOf_79 (by decide) (fun hc => ?_) (fun hc => ?_)
          · have h := q_it hc h
            refine q_iinc1 (w := 1) (ls' := [(0, _), (1, _), (2, _)]) [0, 1, 2] dX10_worstOf_89 rfl (by decide) (Nat.le_of_ble_eq_true rfl) rfl ?_
            refine q_goto 10 dX10_worstOf_92 (by decide) ?_
            exact ih _ _ _ h hx0
          · have h := q_if hc h
            refine q_iload_n dX10_worstOf_82 rfl ?_
            refine q_istore_n (ls' := [(0, _), (1, _), (2, _)]) [0, 1, 2] dX10_worstOf_83 (Nat.le_of_ble_eq_true rfl) rfl ?_
            refine q_aload_n dX10_worstOf_84 rfl ?_
            refine q_iload_n dX10_worstOf_85 rfl ?_
            refine u_puti dX10_worstOf_86 fX10_257 rfl rfl (Nat.lt_of_lt_of_le (Nat.le_of_ble_eq_true rfl) hn) rfl rfl rfl ?_
            refine q_iinc1 (w := 1) (ls' := [(0, _), (1, _), (2, _)]) [0, 1, 2] dX10_worstOf_89 rfl (by decide) (Nat.le_of_ble_eq_true rfl) rfl ?_
            refine q_goto 10 dX10_worstOf_92 (by decide) ?_
            exact ih _ _ _ h hx0
def f_X10_worstOf  (m : q_Mm) : Option (Int32 × q_Mm) :=
  (l_X10_worstOf_10 7000  0 0 (q_wi m 58 28 (-6))).bind fun r6 =>
  some ((r6.1, r6.2))
set_option maxRecDepth 100000 in
set_option maxHeartbeats 4000000 in
theorem t_X10_worstOf {g : q_G} {n : Nat} {F : Nat → Nat → Option Nat} (hn : 89 ≤ n) (hF : q_FF F)   {m : q_Mm} {r : Int32 × q_Mm} (h : f_X10_worstOf  m = some r) : q_Cn g mX10_worstOf [q_r g 58] (q_mk n F m) (q_Q (some (.int r.1)) (q_mk n F r.2)) := by
  unfold f_X10_worstOf at h
  show q_V g mX10_worstOf q_T _ _ _ 0 [(0, q_r g 58)] [] (q_mk n F m)
  refine q_iconst (v := 0) dX10_worstOf_0 (by decide) ?_
  refine q_istore_n (ls' := [(0, _), (1, _)]) [0, 1] dX10_worstOf_1 (Nat.le_of_ble_eq_true rfl) rfl ?_
  refine q_aload_n dX10_worstOf_2 rfl ?_
  refine q_bipush (v := (-6)) dX10_worstOf_3 (by decide) ?_
  refine u_puti dX10_worstOf_5 fX10_257 rfl rfl (Nat.lt_of_lt_of_le (Nat.le_of_ble_eq_true rfl) hn) rfl rfl rfl ?_
  refine q_iconst (v := 0) dX10_worstOf_8 (by decide) ?_
  refine q_istore_n (ls' := [(0, _), (1, _), (2, _)]) [0, 1, 2] dX10_worstOf_9 (Nat.le_of_ble_eq_true rfl) rfl ?_
  obtain ⟨r6, hr7, h⟩ := q_bd h
  refine t_l_X10_worstOf_10 hn hF  7000 _ _ _ hr7 ?_
  refine q_iload_n dX10_worstOf_95 rfl ?_
  cases h
  exact q_iret dX10_worstOf_96 rfl ⟨rfl, rfl⟩
def f_X10_worst (x1 : Int32) (x2 : Int32) (x3 : Int32) (x4 : Int32) (x5 : Int32) (x6 : Int32) (m : q_Mm) : Option (Int32 × q_Mm) :=
  if (f_X10_in x1.toInt64 0 600 m) = 0 then
    some (((-2), m))
  else
    if (f_X10_in x2.toInt64 0 20 m) = 0 then
      some (((-2), m))
    else
      if (f_X10_in x3.toInt64 0 20 m) = 0 then
        some (((-2), m))
      else
        if (f_X10_in x4.toInt64 0 20 m) = 0 then
          some (((-2), m))
        else
          if (f_X10_in x5.toInt64 0 20 m) = 0 then
            some (((-2), m))
          else
            if (f_X10_in x6.toInt64 0 1 m) = 0 then
              some (((-2), m))
            else
              (f_X10_layCaught x1 m).bind fun r1 =>
              (f_X10_worstOf  (q_wi (q_wi (q_wi (q_wi r1 74 ((0 : Int32).toNatClampNeg) x2) 74 ((1 : Int32).toNatClampNeg) x3) 74 ((2 : Int32).toNatClampNeg) x4) 74 ((3 : Int32).toNatClampNeg) x5)).bind fun r3 =>
              if x6 = 0 then
                some ((r3.1, r3.2))
              else
                some ((r3.2.1 58 28, r3.2))
set_option maxRecDepth 100000 in
set_option maxHeartbeats 4000000 in
theorem t_X10_worst {g : q_G} {n : Nat} {F : Nat → Nat → Option Nat} (hn : 89 ≤ n) (hF : q_FF F)  {x1 : Int32} {x2 : Int32} {x3 : Int32} {x4 : Int32} {x5 : Int32} {x6 : Int32} {m : q_Mm} {r : Int32 × q_Mm} (h : f_X10_worst x1 x2 x3 x4 x5 x6 m = some r) : q_Cn g mX10_worst [q_r g 58, .int x1, .int x2, .int x3, .int x4, .int x5, .int x6] (q_mk n F m) (q_Q (some (.int r.1)) (q_mk n F r.2)) := by
  unfold f_X10_worst at h
  show q_V g mX10_worst q_T _ _ _ 0 [(0, q_r g 58), (1, .int x1), (2, .int x2), (3, .int x3), (4, .int x4), (5, .int x5), (6, .int x6)] [] (q_mk n F m)
  refine q_iload_n dX10_worst_0 rfl ?_
  refine q_i2l dX10_worst_1 ?_
  refine q_lconst (v := 0) dX10_worst_2 (by decide) ?_
  refine q_ldc2 dX10_worst_3 kX10_136 ?_
  refine c_S1 (as := [_, _, _]) (st := []) dX10_worst_6 okX10_in lX10_122 ⟨rfl, rfl⟩ ⟨Nat.le_of_ble_eq_true rfl, Nat.le_of_ble_eq_true rfl⟩ rfl rfl (Nat.le_of_ble_eq_true rfl) (Nat.le_of_ble_eq_true rfl) (t_X10_in hn hF  rfl) ?_
  refine q_if_eq 73 dX10_worst_9 (by decide) (fun hc => ?_) (fun hc => ?_)
  · have h := q_it hc h
    refine q_bipush (v := (-2)) dX10_worst_73 (by decide) ?_
    cases h
    exact q_iret dX10_worst_75 rfl ⟨rfl, rfl⟩
  · have h := q_if hc h
    refine q_iload_n dX10_worst_12 rfl ?_
    refine q_i2l dX10_worst_13 ?_
    refine q_lconst (v := 0) dX10_worst_14 (by decide) ?_
    refine q_ldc2 dX10_worst_15 kX10_184 ?_
    refine c_S1 (as := [_, _, _]) (st := []) dX10_worst_18 okX10_in lX10_122 ⟨rfl, rfl⟩ ⟨Nat.le_of_ble_eq_true rfl, Nat.le_of_ble_eq_true rfl⟩ rfl rfl (Nat.le_of_ble_eq_true rfl) (Nat.le_of_ble_eq_true rfl) (t_X10_in hn hF  rfl) ?_
    refine q_if_eq 73 dX10_worst_21 (by decide) (fun hc => ?_) (fun hc => ?_)
    · have h := q_it hc h
      refine q_bipush (v := (-2)) dX10_worst_73 (by decide) ?_
      cases h
      exact q_iret dX10_worst_75 rfl ⟨rfl, rfl⟩
    · have h := q_if hc h
      refine q_iload_n dX10_worst_24 rfl ?_
      refine q_i2l dX10_worst_25 ?_
      refine q_lconst (v := 0) dX10_worst_26 (by decide) ?_
      refine q_ldc2 dX10_worst_27 kX10_184 ?_
      refine c_S1 (as := [_, _, _]) (st := []) dX10_worst_30 okX10_in lX10_122 ⟨rfl, rfl⟩ ⟨Nat.le_of_ble_eq_true rfl, Nat.le_of_ble_eq_true rfl⟩ rfl rfl (Nat.le_of_ble_eq_true rfl) (Nat.le_of_ble_eq_true rfl) (t_X10_in hn hF  rfl) ?_
      refine q_if_eq 73 dX10_worst_33 (by decide) (fun hc => ?_) (fun hc => ?_)
      · have h := q_it hc h
        refine q_bipush (v := (-2)) dX10_worst_73 (by decide) ?_
        cases h
        exact q_iret dX10_worst_75 rfl ⟨rfl, rfl⟩
      · have h := q_if hc h
        refine q_iload dX10_worst_36 rfl ?_
        refine q_i2l dX10_worst_38 ?_
        refine q_lconst (v := 0) dX10_worst_39 (by decide) ?_
        refine q_ldc2 dX10_worst_40 kX10_184 ?_
        refine c_S1 (as := [_, _, _]) (st := []) dX10_worst_43 okX10_in lX10_122 ⟨rfl, rfl⟩ ⟨Nat.le_of_ble_eq_true rfl, Nat.le_of_ble_eq_true rfl⟩ rfl rfl (Nat.le_of_ble_eq_true rfl) (Nat.le_of_ble_eq_true rfl) (t_X10_in hn hF  rfl) ?_
        refine q_if_eq 73 dX10_worst_46 (by decide) (fun hc => ?_) (fun hc => ?_)
        · have h := q_it hc h
          refine q_bipush (v := (-2)) dX10_worst_73 (by decide) ?_
          cases h
          exact q_iret dX10_worst_75 rfl ⟨rfl, rfl⟩
        · have h := q_if hc h
          refine q_iload dX10_worst_49 rfl ?_
          refine q_i2l dX10_worst_51 ?_
          refine q_lconst (v := 0) dX10_worst_52 (by decide) ?_
          refine q_ldc2 dX10_worst_53 kX10_184 ?_
          refine c_S1 (as := [_, _, _]) (st := []) dX10_worst_56 okX10_in lX10_122 ⟨rfl, rfl⟩ ⟨Nat.le_of_ble_eq_true rfl, Nat.le_of_ble_eq_true rfl⟩ rfl rfl (Nat.le_of_ble_eq_true rfl) (Nat.le_of_ble_eq_true rfl) (t_X10_in hn hF  rfl) ?_
          refine q_if_eq 73 dX10_worst_59 (by decide) (fun hc => ?_) (fun hc => ?_)
          · have h := q_it hc h
            refine q_bipush (v := (-2)) dX10_worst_73 (by decide) ?_
            cases h
            exact q_iret dX10_worst_75 rfl ⟨rfl, rfl⟩
          · have h := q_if hc h
            refine q_iload dX10_worst_62 rfl ?_
            refine q_i2l dX10_worst_64 ?_
            refine q_lconst (v := 0) dX10_worst_65 (by decide) ?_
            refine q_lconst (v := 1) dX10_worst_66 (by decide) ?_
            refine c_S1 (as := [_, _, _]) (st := []) dX10_worst_67 okX10_in lX10_122 ⟨rfl, rfl⟩ ⟨Nat.le_of_ble_eq_true rfl, Nat.le_of_ble_eq_true rfl⟩ rfl rfl (Nat.le_of_ble_eq_true rfl) (Nat.le_of_ble_eq_true rfl) (t_X10_in hn hF  rfl) ?_
            refine q_if_ne 76 dX10_worst_70 (by decide) (fun hc => ?_) (fun hc => ?_)
            · have h := q_if hc h
              refine q_aload_n dX10_worst_76 rfl ?_
              refine q_iload_n dX10_worst_77 rfl ?_
              obtain ⟨r1, hr2, h⟩ := q_bd h
              refine c_V0 (as := [_]) (st := []) (ci := 10) dX10_worst_78 okX10_layCaught lX10_260 ⟨rfl, rfl⟩ ⟨Nat.le_of_ble_eq_true rfl, Nat.le_of_ble_eq_true rfl⟩ (by decide) rfl rfl (Nat.lt_of_lt_of_le (Nat.le_of_ble_eq_true rfl) hn) rfl rfl (Nat.le_of_ble_eq_true rfl) (Nat.le_of_ble_eq_true rfl) (t_X10_layCaught hn hF  hr2) ?_
              refine q_aload_n dX10_worst_81 rfl ?_
              refine u_getr dX10_worst_82 fX10_70 rfl rfl (Nat.lt_of_lt_of_le (Nat.le_of_ble_eq_true rfl) hn) (hF 58 27 74 rfl) ?_
              refine q_iconst (v := 0) dX10_worst_85 (by decide) ?_
              refine q_iload_n dX10_worst_86 rfl ?_
              refine u_iast dX10_worst_87 rfl (Nat.lt_of_lt_of_le (Nat.le_of_ble_eq_true rfl) hn) (q_in_vp (by decide)) ?_
              refine q_aload_n dX10_worst_88 rfl ?_
              refine u_getr dX10_worst_89 fX10_70 rfl rfl (Nat.lt_of_lt_of_le (Nat.le_of_ble_eq_true rfl) hn) (hF 58 27 74 rfl) ?_
              refine q_iconst (v := 1) dX10_worst_92 (by decide) ?_
              refine q_iload_n dX10_worst_93 rfl ?_
              refine u_iast dX10_worst_94 rfl (Nat.lt_of_lt_of_le (Nat.le_of_ble_eq_true rfl) hn) (q_in_vp (by decide)) ?_
              refine q_aload_n dX10_worst_95 rfl ?_
              refine u_getr dX10_worst_96 fX10_70 rfl rfl (Nat.lt_of_lt_of_le (Nat.le_of_ble_eq_true rfl) hn) (hF 58 27 74 rfl) ?_
              refine q_iconst (v := 2) dX10_worst_99 (by decide) ?_
              refine q_iload dX10_worst_100 rfl ?_
              refine u_iast dX10_worst_102 rfl (Nat.lt_of_lt_of_le (Nat.le_of_ble_eq_true rfl) hn) (q_in_vp (by decide)) ?_
              refine q_aload_n dX10_worst_103 rfl ?_
              refine u_getr dX10_worst_104 fX10_70 rfl rfl (Nat.lt_of_lt_of_le (Nat.le_of_ble_eq_true rfl) hn) (hF 58 27 74 rfl) ?_
              refine q_iconst (v := 3) dX10_worst_107 (by decide) ?_
              refine q_iload dX10_worst_108 rfl ?_
              refine u_iast dX10_worst_110 rfl (Nat.lt_of_lt_of_le (Nat.le_of_ble_eq_true rfl) hn) (q_in_vp (by decide)) ?_
              refine q_aload_n dX10_worst_111 rfl ?_
              obtain ⟨r3, hr4, h⟩ := q_bd h
              refine c_V1 (as := []) (st := []) (ci := 10) dX10_worst_112 okX10_worstOf lX10_263 ⟨rfl, rfl⟩ ⟨Nat.le_of_ble_eq_true rfl, Nat.le_of_ble_eq_true rfl⟩ (by decide) rfl rfl (Nat.lt_of_lt_of_le (Nat.le_of_ble_eq_true rfl) hn) rfl rfl (Nat.le_of_ble_eq_true rfl) (Nat.le_of_ble_eq_true rfl) (t_X10_worstOf hn hF  hr4) ?_
              refine q_istore (ls' := [(0, _), (6, _), (7, _)]) [0, 6, 7] dX10_worst_115 (Nat.le_of_ble_eq_true rfl) rfl ?_
              refine q_iload dX10_worst_117 rfl ?_
              refine q_if_ne 127 dX10_worst_119 (by decide) (fun hc => ?_) (fun hc => ?_)
              · have h := q_if hc h
                refine q_aload_n dX10_worst_127 rfl ?_
                refine u_geti dX10_worst_128 fX10_257 rfl rfl (Nat.lt_of_lt_of_le (Nat.le_of_ble_eq_true rfl) hn) ?_
                cases h
                exact q_iret dX10_worst_131 rfl ⟨rfl, rfl⟩
              · have h := q_it hc h
                refine q_iload dX10_worst_122 rfl ?_
                refine q_goto 131 dX10_worst_124 (by decide) ?_
                cases h
                exact q_iret dX10_worst_131 rfl ⟨rfl, rfl⟩
            · have h := q_it hc h
              refine q_bipush (v := (-2)) dX10_worst_73 (by decide) ?_
              cases h
              exact q_iret dX10_worst_75 rfl ⟨rfl, rfl⟩
def l_X10_mix_157 : Nat → Int32 → Int32 → Int32 → Int32 → Int32 → q_Mm → Option (q_Mm)
  | 0, _, _, _, _, _, _ => none
  | k + 1, y2, y3, y4, y5, y7, m =>
    if 4 ≤ y7 then
      some (m)
    else
      if q_in y7 4 = true then
      if q_in y7 4 = true then
      l_X10_mix_157 k  y2 y3 y4 y5 (y7 + 1) (q_wi m 76 y7.toNatClampNeg (m.1 74 y7.toNatClampNeg))
      else none
      else none
set_option maxRecDepth 100000 in
set_option maxHeartbeats 4000000 in
theorem t_l_X10_mix_157 {g : q_G} {n : Nat} {F : Nat → Nat → Option Nat} {Z : List Frame → Array Value → State → State → Prop} {kc ks : Nat} (hn : 89 ≤ n) (hF : q_FF F)  : ∀ (k : Nat) (y2 : Int32) (y3 : Int32) (y4 : Int32) (y5 : Int32) (y7 : Int32) (m : q_Mm) {r : q_Mm}, l_X10_mix_157 k y2 y3 y4 y5 y7 m = some r → (q_V g mX10_mix q_T Z kc ks 183 [(0, q_r g 58), (2, .int y2), (3, .int y3), (4, .int y4), (5, .int y5)] [] (q_mk n F r)) → q_V g mX10_mix q_T Z kc ks 157 [(0, q_r g 58), (2, .int y2), (3, .int y3), (4, .int y4), (5, .int y5), (7, .int y7)] [] (q_mk n F m) := by
  intro k
  induction k with
  | zero => intro y2 y3 y4 y5 y7 m r h; cases h
  | succ k ih =>
    intro y2 y3 y4 y5 y7 m r h hx0
    unfold l_X10_mix_157 at h
    refine q_iload dX10_mix_157 rfl ?_
    refine q_iconst (v := 4) dX10_mix_159 (by decide) ?_
    refine q_icmp_ge 183 dX10_mix_160 (by decide) (fun hc => ?_) (fun hc => ?_)
    · have h := q_it hc h
      refine q_drop [0, 2, 3, 4, 5] (ls' := [(0, _), (2, _), (3, _), (4, _), (5, _)]) rfl ?_
      cases h
      exact hx0
    · have h := q_if hc h
      refine q_aload_n dX10_mix_163 rfl ?_
      refine u_getr dX10_mix_164 fX10_76 rfl rfl (Nat.lt_of_lt_of_le (Nat.le_of_ble_eq_true rfl) hn) (hF 58 30 76 rfl) ?_
      refine q_iload dX10_mix_167 rfl ?_
      refine q_aload_n dX10_mix_169 rfl ?_
      refine u_getr dX10_mix_170 fX10_70 rfl rfl (Nat.lt_of_lt_of_le (Nat.le_of_ble_eq_true rfl) hn) (hF 58 27 74 rfl) ?_
      refine q_iload dX10_mix_173 rfl ?_
      obtain ⟨hi5, h⟩ := q_is h
      refine u_iald dX10_mix_175 rfl (Nat.lt_of_lt_of_le (Nat.le_of_ble_eq_true rfl) hn) (q_in_vp hi5) ?_
      obtain ⟨hi6, h⟩ := q_is h
      refine u_iast dX10_mix_176 rfl (Nat.lt_of_lt_of_le (Nat.le_of_ble_eq_true rfl) hn) (q_in_vp hi6) ?_
      refine q_iinc1 (w := 1) (ls' := [(0, _), (2, _), (3, _), (4, _), (5, _), (7, _)]) [0, 2, 3, 4, 5, 7] dX10_mix_177 rfl (by decide) (Nat.le_of_ble_eq_true rfl) rfl ?_
      refine q_goto 157 dX10_mix_180 (by decide) ?_
      exact ih _ _ _ _ _ _ h hx0
def l_X10_mix_50 : Nat → Int32 → Int32 → Int32 → Int32 → q_Mm → Option (Int32 × q_Mm)
  | 0, _, _, _, _, _ => none
  | k + 1, y2, y3, y4, y5, m =>
    if 2197 ≤ y5 then
      some (y4, m)
    else
      if ((q_wi (q_wi (q_wi (q_wi m 74 ((0 : Int32).toNatClampNeg) (y5 / 169)) 74 ((1 : Int32).toNatClampNeg) (q_rm (y5 / 13) 13)) 74 ((2 : Int32).toNatClampNeg) (q_rm y5 13)) 74 ((3 : Int32).toNatClampNeg) (((y2 - ((q_wi (q_wi (q_wi m 74 ((0 : Int32).toNatClampNeg) (y5 / 169)) 74 ((1 : Int32).toNatClampNeg) (q_rm (y5 / 13) 13)) 74 ((2 : Int32).toNatClampNeg) (q_rm y5 13)).1 74 (0 : Int32).toNatClampNeg)) - ((q_wi (q_wi (q_wi m 74 ((0 : Int32).toNatClampNeg) (y5 / 169)) 74 ((1 : Int32).toNatClampNeg) (q_rm (y5 / 13) 13)) 74 ((2 : Int32).toNatClampNeg) (q_rm y5 13)).1 74 (1 : Int32).toNatClampNeg)) - ((q_wi (q_wi (q_wi m 74 ((0 : Int32).toNatClampNeg) (y5 / 169)) 74 ((1 : Int32).toNatClampNeg) (q_rm (y5 / 13) 13)) 74 ((2 : Int32).toNatClampNeg) (q_rm y5 13)).1 74 (2 : Int32).toNatClampNeg))).1 74 (3 : Int32).toNatClampNeg) < 0 then
        l_X10_mix_50 k  y2 y3 y4 (y5 + 1) (q_wi (q_wi (q_wi (q_wi m 74 ((0 : Int32).toNatClampNeg) (y5 / 169)) 74 ((1 : Int32).toNatClampNeg) (q_rm (y5 / 13) 13)) 74 ((2 : Int32).toNatClampNeg) (q_rm y5 13)) 74 ((3 : Int32).toNatClampNeg) (((y2 - ((q_wi (q_wi (q_wi m 74 ((0 : Int32).toNatClampNeg) (y5 / 169)) 74 ((1 : Int32).toNatClampNeg) (q_rm (y5 / 13) 13)) 74 ((2 : Int32).toNatClampNeg) (q_rm y5 13)).1 74 (0 : Int32).toNatClampNeg)) - ((q_wi (q_wi (q_wi m 74 ((0 : Int32).toNatClampNeg) (y5 / 169)) 74 ((1 : Int32).toNatClampNeg) (q_rm (y5 / 13) 13)) 74 ((2 : Int32).toNatClampNeg) (q_rm y5 13)).1 74 (1 : Int32).toNatClampNeg)) - ((q_wi (q_wi (q_wi m 74 ((0 : Int32).toNatClampNeg) (y5 / 169)) 74 ((1 : Int32).toNatClampNeg) (q_rm (y5 / 13) 13)) 74 ((2 : Int32).toNatClampNeg) (q_rm y5 13)).1 74 (2 : Int32).toNatClampNeg)))
      else
        (f_X10_worstOf  (q_wi (q_wi (q_wi (q_wi m 74 ((0 : Int32).toNatClampNeg) (y5 / 169)) 74 ((1 : Int32).toNatClampNeg) (q_rm (y5 / 13) 13)) 74 ((2 : Int32).toNatClampNeg) (q_rm y5 13)) 74 ((3 : Int32).toNatClampNeg) (((y2 - ((q_wi (q_wi (q_wi m 74 ((0 : Int32).toNatClampNeg) (y5 / 169)) 74 ((1 : Int32).toNatClampNeg) (q_rm (y5 / 13) 13)) 74 ((2 : Int32).toNatClampNeg) (q_rm y5 13)).1 74 (0 : Int32).toNatClampNeg)) - ((q_wi (q_wi (q_wi m 74 ((0 : Int32).toNatClampNeg) (y5 / 169)) 74 ((1 : Int32).toNatClampNeg) (q_rm (y5 / 13) 13)) 74 ((2 : Int32).toNatClampNeg) (q_rm y5 13)).1 74 (1 : Int32).toNatClampNeg)) - ((q_wi (q_wi (q_wi m 74 ((0 : Int32).toNatClampNeg) (y5 / 169)) 74 ((1 : Int32).toNatClampNeg) (q_rm (y5 / 13) 13)) 74 ((2 : Int32).toNatClampNeg) (q_rm y5 13)).1 74 (2 : Int32).toNatClampNeg)))).bind fun r3 =>
        if y4 < 0 then
          (l_X10_mix_157 7000  y2 y3 r3.1 y5 0 r3.2).bind fun r7 =>
          l_X10_mix_50 k  y2 y3 r3.1 (y5 + 1) r7
        else
          if y4 ≤ r3.1 then
            l_X10_mix_50 k  y2 y3 y4 (y5 + 1) r3.2
          else
            (l_X10_mix_157 7000  y2 y3 r3.1 y5 0 r3.2).bind fun r9 =>
            l_X10_mix_50 k  y2 y3 r3.1 (y5 + 1) r9
set_option maxRecDepth 100000 in
set_option maxHeartbeats 4000000 in
theorem t_l_X10_mix_50 {g : q_G} {n : Nat} {F : Nat → Nat → Option Nat} {Z : List Frame → Array Value → State → State → Prop} {kc ks : Nat} (hn : 89 ≤ n) (hF : q_FF F)  : ∀ (k : Nat) (y2 : Int32) (y3 : Int32) (y4 : Int32) (y5 : Int32) (m : q_Mm) {r : Int32 × q_Mm}, l_X10_mix_50 k y2 y3 y4 y5 m = some r → (q_V g mX10_mix q_T Z kc ks 189 [(0, q_r g 58), (3, .int y3), (4, .int r.1)] [] (q_mk n F r.2)) → q_V g mX10_mix q_T Z kc ks 50 [(0, q_r g 58), (2, .int y2), (3, .int y3), (4, .int y4), (5, .int y5)] [] (q_mk n F m) := by
  intro k
  induction k with
  | zero => intro y2 y3 y4 y5 m r h; cases h
  | succ k ih =>
    intro y2 y3 y4 y5 m r h hx0
    unfold l_X10_mix_50 at h
    refine q_iload dX10_mix_50 rfl ?_
    refine q_sipush (v := 2197) dX10_mix_52 (by decide) ?_
    refine q_icmp_ge 189 dX10_mix_55 (by decide) (fun hc => ?_) (fun hc => ?_)
    · have h := q_it hc h
      refine q_drop [0, 3, 4] (ls' := [(0, _), (3, _), (4, _)]) rfl ?_
      cases h
      exact hx0
    · have h := q_if hc h
      refine q_aload_n dX10_mix_58 rfl ?_
      refine u_getr dX10_mix_59 fX10_70 rfl rfl (Nat.lt_of_lt_of_le (Nat.le_of_ble_eq_true rfl) hn) (hF 58 27 74 rfl) ?_
      refine q_iconst (v := 0) dX10_mix_62 (by decide) ?_
      refine q_iload dX10_mix_63 rfl ?_
      refine q_sipush (v := 169) dX10_mix_65 (by decide) ?_
      refine q_idiv dX10_mix_68 (by decide) ?_
      refine u_iast dX10_mix_69 rfl (Nat.lt_of_lt_of_le (Nat.le_of_ble_eq_true rfl) hn) (q_in_vp (by decide)) ?_
      refine q_aload_n dX10_mix_70 rfl ?_
      refine u_getr dX10_mix_71 fX10_70 rfl rfl (Nat.lt_of_lt_of_le (Nat.le_of_ble_eq_true rfl) hn) (hF 58 27 74 rfl) ?_
      refine q_iconst (v := 1) dX10_mix_74 (by decide) ?_
      refine q_iload dX10_mix_75 rfl ?_
      refine q_bipush (v := 13) dX10_mix_77 (by decide) ?_
      refine q_idiv dX10_mix_79 (by decide) ?_
      refine q_bipush (v := 13) dX10_mix_80 (by decide) ?_
      refine q_irm dX10_mix_82 (by decide) ?_
      refine u_iast dX10_mix_83 rfl (Nat.lt_of_lt_of_le (Nat.le_of_ble_eq_true rfl) hn) (q_in_vp (by decide)) ?_
      refine q_aload_n dX10_mix_84 rfl ?_
      refine u_getr dX10_mix_85 fX10_70 rfl rfl (Nat.lt_of_lt_of_le (Nat.le_of_ble_eq_true rfl) hn) (hF 58 27 74 rfl) ?_
      refine q_iconst (v := 2) dX10_mix_88 (by decide) ?_
      refine q_iload dX10_mix_89 rfl ?_
      refine q_bipush (v := 13) dX10_mix_91 (by decide) ?_
      refine q_irm dX10_mix_93 (by decide) ?_
      refine u_iast dX10_mix_94 rfl (Nat.lt_of_lt_of_le (Nat.le_of_ble_eq_true rfl) hn) (q_in_vp (by decide)) ?_
      refine q_aload_n dX10_mix_95 rfl ?_
      refine u_getr dX10_mix_96 fX10_70 rfl rfl (Nat.lt_of_lt_of_le (Nat.le_of_ble_eq_true rfl) hn) (hF 58 27 74 rfl) ?_
      refine q_iconst (v := 3) dX10_mix_99 (by decide) ?_
      refine q_iload_n dX10_mix_100 rfl ?_
      refine q_aload_n dX10_mix_101 rfl ?_
      refine u_getr dX10_mix_102 fX10_70 rfl rfl (Nat.lt_of_lt_of_le (Nat.le_of_ble_eq_true rfl) hn) (hF 58 27 74 rfl) ?_
      refine q_iconst (v := 0) dX10_mix_105 (by decide) ?_
      refine u_iald dX10_mix_106 rfl (Nat.lt_of_lt_of_le (Nat.le_of_ble_eq_true rfl) hn) (q_in_vp (by decide)) ?_
      refine q_isub dX10_mix_107 ?_
      refine q_aload_n dX10_mix_108 rfl ?_
      refine u_getr dX10_mix_109 fX10_70 rfl rfl (Nat.lt_of_lt_of_le (Nat.le_of_ble_eq_true rfl) hn) (hF 58 27 74 rfl) ?_
      refine q_iconst (v := 1) dX10_mix_112 (by decide) ?_
      refine u_iald dX10_mix_113 rfl (Nat.lt_of_lt_of_le (Nat.le_of_ble_eq_true rfl) hn) (q_in_vp (by decide)) ?_
      refine q_isub dX10_mix_114 ?_
      refine q_aload_n dX10_mix_115 rfl ?_
      refine u_getr dX10_mix_116 fX10_70 rfl rfl (Nat.lt_of_lt_of_le (Nat.le_of_ble_eq_true rfl) hn) (hF 58 27 74 rfl) ?_
      refine q_iconst (v := 2) dX10_mix_119 (by decide) ?_
      refine u_iald dX10_mix_120 rfl (Nat.lt_of_lt_of_le (Nat.le_of_ble_eq_true rfl) hn) (q_in_vp (by decide)) ?_
      refine q_isub dX10_mix_121 ?_
      refine u_iast dX10_mix_122 rfl (Nat.lt_of_lt_of_le (Nat.le_of_ble_eq_true rfl) hn) (q_in_vp (by decide)) ?_
      refine q_aload_n dX10_mix_123 rfl ?_
      refine u_getr dX10_mix_124 fX10_70 rfl rfl (Nat.lt_of_lt_of_le (Nat.le_of_ble_eq_true rfl) hn) (hF 58 27 74 rfl) ?_
      refine q_iconst (v := 3) dX10_mix_127 (by decide) ?_
      refine u_iald dX10_mix_128 rfl (Nat.lt_of_lt_of_le (Nat.le_of_ble_eq_true rfl) hn) (q_in_vp (by decide)) ?_
      refine q_if_lt 183 dX10_mix_129 (by decide) (fun hc => ?_) (fun hc => ?_)
      · have h := q_it hc h
        refine q_iinc1 (w := 1) (ls' := [(0, _), (2, _), (3, _), (4, _), (5, _)]) [0, 2, 3, 4, 5] dX10_mix_183 rfl (by decide) (Nat.le_of_ble_eq_true rfl) rfl ?_
        refine q_goto 50 dX10_mix_186 (by decide) ?_
        exact ih _ _ _ _ _ h hx0
      · have h := q_if hc h
        refine q_aload_n dX10_mix_132 rfl ?_
        obtain ⟨r3, hr4, h⟩ := q_bd h
        refine c_V1 (as := []) (st := []) (ci := 10) dX10_mix_133 okX10_worstOf lX10_263 ⟨rfl, rfl⟩ ⟨Nat.le_of_ble_eq_true rfl, Nat.le_of_ble_eq_true rfl⟩ (by decide) rfl rfl (Nat.lt_of_lt_of_le (Nat.le_of_ble_eq_true rfl) hn) rfl rfl (Nat.le_of_ble_eq_true rfl) (Nat.le_of_ble_eq_true rfl) (t_X10_worstOf hn hF  hr4) ?_
        refine q_istore (ls' := [(0, _), (2, _), (3, _), (4, _), (5, _), (6, _)]) [0, 2, 3, 4, 5, 6] dX10_mix_136 (Nat.le_of_ble_eq_true rfl) rfl ?_
        refine q_iload dX10_mix_138 rfl ?_
        refine q_if_lt 150 dX10_mix_140 (by decide) (fun hc => ?_) (fun hc => ?_)
        · have h := q_it hc h
          refine q_iload dX10_mix_150 rfl ?_
          refine q_istore (ls' := [(0, _), (2, _), (3, _), (4, _), (5, _)]) [0, 2, 3, 4, 5] dX10_mix_152 (Nat.le_of_ble_eq_true rfl) rfl ?_
          refine q_iconst (v := 0) dX10_mix_154 (by decide) ?_
          refine q_istore (ls' := [(0, _), (2, _), (3, _), (4, _), (5, _), (7, _)]) [0, 2, 3, 4, 5, 7] dX10_mix_155 (Nat.le_of_ble_eq_true rfl) rfl ?_
          obtain ⟨r7, hr8, h⟩ := q_bd h
          refine t_l_X10_mix_157 hn hF  7000 _ _ _ _ _ _ hr8 ?_
          refine q_iinc1 (w := 1) (ls' := [(0, _), (2, _), (3, _), (4, _), (5, _)]) [0, 2, 3, 4, 5] dX10_mix_183 rfl (by decide) (Nat.le_of_ble_eq_true rfl) rfl ?_
          refine q_goto 50 dX10_mix_186 (by decide) ?_
          exact ih _ _ _ _ _ h hx0
        · have h := q_if hc h
          refine q_iload dX10_mix_143 rfl ?_
          refine q_iload dX10_mix_145 rfl ?_
          refine q_icmp_ge 183 dX10_mix_147 (by decide) (fun hc => ?_) (fun hc => ?_)
          · have h := q_it hc h
            refine q_iinc1 (w := 1) (ls' := [(0, _), (2, _), (3, _), (4, _), (5, _)]) [0, 2, 3, 4, 5] dX10_mix_183 rfl (by decide) (Nat.le_of_ble_eq_true rfl) rfl ?_
            refine q_goto 50 dX10_mix_186 (by decide) ?_
            exact ih _ _ _ _ _ h hx0
          · have h := q_if hc h
            refine q_iload dX10_mix_150 rfl ?_
            refine q_istore (ls' := [(0, _), (2, _), (3, _), (4, _), (5, _)]) [0, 2, 3, 4, 5] dX10_mix_152 (Nat.le_of_ble_eq_true rfl) rfl ?_
            refine q_iconst (v := 0) dX10_mix_154 (by decide) ?_
            refine q_istore (ls' := [(0, _), (2, _), (3, _), (4, _), (5, _), (7, _)]) [0, 2, 3, 4, 5, 7] dX10_mix_155 (Nat.le_of_ble_eq_true rfl) rfl ?_
            obtain ⟨r9, hr10, h⟩ := q_bd h
            refine t_l_X10_mix_157 hn hF  7000 _ _ _ _ _ _ hr10 ?_
            refine q_iinc1 (w := 1) (ls' := [(0, _), (2, _), (3, _), (4, _), (5, _)]) [0, 2, 3, 4, 5] dX10_mix_183 rfl (by decide) (Nat.le_of_ble_eq_true rfl) rfl ?_
            refine q_goto 50 dX10_mix_186 (by decide) ?_
            exact ih _ _ _ _ _ h hx0
def f_X10_mix (x1 : Int32) (x2 : Int32) (x3 : Int32) (m : q_Mm) : Option (Int32 × q_Mm) :=
  if (f_X10_in x1.toInt64 0 600 m) = 0 then
    some (((-2), m))
  else
    if (f_X10_in x2.toInt64 1 12 m) = 0 then
      some (((-2), m))
    else
      if (f_X10_in x3.toInt64 0 4 m) = 0 then
        some (((-2), m))
      else
        (f_X10_layCaught x1 m).bind fun r1 =>
        (l_X10_mix_50 7000  x2 x3 (-1) 0 r1).bind fun r11 =>
        if x3 = 4 then
          some ((r11.1, r11.2))
        else
          if q_in x3 4 = true then
          some ((r11.2.1 76 x3.toNatClampNeg, r11.2))
          else none
set_option maxRecDepth 100000 in
set_option maxHeartbeats 4000000 in
theorem t_X10_mix {g : q_G} {n : Nat} {F : Nat → Nat → Option Nat} (hn : 89 ≤ n) (hF : q_FF F)  {x1 : Int32} {x2 : Int32} {x3 : Int32} {m : q_Mm} {r : Int32 × q_Mm} (h : f_X10_mix x1 x2 x3 m = some r) : q_Cn g mX10_mix [q_r g 58, .int x1, .int x2, .int x3] (q_mk n F m) (q_Q (some (.int r.1)) (q_mk n F r.2)) := by
  unfold f_X10_mix at h
  show q_V g mX10_mix q_T _ _ _ 0 [(0, q_r g 58), (1, .int x1), (2, .int x2), (3, .int x3)] [] (q_mk n F m)
  refine q_iload_n dX10_mix_0 rfl ?_
  refine q_i2l dX10_mix_1 ?_
  refine q_lconst (v := 0) dX10_mix_2 (by decide) ?_
  refine q_ldc2 dX10_mix_3 kX10_136 ?_
  refine c_S1 (as := [_, _, _]) (st := []) dX10_mix_6 okX10_in lX10_122 ⟨rfl, rfl⟩ ⟨Nat.le_of_ble_eq_true rfl, Nat.le_of_ble_eq_true rfl⟩ rfl rfl (Nat.le_of_ble_eq_true rfl) (Nat.le_of_ble_eq_true rfl) (t_X10_in hn hF  rfl) ?_
  refine q_if_eq 36 dX10_mix_9 (by decide) (fun hc => ?_) (fun hc => ?_)
  · have h := q_it hc h
    refine q_bipush (v := (-2)) dX10_mix_36 (by decide) ?_
    cases h
    exact q_iret dX10_mix_38 rfl ⟨rfl, rfl⟩
  · have h := q_if hc h
    refine q_iload_n dX10_mix_12 rfl ?_
    refine q_i2l dX10_mix_13 ?_
    refine q_lconst (v := 1) dX10_mix_14 (by decide) ?_
    refine q_ldc2 dX10_mix_15 kX10_267 ?_
    refine c_S1 (as := [_, _, _]) (st := []) dX10_mix_18 okX10_in lX10_122 ⟨rfl, rfl⟩ ⟨Nat.le_of_ble_eq_true rfl, Nat.le_of_ble_eq_true rfl⟩ rfl rfl (Nat.le_of_ble_eq_true rfl) (Nat.le_of_ble_eq_true rfl) (t_X10_in hn hF  rfl) ?_
    refine q_if_eq 36 dX10_mix_21 (by decide) (fun hc => ?_) (fun hc => ?_)
    · have h := q_it hc h
      refine q_bipush (v := (-2)) dX10_mix_36 (by decide) ?_
      cases h
      exact q_iret dX10_mix_38 rfl ⟨rfl, rfl⟩
    · have h := q_if hc h
      refine q_iload_n dX10_mix_24 rfl ?_
      refine q_i2l dX10_mix_25 ?_
      refine q_lconst (v := 0) dX10_mix_26 (by decide) ?_
      refine q_ldc2 dX10_mix_27 kX10_134 ?_
      refine c_S1 (as := [_, _, _]) (st := []) dX10_mix_30 okX10_in lX10_122 ⟨rfl, rfl⟩ ⟨Nat.le_of_ble_eq_true rfl, Nat.le_of_ble_eq_true rfl⟩ rfl rfl (Nat.le_of_ble_eq_true rfl) (Nat.le_of_ble_eq_true rfl) (t_X10_in hn hF  rfl) ?_
      refine q_if_ne 39 dX10_mix_33 (by decide) (fun hc => ?_) (fun hc => ?_)
      · have h := q_if hc h
        refine q_aload_n dX10_mix_39 rfl ?_
        refine q_iload_n dX10_mix_40 rfl ?_
        obtain ⟨r1, hr2, h⟩ := q_bd h
        refine c_V0 (as := [_]) (st := []) (ci := 10) dX10_mix_41 okX10_layCaught lX10_260 ⟨rfl, rfl⟩ ⟨Nat.le_of_ble_eq_true rfl, Nat.le_of_ble_eq_true rfl⟩ (by decide) rfl rfl (Nat.lt_of_lt_of_le (Nat.le_of_ble_eq_true rfl) hn) rfl rfl (Nat.le_of_ble_eq_true rfl) (Nat.le_of_ble_eq_true rfl) (t_X10_layCaught hn hF  hr2) ?_
        refine q_iconst (v := (-1)) dX10_mix_44 (by decide) ?_
        refine q_istore (ls' := [(0, _), (2, _), (3, _), (4, _)]) [0, 2, 3, 4] dX10_mix_45 (Nat.le_of_ble_eq_true rfl) rfl ?_
        refine q_iconst (v := 0) dX10_mix_47 (by decide) ?_
        refine q_istore (ls' := [(0, _), (2, _), (3, _), (4, _), (5, _)]) [0, 2, 3, 4, 5] dX10_mix_48 (Nat.le_of_ble_eq_true rfl) rfl ?_
        obtain ⟨r11, hr12, h⟩ := q_bd h
        refine t_l_X10_mix_50 hn hF  7000 _ _ _ _ _ hr12 ?_
        refine q_iload_n dX10_mix_189 rfl ?_
        refine q_iconst (v := 4) dX10_mix_190 (by decide) ?_
        refine q_icmp_ne 199 dX10_mix_191 (by decide) (fun hc => ?_) (fun hc => ?_)
        · have h := q_if hc h
          refine q_aload_n dX10_mix_199 rfl ?_
          refine u_getr dX10_mix_200 fX10_76 rfl rfl (Nat.lt_of_lt_of_le (Nat.le_of_ble_eq_true rfl) hn) (hF 58 30 76 rfl) ?_
          refine q_iload_n dX10_mix_203 rfl ?_
          obtain ⟨hi13, h⟩ := q_is h
          refine u_iald dX10_mix_204 rfl (Nat.lt_of_lt_of_le (Nat.le_of_ble_eq_true rfl) hn) (q_in_vp hi13) ?_
          cases h
          exact q_iret dX10_mix_205 rfl ⟨rfl, rfl⟩
        · have h := q_it hc h
          refine q_iload dX10_mix_194 rfl ?_
          refine q_goto 205 dX10_mix_196 (by decide) ?_
          cases h
          exact q_iret dX10_mix_205 rfl ⟨rfl, rfl⟩
      · have h := q_it hc h
        refine q_bipush (v := (-2)) dX10_mix_36 (by decide) ?_
        cases h
        exact q_iret dX10_mix_38 rfl ⟨rfl, rfl⟩
