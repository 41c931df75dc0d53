def l_X10_canStay_10 : Nat → Int32 → Int32 → Int32 → q_Mm → Option (Int32)
  | 0, _, _, _, _ => none
  | k + 1, y1, y3, y4, m =>
    if 41 < y4 then
      some (y3)
    else
      if y3 = 0 then
        some (y3)
      else
        (f_X10_isFree y1 y4 m).bind fun r3 =>
        l_X10_canStay_10 k  y1 r3 (y4 + 1) m
set_option maxRecDepth 100000 in
set_option maxHeartbeats 4000000 in
theorem t_l_X10_canStay_10 {g : q_G} {n : Nat} {F : Nat → Nat → Option Nat} {Z : List Frame → Array Value → State → State → Prop} {kc ks : Nat} (hn : 89 ≤ n) (hF : q_FF F)  : ∀ (k : Nat) (y1 : Int32) (y3 : Int32) (y4 : Int32) (m : q_Mm) {r : Int32}, l_X10_canStay_10 k y1 y3 y4 m = some r → (q_V g mX10_canStay q_T Z kc ks 35 [(3, .int r)] [] (q_mk n F m)) → q_V g mX10_canStay q_T Z kc ks 10 [(0, q_r g 58), (1, .int y1), (3, .int y3), (4, .int y4)] [] (q_mk n F m) := by
  intro k
  induction k with
  | zero => intro y1 y3 y4 m r h; cases h
  | succ k ih =>
    intro y1 y3 y4 m r h hx0
    unfold l_X10_canStay_10 at h
    refine q_iload dX10_canStay_10 rfl ?_
    refine q_bipush (v := 41) dX10_canStay_12 (by decide) ?_
    refine q_icmp_gt 35 dX10_canStay_14 (by decide) (fun hc => ?_) (fun hc => ?_)
    · have h := q_it hc h
      refine q_drop [3] (ls' := [(3, _)]) rfl ?_
      cases h
      exact hx0
    · have h := q_if hc h
      refine q_iload_n dX10_canStay_17 rfl ?_
      refine q_if_eq 35 dX10_canStay_18 (by decide) (fun hc => ?_) (fun hc => ?_)
      · have h := q_it hc h
        refine q_drop [3] (ls' := [(3, _)]) rfl ?_
        cases h
        exact hx0
      · have h := q_if hc h
        refine q_aload_n dX10_canStay_21 rfl ?_
        refine q_iload_n dX10_canStay_22 rfl ?_
        refine q_iload dX10_canStay_23 rfl ?_
        obtain ⟨r3, hr4, h⟩ := q_bd h
        refine c_V1 (as := [_, _]) (st := []) (ci := 10) dX10_canStay_25 okX10_isFree lX10_297 ⟨rfl, rfl⟩ ⟨Nat.le_of_ble_eq_true rfl, Nat.le_of_ble_eq_true rfl⟩ (by decide) rfl rfl (Nat.lt_of_lt_of_le (Nat.le_of_ble_eq_true rfl) hn) rfl rfl (Nat.le_of_ble_eq_true rfl) (Nat.le_of_ble_eq_true rfl) (t_X10_isFree hn hF  hr4) ?_
        refine q_istore_n (ls' := [(0, _), (1, _), (3, _), (4, _)]) [0, 1, 3, 4] dX10_canStay_28 (Nat.le_of_ble_eq_true rfl) rfl ?_
        refine q_iinc1 (w := 1) (ls' := [(0, _), (1, _), (3, _), (4, _)]) [0, 1, 3, 4] dX10_canStay_29 rfl (by decide) (Nat.le_of_ble_eq_true rfl) rfl ?_
        refine q_goto 10 dX10_canStay_32 (by decide) ?_
        exact ih _ _ _ _ h hx0
def f_X10_canStay (x1 : Int32) (x2 : Int32) (m : q_Mm) : Option (Int32) :=
  (f_X10_isFree x1 x2 m).bind fun r1 =>
  (l_X10_canStay_10 7000  x1 r1 x2 m).bind fun r5 =>
  if r5 = 0 ∨ r5 = 1 then
  some (r5)
  else none
set_option maxRecDepth 100000 in
set_option maxHeartbeats 4000000 in
theorem t_X10_canStay {g : q_G} {n : Nat} {F : Nat → Nat → Option Nat} (hn : 89 ≤ n) (hF : q_FF F)  {x1 : Int32} {x2 : Int32} {m : q_Mm} {r : Int32} (h : f_X10_canStay x1 x2 m = some r) : q_Cn g mX10_canStay [q_r g 58, .int x1, .int x2] (q_mk n F m) (q_Q (some (.int r)) (q_mk n F m)) := by
  unfold f_X10_canStay at h
  show q_V g mX10_canStay q_T _ _ _ 0 [(0, q_r g 58), (1, .int x1), (2, .int x2)] [] (q_mk n F m)
  refine q_aload_n dX10_canStay_0 rfl ?_
  refine q_iload_n dX10_canStay_1 rfl ?_
  refine q_iload_n dX10_canStay_2 rfl ?_
  obtain ⟨r1, hr2, h⟩ := q_bd h
  refine c_V1 (as := [_, _]) (st := []) (ci := 10) dX10_canStay_3 okX10_isFree lX10_297 ⟨rfl, rfl⟩ ⟨Nat.le_of_ble_eq_true rfl, Nat.le_of_ble_eq_true rfl⟩ (by decide) rfl rfl (Nat.lt_of_lt_of_le (Nat.le_of_ble_eq_true rfl) hn) rfl rfl (Nat.le_of_ble_eq_true rfl) (Nat.le_of_ble_eq_true rfl) (t_X10_isFree hn hF  hr2) ?_
  refine q_istore_n (ls' := [(0, _), (1, _), (2, _), (3, _)]) [0, 1, 2, 3] dX10_canStay_6 (Nat.le_of_ble_eq_true rfl) rfl ?_
  refine q_iload_n dX10_canStay_7 rfl ?_
  refine q_istore (ls' := [(0, _), (1, _), (3, _), (4, _)]) [0, 1, 3, 4] dX10_canStay_8 (Nat.le_of_ble_eq_true rfl) rfl ?_
  obtain ⟨r5, hr6, h⟩ := q_bd h
  refine t_l_X10_canStay_10 hn hF  7000 _ _ _ _ hr6 ?_
  refine q_iload_n dX10_canStay_35 rfl ?_
  obtain ⟨hb7, h⟩ := q_is h
  cases h
  exact q_zret dX10_canStay_36 rfl (q_bo_n hb7) ⟨rfl, rfl⟩
def f_X10_placeOf (x0 : Int32) (x1 : Int32) (x2 : Int32) (m : q_Mm) : (Int32) :=
  (144 * ((41 * x0) + x1)) + x2
set_option maxRecDepth 100000 in
set_option maxHeartbeats 4000000 in
theorem t_X10_placeOf {g : q_G} {n : Nat} {F : Nat → Nat → Option Nat} (hn : 89 ≤ n) (hF : q_FF F)  {x0 : Int32} {x1 : Int32} {x2 : Int32} {m : q_Mm} {r : Int32} (h : f_X10_placeOf x0 x1 x2 m = r) : q_Cn g mX10_placeOf [.int x0, .int x1, .int x2] (q_mk n F m) (q_Q (some (.int r)) (q_mk n F m)) := by
  unfold f_X10_placeOf at h
  show q_V g mX10_placeOf q_T _ _ _ 0 [(0, .int x0), (1, .int x1), (2, .int x2)] [] (q_mk n F m)
  refine q_sipush (v := 144) dX10_placeOf_0 (by decide) ?_
  refine q_bipush (v := 41) dX10_placeOf_3 (by decide) ?_
  refine q_iload_n dX10_placeOf_5 rfl ?_
  refine q_imul dX10_placeOf_6 ?_
  refine q_iload_n dX10_placeOf_7 rfl ?_
  refine q_iadd dX10_placeOf_8 ?_
  refine q_imul dX10_placeOf_9 ?_
  refine q_iload_n dX10_placeOf_10 rfl ?_
  refine q_iadd dX10_placeOf_11 ?_
  subst h
  exact q_iret dX10_placeOf_12 rfl ⟨rfl, rfl⟩
def f_X10_byMove (x1 : Int32) (x2 : Int32) (x3 : Int32) (x4 : Int32) (m : q_Mm) : Option (Int32) :=
  if x3 = x4 then
    if (0 : Int32) = 0 then
      (f_X10_isFree x4 (x1 + 1) m).bind fun r1 =>
      if r1 = 0 then
        some (1000000000)
      else
        if (0 : Int32) = 0 then
          if q_in (f_X10_placeOf (x1 + 1) x2 x4 m) 242064 = true then
          if (m.1 85 (f_X10_placeOf (x1 + 1) x2 x4 m).toNatClampNeg) = 1000000000 then
            some (1000000000)
          else
            if q_in x4 144 = true then
            if (0 : Int32) = 0 then
              some ((((m.1 85 (f_X10_placeOf (x1 + 1) x2 x4 m).toNatClampNeg) + (10000 * (m.1 81 x4.toNatClampNeg))) + 100) + 0)
            else
              some ((((m.1 85 (f_X10_placeOf (x1 + 1) x2 x4 m).toNatClampNeg) + (10000 * (m.1 81 x4.toNatClampNeg))) + 100) + 1)
            else none
          else none
        else
          if q_in (f_X10_placeOf (x1 + 1) (x2 - 1) x4 m) 242064 = true then
          if (m.1 85 (f_X10_placeOf (x1 + 1) (x2 - 1) x4 m).toNatClampNeg) = 1000000000 then
            some (1000000000)
          else
            if q_in x4 144 = true then
            if (0 : Int32) = 0 then
              some ((((m.1 85 (f_X10_placeOf (x1 + 1) (x2 - 1) x4 m).toNatClampNeg) + (10000 * (m.1 81 x4.toNatClampNeg))) + 100) + 0)
            else
              some ((((m.1 85 (f_X10_placeOf (x1 + 1) (x2 - 1) x4 m).toNatClampNeg) + (10000 * (m.1 81 x4.toNatClampNeg))) + 100) + 1)
            else none
          else none
    else
      if x2 = 0 then
        some (1000000000)
      else
        (f_X10_isFree x4 (x1 + 1) m).bind fun r7 =>
        if r7 = 0 then
          some (1000000000)
        else
          if (0 : Int32) = 0 then
            if q_in (f_X10_placeOf (x1 + 1) x2 x4 m) 242064 = true then
            if (m.1 85 (f_X10_placeOf (x1 + 1) x2 x4 m).toNatClampNeg) = 1000000000 then
              some (1000000000)
            else
              if q_in x4 144 = true then
              if (0 : Int32) = 0 then
                some ((((m.1 85 (f_X10_placeOf (x1 + 1) x2 x4 m).toNatClampNeg) + (10000 * (m.1 81 x4.toNatClampNeg))) + 100) + 0)
              else
                some ((((m.1 85 (f_X10_placeOf (x1 + 1) x2 x4 m).toNatClampNeg) + (10000 * (m.1 81 x4.toNatClampNeg))) + 100) + 1)
              else none
            else none
          else
            if q_in (f_X10_placeOf (x1 + 1) (x2 - 1) x4 m) 242064 = true then
            if (m.1 85 (f_X10_placeOf (x1 + 1) (x2 - 1) x4 m).toNatClampNeg) = 1000000000 then
              some (1000000000)
            else
              if q_in x4 144 = true then
              if (0 : Int32) = 0 then
                some ((((m.1 85 (f_X10_placeOf (x1 + 1) (x2 - 1) x4 m).toNatClampNeg) + (10000 * (m.1 81 x4.toNatClampNeg))) + 100) + 0)
              else
                some ((((m.1 85 (f_X10_placeOf (x1 + 1) (x2 - 1) x4 m).toNatClampNeg) + (10000 * (m.1 81 x4.toNatClampNeg))) + 100) + 1)
              else none
            else none
  else
    if (1 : Int32) = 0 then
      (f_X10_isFree x4 (x1 + 1) m).bind fun r13 =>
      if r13 = 0 then
        some (1000000000)
      else
        if (1 : Int32) = 0 then
          if q_in (f_X10_placeOf (x1 + 1) x2 x4 m) 242064 = true then
          if (m.1 85 (f_X10_placeOf (x1 + 1) x2 x4 m).toNatClampNeg) = 1000000000 then
            some (1000000000)
          else
            if q_in x4 144 = true then
            if (1 : Int32) = 0 then
              some ((((m.1 85 (f_X10_placeOf (x1 + 1) x2 x4 m).toNatClampNeg) + (10000 * (m.1 81 x4.toNatClampNeg))) + 100) + 0)
            else
              some ((((m.1 85 (f_X10_placeOf (x1 + 1) x2 x4 m).toNatClampNeg) + (10000 * (m.1 81 x4.toNatClampNeg))) + 100) + 1)
            else none
          else none
        else
          if q_in (f_X10_placeOf (x1 + 1) (x2 - 1) x4 m) 242064 = true then
          if (m.1 85 (f_X10_placeOf (x1 + 1) (x2 - 1) x4 m).toNatClampNeg) = 1000000000 then
            some (1000000000)
          else
            if q_in x4 144 = true then
            if (1 : Int32) = 0 then
              some ((((m.1 85 (f_X10_placeOf (x1 + 1) (x2 - 1) x4 m).toNatClampNeg) + (10000 * (m.1 81 x4.toNatClampNeg))) + 100) + 0)
            else
              some ((((m.1 85 (f_X10_placeOf (x1 + 1) (x2 - 1) x4 m).toNatClampNeg) + (10000 * (m.1 81 x4.toNatClampNeg))) + 100) + 1)
            else none
          else none
    else
      if x2 = 0 then
        some (1000000000)
      else
        (f_X10_isFree x4 (x1 + 1) m).bind fun r19 =>
        if r19 = 0 then
          some (1000000000)
        else
          if (1 : Int32) = 0 then
            if q_in (f_X10_placeOf (x1 + 1) x2 x4 m) 242064 = true then
            if (m.1 85 (f_X10_placeOf (x1 + 1) x2 x4 m).toNatClampNeg) = 1000000000 then
              some (1000000000)
            else
              if q_in x4 144 = true then
              if (1 : Int32) = 0 then
                some ((((m.1 85 (f_X10_placeOf (x1 + 1) x2 x4 m).toNatClampNeg) + (10000 * (m.1 81 x4.toNatClampNeg))) + 100) + 0)
              else
                some ((((m.1 85 (f_X10_placeOf (x1 + 1) x2 x4 m).toNatClampNeg) + (10000 * (m.1 81 x4.toNatClampNeg))) + 100) + 1)
              else none
            else none
          else
            if q_in (f_X10_placeOf (x1 + 1) (x2 - 1) x4 m) 242064 = true then
            if (m.1 85 (f_X10_placeOf (x1 + 1) (x2 - 1) x4 m).toNatClampNeg) = 1000000000 then
              some (1000000000)
            else
              if q_in x4 144 = true then
              if (1 : Int32) = 0 then
                some ((((m.1 85 (f_X10_placeOf (x1 + 1) (x2 - 1) x4 m).toNatClampNeg) + (10000 * (m.1 81 x4.toNatClampNeg))) + 100) + 0)
              else
                some ((((m.1 85 (f_X10_placeOf (x1 + 1) (x2 - 1) x4 m).toNatClampNeg) + (10000 * (m.1 81 x4.toNatClampNeg))) + 100) + 1)
              else none
            else none
set_option maxRecDepth 100000 in
set_option maxHeartbeats 4000000 in
theorem t_X10_byMove {g : q_G} {n : Nat} {F : Nat → Nat → Option Nat} (hn : 89 ≤ n) (hF : q_FF F)  {x1 : Int32} {x2 : Int32} {x3 : Int32} {x4 : Int32} {m : q_Mm} {r : Int32} (h : f_X10_byMove x1 x2 x3 x4 m = some r) : q_Cn g mX10_byMove [q_r g 58, .int x1, .int x2, .int x3, .int x4] (q_mk n F m) (q_Q (some (.int r)) (q_mk n F m)) := by
  unfold f_X10_byMove at h
  show q_V g mX10_byMove q_T _ _ _ 0 [(0, q_r g 58), (1, .int x1), (2, .int x2), (3, .int x3), (4, .int x4)] [] (q_mk n F m)
  refine q_iload_n dX10_byMove_0 rfl ?_
  refine q_iload dX10_byMove_1 rfl ?_
  refine q_icmp_eq 10 dX10_byMove_3 (by decide) (fun hc => ?_) (fun hc => ?_)
  · have h := q_it hc h
    refine q_iconst (v := 0) dX10_byMove_10 (by decide) ?_
    refine q_istore (ls' := [(0, _), (1, _), (2, _), (4, _), (5, _)]) [0, 1, 2, 4, 5] dX10_byMove_11 (Nat.le_of_ble_eq_true rfl) rfl ?_
    refine q_iload dX10_byMove_13 rfl ?_
    refine q_if_eq 22 dX10_byMove_15 (by decide) (fun hc => ?_) (fun hc => ?_)
    · have h := q_it hc h
      refine q_aload_n dX10_byMove_22 rfl ?_
      refine q_iload dX10_byMove_23 rfl ?_
      refine q_iload_n dX10_byMove_25 rfl ?_
      refine q_iconst (v := 1) dX10_byMove_26 (by decide) ?_
      refine q_iadd dX10_byMove_27 ?_
      obtain ⟨r1, hr2, h⟩ := q_bd h
      refine c_V1 (as := [_, _]) (st := []) (ci := 10) dX10_byMove_28 okX10_isFree lX10_297 ⟨rfl, rfl⟩ ⟨Nat.le_of_ble_eq_true rfl, Nat.le_of_ble_eq_true rfl⟩ (by decide) rfl rfl (Nat.lt_of_lt_of_le (Nat.le_of_ble_eq_true rfl) hn) rfl rfl (Nat.le_of_ble_eq_true rfl) (Nat.le_of_ble_eq_true rfl) (t_X10_isFree hn hF  hr2) ?_
      refine q_if_ne 38 dX10_byMove_31 (by decide) (fun hc => ?_) (fun hc => ?_)
      · have h := q_if hc h
        refine q_aload_n dX10_byMove_38 rfl ?_
        refine u_getr dX10_byMove_39 fX10_108 rfl rfl (Nat.lt_of_lt_of_le (Nat.le_of_ble_eq_true rfl) hn) (hF 58 43 85 rfl) ?_
        refine q_iload_n dX10_byMove_42 rfl ?_
        refine q_iconst (v := 1) dX10_byMove_43 (by decide) ?_
        refine q_iadd dX10_byMove_44 ?_
        refine q_iload dX10_byMove_45 rfl ?_
        refine q_if_eq 56 dX10_byMove_47 (by decide) (fun hc => ?_) (fun hc => ?_)
        · have h := q_it hc h
          refine q_iload_n dX10_byMove_56 rfl ?_
          refine q_iload dX10_byMove_57 rfl ?_
          refine c_S1 (as := [_, _, _]) (st := [_]) dX10_byMove_59 okX10_placeOf lX10_301 ⟨rfl, rfl⟩ ⟨Nat.le_of_ble_eq_true rfl, Nat.le_of_ble_eq_true rfl⟩ rfl rfl (Nat.le_of_ble_eq_true rfl) (Nat.le_of_ble_eq_true rfl) (t_X10_placeOf hn hF  rfl) ?_
          obtain ⟨hi3, h⟩ := q_is h
          refine u_iald dX10_byMove_62 rfl (Nat.lt_of_lt_of_le (Nat.le_of_ble_eq_true rfl) hn) (q_in_vp hi3) ?_
          refine q_istore (ls' := [(0, _), (4, _), (5, _), (6, _)]) [0, 4, 5, 6] dX10_byMove_63 (Nat.le_of_ble_eq_true rfl) rfl ?_
          refine q_iload dX10_byMove_65 rfl ?_
          refine q_ldcw dX10_byMove_67 kX10_300 ?_
          refine q_icmp_ne 79 dX10_byMove_70 (by decide) (fun hc => ?_) (fun hc => ?_)
          · have h := q_if hc h
            refine q_iload dX10_byMove_79 rfl ?_
            refine q_sipush (v := 10000) dX10_byMove_81 (by decide) ?_
            refine q_aload_n dX10_byMove_84 rfl ?_
            refine u_getr dX10_byMove_85 fX10_91 rfl rfl (Nat.lt_of_lt_of_le (Nat.le_of_ble_eq_true rfl) hn) (hF 58 36 81 rfl) ?_
            refine q_iload dX10_byMove_88 rfl ?_
            obtain ⟨hi4, h⟩ := q_is h
            refine u_iald dX10_byMove_90 rfl (Nat.lt_of_lt_of_le (Nat.le_of_ble_eq_true rfl) hn) (q_in_vp hi4) ?_
            refine q_imul dX10_byMove_91 ?_
            refine q_iadd dX10_byMove_92 ?_
            refine q_bipush (v := 100) dX10_byMove_93 (by decide) ?_
            refine q_iadd dX10_byMove_95 ?_
            refine q_iload dX10_byMove_96 rfl ?_
            refine q_if_eq 105 dX10_byMove_98 (by decide) (fun hc => ?_) (fun hc => ?_)
            · have h := q_it hc h
              refine q_iconst (v := 0) dX10_byMove_105 (by decide) ?_
              refine q_iadd dX10_byMove_106 ?_
              cases h
              exact q_iret dX10_byMove_107 rfl ⟨rfl, rfl⟩
            · have h := q_if hc h
              refine q_iconst (v := 1) dX10_byMove_101 (by decide) ?_
              refine q_goto 106 dX10_byMove_102 (by decide) ?_
              refine q_iadd dX10_byMove_106 ?_
              cases h
              exact q_iret dX10_byMove_107 rfl ⟨rfl, rfl⟩
          · have h := q_it hc h
            refine q_ldcw dX10_byMove_73 kX10_300 ?_
            refine q_goto 107 dX10_byMove_76 (by decide) ?_
            cases h
            exact q_iret dX10_byMove_107 rfl ⟨rfl, rfl⟩
        · have h := q_if hc h
          refine q_iload_n dX10_byMove_50 rfl ?_
          refine q_iconst (v := 1) dX10_byMove_51 (by decide) ?_
          refine q_isub dX10_byMove_52 ?_
          refine q_goto 57 dX10_byMove_53 (by decide) ?_
          refine q_iload dX10_byMove_57 rfl ?_
          refine c_S1 (as := [_, _, _]) (st := [_]) dX10_byMove_59 okX10_placeOf lX10_301 ⟨rfl, rfl⟩ ⟨Nat.le_of_ble_eq_true rfl, Nat.le_of_ble_eq_true rfl⟩ rfl rfl (Nat.le_of_ble_eq_true rfl) (Nat.le_of_ble_eq_true rfl) (t_X10_placeOf hn hF  rfl) ?_
          obtain ⟨hi5, h⟩ := q_is h
          refine u_iald dX10_byMove_62 rfl (Nat.lt_of_lt_of_le (Nat.le_of_ble_eq_true rfl) hn) (q_in_vp hi5) ?_
          refine q_istore (ls' := [(0, _), (4, _), (5, _), (6, _)]) [0, 4, 5, 6] dX10_byMove_63 (Nat.le_of_ble_eq_true rfl) rfl ?_
          refine q_iload dX10_byMove_65 rfl ?_
          refine q_ldcw dX10_byMove_67 kX10_300 ?_
          refine q_icmp_ne 79 dX10_byMove_70 (by decide) (fun hc => ?_) (fun hc => ?_)
          · have h := q_if hc h
            refine q_iload dX10_byMove_79 rfl ?_
            refine q_sipush (v := 10000) dX10_byMove_81 (by decide) ?_
            refine q_aload_n dX10_byMove_84 rfl ?_
            refine u_getr dX10_byMove_85 fX10_91 rfl rfl (Nat.lt_of_lt_of_le (Nat.le_of_ble_eq_true rfl) hn) (hF 58 36 81 rfl) ?_
            refine q_iload dX10_byMove_88 rfl ?_
            obtain ⟨hi6, h⟩ := q_is h
            refine u_iald dX10_byMove_90 rfl (Nat.lt_of_lt_of_le (Nat.le_of_ble_eq_true rfl) hn) (q_in_vp hi6) ?_
            refine q_imul dX10_byMove_91 ?_
            refine q_iadd dX10_byMove_92 ?_
            refine q_bipush (v := 100) dX10_byMove_93 (by decide) ?_
            refine q_iadd dX10_byMove_95 ?_
            refine q_iload dX10_byMove_96 rfl ?_
            refine q_if_eq 105 dX10_byMove_98 (by decide) (fun hc => ?_) (fun hc => ?_)
            · have h := q_it hc h
              refine q_iconst (v := 0) dX10_byMove_105 (by decide) ?_
              refine q_iadd dX10_byMove_106 ?_
              cases h
              exact q_iret dX10_byMove_107 rfl ⟨rfl, rfl⟩
            · have h := q_if hc h
              refine q_iconst (v := 1) dX10_byMove_101 (by decide) ?_
              refine q_goto 106 dX10_byMove_102 (by decide) ?_
              refine q_iadd dX10_byMove_106 ?_
              cases h
              exact q_iret dX10_byMove_107 rfl ⟨rfl, rfl⟩
          · have h := q_it hc h
            refine q_ldcw dX10_byMove_73 kX10_300 ?_
            refine q_goto 107 dX10_byMove_76 (by decide) ?_
            cases h
            exact q_iret dX10_byMove_107 rfl ⟨rfl, rfl⟩
      · have h := q_it hc h
        refine q_ldcw dX10_byMove_34 kX10_300 ?_
        cases h
        exact q_iret dX10_byMove_37 rfl ⟨rfl, rfl⟩
    · have h := q_if hc h
      refine q_iload_n dX10_byMove_18 rfl ?_
      refine q_if_eq 34 dX10_byMove_19 (by decide) (fun hc => ?_) (fun hc => ?_)
      · have h := q_it hc h
        refine q_ldcw dX10_byMove_34 kX10_300 ?_
        cases h
        exact q_iret dX10_byMove_37 rfl ⟨rfl, rfl⟩
      · have h := q_if hc h
        refine q_aload_n dX10_byMove_22 rfl ?_
        refine q_iload dX10_byMove_23 rfl ?_
        refine q_iload_n dX10_byMove_25 rfl ?_
        refine q_iconst (v := 1) dX10_byMove_26 (by decide) ?_
        refine q_iadd dX10_byMove_27 ?_
        obtain ⟨r7, hr8, h⟩ := q_bd h
        refine c_V1 (as := [_, _]) (st := []) (ci := 10) dX10_byMove_28 okX10_isFree lX10_297 ⟨rfl, rfl⟩ ⟨Nat.le_of_ble_eq_true rfl, Nat.le_of_ble_eq_true rfl⟩ (by decide) rfl rfl (Nat.lt_of_lt_of_le (Nat.le_of_ble_eq_true rfl) hn) rfl rfl (Nat.le_of_ble_eq_true rfl) (Nat.le_of_ble_eq_true rfl) (t_X10_isFree hn hF  hr8) ?_
        refine q_if_ne 38 dX10_byMove_31 (by decide) (fun hc => ?_) (fun hc => ?_)
        · have h := q_if hc h
          refine q_aload_n dX10_byMove_38 rfl ?_
          refine u_getr dX10_byMove_39 fX10_108 rfl rfl (Nat.lt_of_lt_of_le (Nat.le_of_ble_eq_true rfl) hn) (hF 58 43 85 rfl) ?_
          refine q_iload_n dX10_byMove_42 rfl ?_
          refine q_iconst (v := 1) dX10_byMove_43 (by decide) ?_
          refine q_iadd dX10_byMove_44 ?_
          refine q_iload dX10_byMove_45 rfl ?_
          refine q_if_eq 56 dX10_byMove_47 (by decide) (fun hc => ?_) (fun hc => ?_)
          · have h := q_it hc h
            refine q_iload_n dX10_byMove_56 rfl ?_
            refine q_iload dX10_byMove_57 rfl ?_
            refine c_S1 (as := [_, _, _]) (st := [_]) dX10_byMove_59 okX10_placeOf lX10_301 ⟨rfl, rfl⟩ ⟨Nat.le_of_ble_eq_true rfl, Nat.le_of_ble_eq_true rfl⟩ rfl rfl (Nat.le_of_ble_eq_true rfl) (Nat.le_of_ble_eq_true rfl) (t_X10_placeOf hn hF  rfl) ?_
            obtain ⟨hi9, h⟩ := q_is h
            refine u_iald dX10_byMove_62 rfl (Nat.lt_of_lt_of_le (Nat.le_of_ble_eq_true rfl) hn) (q_in_vp hi9) ?_
            refine q_istore (ls' := [(0, _), (4, _), (5, _), (6, _)]) [0, 4, 5, 6] dX10_byMove_63 (Nat.le_of_ble_eq_true rfl) rfl ?_
            refine q_iload dX10_byMove_65 rfl ?_
            refine q_ldcw dX10_byMove_67 kX10_300 ?_
            refine q_icmp_ne 79 dX10_byMove_70 (by decide) (fun hc => ?_) (fun hc => ?_)
            · have h := q_if hc h
              refine q_iload dX10_byMove_79 rfl ?_
              refine q_sipush (v := 10000) dX10_byMove_81 (by decide) ?_
              refine q_aload_n dX10_byMove_84 rfl ?_
              refine u_getr dX10_byMove_85 fX10_91 rfl rfl (Nat.lt_of_lt_of_le (Nat.le_of_ble_eq_true rfl) hn) (hF 58 36 81 rfl) ?_
              refine q_iload dX10_byMove_88 rfl ?_
              obtain ⟨hi10, h⟩ := q_is h
              refine u_iald dX10_byMove_90 rfl (Nat.lt_of_lt_of_le (Nat.le_of_ble_eq_true rfl) hn) (q_in_vp hi10) ?_
              refine q_imul dX10_byMove_91 ?_
              refine q_iadd dX10_byMove_92 ?_
              refine q_bipush (v := 100) dX10_byMove_93 (by decide) ?_
              refine q_iadd dX10_byMove_95 ?_
              refine q_iload dX10_byMove_96 rfl ?_
              refine q_if_eq 105 dX10_byMove_98 (by decide) (fun hc => ?_) (fun hc => ?_)
              · have h := q_it hc h
                refine q_iconst (v := 0) dX10_byMove_105 (by decide) ?_
                refine q_iadd dX10_byMove_106 ?_
                cases h
                exact q_iret dX10_byMove_107 rfl ⟨rfl, rfl⟩
              · have h := q_if hc h
                refine q_iconst (v := 1) dX10_byMove_101 (by decide) ?_
                refine q_goto 106 dX10_byMove_102 (by decide) ?_
                refine q_iadd dX10_byMove_106 ?_
                cases h
                exact q_iret dX10_byMove_107 rfl ⟨rfl, rfl⟩
            · have h := q_it hc h
              refine q_ldcw dX10_byMove_73 kX10_300 ?_
              refine q_goto 107 dX10_byMove_76 (by decide) ?_
              cases h
              exact q_iret dX10_byMove_107 rfl ⟨rfl, rfl⟩
          · have h := q_if hc h
            refine q_iload_n dX10_byMove_50 rfl ?_
            refine q_iconst (v := 1) dX10_byMove_51 (by decide) ?_
            refine q_isub dX10_byMove_52 ?_
            refine q_goto 57 dX10_byMove_53 (by decide) ?_
            refine q_iload dX10_byMove_57 rfl ?_
            refine c_S1 (as := [_, _, _]) (st := [_]) dX10_byMove_59 okX10_placeOf lX10_301 ⟨rfl, rfl⟩ ⟨Nat.le_of_ble_eq_true rfl, Nat.le_of_ble_eq_true rfl⟩ rfl rfl (Nat.le_of_ble_eq_true rfl) (Nat.le_of_ble_eq_true rfl) (t_X10_placeOf hn hF  rfl) ?_
            obtain ⟨hi11, h⟩ := q_is h
            refine u_iald dX10_byMove_62 rfl (Nat.lt_of_lt_of_le (Nat.le_of_ble_eq_true rfl) hn) (q_in_vp hi11) ?_
            refine q_istore (ls' := [(0, _), (4, _), (5, _), (6, _)]) [0, 4, 5, 6] dX10_byMove_63 (Nat.le_of_ble_eq_true rfl) rfl ?_
            refine q_iload dX10_byMove_65 rfl ?_
            refine q_ldcw dX10_byMove_67 kX10_300 ?_
            refine q_icmp_ne 79 dX10_byMove_70 (by decide) (fun hc => ?_) (fun hc => ?_)
            · have h := q_if hc h
              refine q_iload dX10_byMove_79 rfl ?_
              refine q_sipush (v := 10000) dX10_byMove_81 (by decide) ?_
              refine q_aload_n dX10_byMove_84 rfl ?_
              refine u_getr dX10_byMove_85 fX10_91 rfl rfl (Nat.lt_of_lt_of_le (Nat.le_of_ble_eq_true rfl) hn) (hF 58 36 81 rfl) ?_
              refine q_iload dX10_byMove_88 rfl ?_
              obtain ⟨hi12, h⟩ := q_is h
              refine u_iald dX10_byMove_90 rfl (Nat.lt_of_lt_of_le (Nat.le_of_ble_eq_true rfl) hn) (q_in_vp hi12) ?_
              refine q_imul dX10_byMove_91 ?_
              refine q_iadd dX10_byMove_92 ?_
              refine q_bipush (v := 100) dX10_byMove_93 (by decide) ?_
              refine q_iadd dX10_byMove_95 ?_
              refine q_iload dX10_byMove_96 rfl ?_
              refine q_if_eq 105 dX10_byMove_98 (by decide) (fun hc => ?_) (fun hc => ?_)
              · have h := q_it hc h
                refine q_iconst (v := 0) dX10_byMove_105 (by decide) ?_
                refine q_iadd dX10_byMove_106 ?_
                cases h
                exact q_iret dX10_byMove_107 rfl ⟨rfl, rfl⟩
              · have h := q_if hc h
                refine q_iconst (v := 1) dX10_byMove_101 (by decide) ?_
                refine q_goto 106 dX10_byMove_102 (by decide) ?_
                refine q_iadd dX10_byMove_106 ?_
                cases h
                exact q_iret dX10_byMove_107 rfl ⟨rfl, rfl⟩
            · have h := q_it hc h
              refine q_ldcw dX10_byMove_73 kX10_300 ?_
              refine q_goto 107 dX10_byMove_76 (by decide) ?_
              cases h
              exact q_iret dX10_byMove_107 rfl ⟨rfl, rfl⟩
        · have h := q_it hc h
          refine q_ldcw dX10_byMove_34 kX10_300 ?_
          cases h
          exact q_iret dX10_byMove_37 rfl ⟨rfl, rfl⟩
  · have h := q_if hc h
    refine q_iconst (v := 1) dX10_byMove_6 (by decide) ?_
    refine q_goto 11 dX10_byMove_7 (by decide) ?_
    refine q_istore (ls' := [(0, _), (1, _), (2, _), (4, _), (5, _)]) [0, 1, 2, 4, 5] dX10_byMove_11 (Nat.le_of_ble_eq_true rfl) rfl ?_
    refine q_iload dX10_byMove_13 rfl ?_
    refine q_if_eq 22 dX10_byMove_15 (by decide) (fun hc => ?_) (fun hc => ?_)
    · have h := q_it hc h
      refine q_aload_n dX10_byMove_22 rfl ?_
      refine q_iload dX10_byMove_23 rfl ?_
      refine q_iload_n dX10_byMove_25 rfl ?_
      refine q_iconst (v := 1) dX10_byMove_26 (by decide) ?_
      refine q_iadd dX10_byMove_27 ?_
      obtain ⟨r13, hr14, h⟩ := q_bd h
      refine c_V1 (as := [_, _]) (st := []) (ci := 10) dX10_byMove_28 okX10_isFree lX10_297 ⟨rfl, rfl⟩ ⟨Nat.le_of_ble_eq_true rfl, Nat.le_of_ble_eq_true rfl⟩ (by decide) rfl rfl (Nat.lt_of_lt_of_le (Nat.le_of_ble_eq_true rfl) hn) rfl rfl (Nat.le_of_ble_eq_true rfl) (Nat.le_of_ble_eq_true rfl) (t_X10_isFree hn hF  hr14) ?_
      refine q_if_ne 38 dX10_byMove_31 (by decide) (fun hc => ?_) (fun hc => ?_)
      · have h := q_if hc h
        refine q_aload_n dX10_byMove_38 rfl ?_
        refine u_getr dX10_byMove_39 fX10_108 rfl rfl (Nat.lt_of_lt_of_le (Nat.le_of_ble_eq_true rfl) hn) (hF 58 43 85 rfl) ?_
        refine q_iload_n dX10_byMove_42 rfl ?_
        refine q_iconst (v := 1) dX10_byMove_43 (by decide) ?_
        refine q_iadd dX10_byMove_44 ?_
        refine q_iload dX10_byMove_45 rfl ?_
        refine q_if_eq 56 dX10_byMove_47 (by decide) (fun hc => ?_) (fun hc => ?_)
        · have h := q_it hc h
          refine q_iload_n dX10_byMove_56 rfl ?_
          refine q_iload dX10_byMove_57 rfl ?_
          refine c_S1 (as := [_, _, _]) (st := [_]) dX10_byMove_59 okX10_placeOf lX10_301 ⟨rfl, rfl⟩ ⟨Nat.le_of_ble_eq_true rfl, Nat.le_of_ble_eq_true rfl⟩ rfl rfl (Nat.le_of_ble_eq_true rfl) (Nat.le_of_ble_eq_true rfl) (t_X10_placeOf hn hF  rfl) ?_
          obtain ⟨hi15, h⟩ := q_is h
          refine u_iald dX10_byMove_62 rfl (Nat.lt_of_lt_of_le (Nat.le_of_ble_eq_true rfl) hn) (q_in_vp hi15) ?_
          refine q_istore (ls' := [(0, _), (4, _), (5, _), (6, _)]) [0, 4, 5, 6] dX10_byMove_63 (Nat.le_of_ble_eq_true rfl) rfl ?_
          refine q_iload dX10_byMove_65 rfl ?_
          refine q_ldcw dX10_byMove_67 kX10_300 ?_
          refine q_icmp_ne 79 dX10_byMove_70 (by decide) (fun hc => ?_) (fun hc => ?_)
          · have h := q_if hc h
            refine q_iload dX10_byMove_79 rfl ?_
            refine q_sipush (v := 10000) dX10_byMove_81 (by decide) ?_
            refine q_aload_n dX10_byMove_84 rfl ?_
            refine u_getr dX10_byMove_85 fX10_91 rfl rfl (Nat.lt_of_lt_of_le (Nat.le_of_ble_eq_true rfl) hn) (hF 58 36 81 rfl) ?_
            refine q_iload dX10_byMove_88 rfl ?_
            obtain ⟨hi16, h⟩ := q_is h
            refine u_iald dX10_byMove_90 rfl (Nat.lt_of_lt_of_le (Nat.le_of_ble_eq_true rfl) hn) (q_in_vp hi16) ?_
            refine q_imul dX10_byMove_91 ?_
            refine q_iadd dX10_byMove_92 ?_
            refine q_bipush (v := 100) dX10_byMove_93 (by decide) ?_
            refine q_iadd dX10_byMove_95 ?_
            refine q_iload dX10_byMove_96 rfl ?_
            refine q_if_eq 105 dX10_byMove_98 (by decide) (fun hc => ?_) (fun hc => ?_)
            · have h := q_it hc h
              refine q_iconst (v := 0) dX10_byMove_105 (by decide) ?_
              refine q_iadd dX10_byMove_106 ?_
              cases h
              exact q_iret dX10_byMove_107 rfl ⟨rfl, rfl⟩
            · have h := q_if hc h
              refine q_iconst (v := 1) dX10_byMove_101 (by decide) ?_
              refine q_goto 106 dX10_byMove_102 (by decide) ?_
              refine q_iadd dX10_byMove_106 ?_
              cases h
              exact q_iret dX10_byMove_107 rfl ⟨rfl, rfl⟩
          · have h := q_it hc h
            refine q_ldcw dX10_byMove_73 kX10_300 ?_
            refine q_goto 107 dX10_byMove_76 (by decide) ?_
            cases h
            exact q_iret dX10_byMove_107 rfl ⟨rfl, rfl⟩
        · have h := q_if hc h
          refine q_iload_n dX10_byMove_50 rfl ?_
          refine q_iconst (v := 1) dX10_byMove_51 (by decide) ?_
          refine q_isub dX10_byMove_52 ?_
          refine q_goto 57 dX10_byMove_53 (by decide) ?_
          refine q_iload dX10_byMove_57 rfl ?_
          refine c_S1 (as := [_, _, _]) (st := [_]) dX10_byMove_59 okX10_placeOf lX10_301 ⟨rfl, rfl⟩ ⟨Nat.le_of_ble_eq_true rfl, Nat.le_of_ble_eq_true rfl⟩ rfl rfl (Nat.le_of_ble_eq_true rfl) (Nat.le_of_ble_eq_true rfl) (t_X10_placeOf hn hF  rfl) ?_
          obtain ⟨hi17, h⟩ := q_is h
          refine u_iald dX10_byMove_62 rfl (Nat.lt_of_lt_of_le (Nat.le_of_ble_eq_true rfl) hn) (q_in_vp hi17) ?_
          refine q_istore (ls' := [(0, _), (4, _), (5, _), (6, _)]) [0, 4, 5, 6] dX10_byMove_63 (Nat.le_of_ble_eq_true rfl) rfl ?_
          refine q_iload dX10_byMove_65 rfl ?_
          refine q_ldcw dX10_byMove_67 kX10_300 ?_
          refine q_icmp_ne 79 dX10_byMove_70 (by decide) (fun hc => ?_) (fun hc => ?_)
          · have h := q_if hc h
            refine q_iload dX10_byMove_79 rfl ?_
            refine q_sipush (v := 10000) dX10_byMove_81 (by decide) ?_
            refine q_aload_n dX10_byMove_84 rfl ?_
            refine u_getr dX10_byMove_85 fX10_91 rfl rfl (Nat.lt_of_lt_of_le (Nat.le_of_ble_eq_true rfl) hn) (hF 58 36 81 rfl) ?_
            refine q_iload dX10_byMove_88 rfl ?_
            obtain ⟨hi18, h⟩ := q_is h
            refine u_iald dX10_byMove_90 rfl (Nat.lt_of_lt_of_le (Nat.le_of_ble_eq_true rfl) hn) (q_in_vp hi18) ?_
            refine q_imul dX10_byMove_91 ?_
            refine q_iadd dX10_byMove_92 ?_
            refine q_bipush (v := 100) dX10_byMove_93 (by decide) ?_
            refine q_iadd dX10_byMove_95 ?_
            refine q_iload dX10_byMove_96 rfl ?_
            refine q_if_eq 105 dX10_byMove_98 (by decide) (fun hc => ?_) (fun hc => ?_)
            · have h := q_it hc h
              refine q_iconst (v := 0) dX10_byMove_105 (by decide) ?_
              refine q_iadd dX10_byMove_106 ?_
              cases h
              exact q_iret dX10_byMove_107 rfl ⟨rfl, rfl⟩
            · have h := q_if hc h
              refine q_iconst (v := 1) dX10_byMove_101 (by decide) ?_
              refine q_goto 106 dX10_byMove_102 (by decide) ?_
              refine q_iadd dX10_byMove_106 ?_
              cases h
              exact q_iret dX10_byMove_107 rfl ⟨rfl, rfl⟩
          · have h := q_it hc h
            refine q_ldcw dX10_byMove_73 kX10_300 ?_
            refine q_goto 107 dX10_byMove_76 (by decide) ?_
            cases h
            exact q_iret dX10_byMove_107 rfl ⟨rfl, rfl⟩
      · have h := q_it hc h
        refine q_ldcw dX10_byMove_34 kX10_300 ?_
        cases h
        exact q_iret dX10_byMove_37 rfl ⟨rfl, rfl⟩
    · have h := q_if hc h
      refine q_iload_n dX10_byMove_18 rfl ?_
      refine q_if_eq 34 dX10_byMove_19 (by decide) (fun hc => ?_) (fun hc => ?_)
      · have h := q_it hc h
        refine q_ldcw dX10_byMove_34 kX10_300 ?_
        cases h
        exact q_iret dX10_byMove_37 rfl ⟨rfl, rfl⟩
      · have h := q_if hc h
        refine q_aload_n dX10_byMove_22 rfl ?_
        refine q_iload dX10_byMove_23 rfl ?_
        refine q_iload_n dX10_byMove_25 rfl ?_
        refine q_iconst (v := 1) dX10_byMove_26 (by decide) ?_
        refine q_iadd dX10_byMove_27 ?_
        obtain ⟨r19, hr20, h⟩ := q_bd h
        refine c_V1 (as := [_, _]) (st := []) (ci := 10) dX10_byMove_28 okX10_isFree lX10_297 ⟨rfl, rfl⟩ ⟨Nat.le_of_ble_eq_true rfl, Nat.le_of_ble_eq_true rfl⟩ (by decide) rfl rfl (Nat.lt_of_lt_of_le (Nat.le_of_ble_eq_true rfl) hn) rfl rfl (Nat.le_of_ble_eq_true rfl) (Nat.le_of_ble_eq_true rfl) (t_X10_isFree hn hF  hr20) ?_
        refine q_if_ne 38 dX10_byMove_31 (by decide) (fun hc => ?_) (fun hc => ?_)
        · have h := q_if hc h
          refine q_aload_n dX10_byMove_38 rfl ?_
          refine u_getr dX10_byMove_39 fX10_108 rfl rfl (Nat.lt_of_lt_of_le (Nat.le_of_ble_eq_true rfl) hn) (hF 58 43 85 rfl) ?_
          refine q_iload_n dX10_byMove_42 rfl ?_
          refine q_iconst (v := 1) dX10_byMove_43 (by decide) ?_
          refine q_iadd dX10_byMove_44 ?_
          refine q_iload dX10_byMove_45 rfl ?_
          refine q_if_eq 56 dX10_byMove_47 (by decide) (fun hc => ?_) (fun hc => ?_)
          · have h := q_it hc h
            refine q_iload_n dX10_byMove_56 rfl ?_
            refine q_iload dX10_byMove_57 rfl ?_
            refine c_S1 (as := [_, _, _]) (st := [_]) dX10_byMove_59 okX10_placeOf lX10_301 ⟨rfl, rfl⟩ ⟨Nat.le_of_ble_eq_true rfl, Nat.le_of_ble_eq_true rfl⟩ rfl rfl (Nat.le_of_ble_eq_true rfl) (Nat.le_of_ble_eq_true rfl) (t_X10_placeOf hn hF  rfl) ?_
            obtain ⟨hi21, h⟩ := q_is h
            refine u_iald dX10_byMove_62 rfl (Nat.lt_of_lt_of_le (Nat.le_of_ble_eq_true rfl) hn) (q_in_vp hi21) ?_
            refine q_istore (ls' := [(0, _), (4, _), (5, _), (6, _)]) [0, 4, 5, 6] dX10_byMove_63 (Nat.le_of_ble_eq_true rfl) rfl ?_
            refine q_iload dX10_byMove_65 rfl ?_
            refine q_ldcw dX10_byMove_67 kX10_300 ?_
            refine q_icmp_ne 79 dX10_byMove_70 (by decide) (fun hc => ?_) (fun hc => ?_)
            · have h := q_if hc h
              refine q_iload dX10_byMove_79 rfl ?_
              refine q_sipush (v := 10000) dX10_byMove_81 (by decide) ?_
              refine q_aload_n dX10_byMove_84 rfl ?_
              refine u_getr dX10_byMove_85 fX10_91 rfl rfl (Nat.lt_of_lt_of_le (Nat.le_of_ble_eq_true rfl) hn) (hF 58 36 81 rfl) ?_
              refine q_iload dX10_byMove_88 rfl ?_
              obtain ⟨hi22, h⟩ := q_is h
              refine u_iald dX10_byMove_90 rfl (Nat.lt_of_lt_of_le (Nat.le_of_ble_eq_true rfl) hn) (q_in_vp hi22) ?_
              refine q_imul dX10_byMove_91 ?_
              refine q_iadd dX10_byMove_92 ?_
              refine q_bipush (v := 100) dX10_byMove_93 (by decide) ?_
              refine q_iadd dX10_byMove_95 ?_
              refine q_iload dX10_byMove_96 rfl ?_
              refine q_if_eq 105 dX10_byMove_98 (by decide) (fun hc => ?_) (fun hc => ?_)
              · have h := q_it hc h
                refine q_iconst (v := 0) dX10_byMove_105 (by decide) ?_
                refine q_iadd dX10_byMove_106 ?_
                cases h
                exact q_iret dX10_byMove_107 rfl ⟨rfl, rfl⟩
              · have h := q_if hc h
                refine q_iconst (v := 1) dX10_byMove_101 (by decide) ?_
                refine q_goto 106 dX10_byMove_102 (by decide) ?_
                refine q_iadd dX10_byMove_106 ?_
                cases h
                exact q_iret dX10_byMove_107 rfl ⟨rfl, rfl⟩
            · have h := q_it hc h
              refine q_ldcw dX10_byMove_73 kX10_300 ?_
              refine q_goto 107 dX10_byMove_76 (by decide) ?_
              cases h
              exact q_iret dX10_byMove_107 rfl ⟨rfl, rfl⟩
          · have h := q_if hc h
            refine q_iload_n dX10_byMove_50 rfl ?_
            refine q_iconst (v := 1) dX10_byMove_51 (by decide) ?_
            refine q_isub dX10_byMove_52 ?_
            refine q_goto 57 dX10_byMove_53 (by decide) ?_
            refine q_iload dX10_byMove_57 rfl ?_
            refine c_S1 (as := [_, _, _]) (st := [_]) dX10_byMove_59 okX10_placeOf lX10_301 ⟨rfl, rfl⟩ ⟨Nat.le_of_ble_eq_true rfl, Nat.le_of_ble_eq_true rfl⟩ rfl rfl (Nat.le_of_ble_eq_true rfl) (Nat.le_of_ble_eq_true rfl) (t_X10_placeOf hn hF  rfl) ?_
            obtain ⟨hi23, h⟩ := q_is h
            refine u_iald dX10_byMove_62 rfl (Nat.lt_of_lt_of_le (Nat.le_of_ble_eq_true rfl) hn) (q_in_vp hi23) ?_
            refine q_istore (ls' := [(0, _), (4, _), (5, _), (6, _)]) [0, 4, 5, 6] dX10_byMove_63 (Nat.le_of_ble_eq_true rfl) rfl ?_
            refine q_iload dX10_byMove_65 rfl ?_
            refine q_ldcw dX10_byMove_67 kX10_300 ?_
            refine q_icmp_ne 79 dX10_byMove_70 (by decide) (fun hc => ?_) (fun hc => ?_)
            · have h := q_if hc h
              refine q_iload dX10_byMove_79 rfl ?_
              refine q_sipush (v := 10000) dX10_byMove_81 (by decide) ?_
              refine q_aload_n dX10_byMove_84 rfl ?_
              refine u_getr dX10_byMove_85 fX10_91 rfl rfl (Nat.lt_of_lt_of_le (Nat.le_of_ble_eq_true rfl) hn) (hF 58 36 81 rfl) ?_
              refine q_iload dX10_byMove_88 rfl ?_
              obtain ⟨hi24, h⟩ := q_is h
              refine u_iald dX10_byMove_90 rfl (Nat.lt_of_lt_of_le (Nat.le_of_ble_eq_true rfl) hn) (q_in_vp hi24) ?_
              refine q_imul dX10_byMove_91 ?_
              refine q_iadd dX10_byMove_92 ?_
              refine q_bipush (v := 100) dX10_byMove_93 (by decide) ?_
              refine q_iadd dX10_byMove_95 ?_
              refine q_iload dX10_byMove_96 rfl ?_
              refine q_if_eq 105 dX10_byMove_98 (by decide) (fun hc => ?_) (fun hc => ?_)
              · have h := q_it hc h
                refine q_iconst (v := 0) dX10_byMove_105 (by decide) ?_
                refine q_iadd dX10_byMove_106 ?_
                cases h
                exact q_iret dX10_byMove_107 rfl ⟨rfl, rfl⟩
              · have h := q_if hc h
                refine q_iconst (v := 1) dX10_byMove_101 (by decide) ?_
                refine q_goto 106 dX10_byMove_102 (by decide) ?_
                refine q_iadd dX10_byMove_106 ?_
                cases h
                exact q_iret dX10_byMove_107 rfl ⟨rfl, rfl⟩
            · have h := q_it hc h
              refine q_ldcw dX10_byMove_73 kX10_300 ?_
              refine q_goto 107 dX10_byMove_76 (by decide) ?_
              cases h
              exact q_iret dX10_byMove_107 rfl ⟨rfl, rfl⟩
        · have h := q_it hc h
          refine q_ldcw dX10_byMove_34 kX10_300 ?_
          cases h
          exact q_iret dX10_byMove_37 rfl ⟨rfl, rfl⟩
def l_X10_cheapest_22 : Nat → Int32 → Int32 → Int32 → Int32 → Int32 → Int32 → q_Mm → Option (Int32)
  | 0, _, _, _, _, _, _, _ => none
  | k + 1, y1, y2, y3, y4, y5, y6, m =>
    if 2 ≤ y6 then
      some (y4)
    else
      if y6 = 0 then
        if y5 = 0 then
          l_X10_cheapest_22 k  y1 y2 y3 y4 y5 (y6 + 1) m
        else
          if (f_X10_in (((q_rm y3 12) + y6).toInt64) 0 11 m) = 0 then
            l_X10_cheapest_22 k  y1 y2 y3 y4 y5 (y6 + 1) m
          else
            if (f_X10_in (((y3 / 12) + y5).toInt64) 0 11 m) = 0 then
              l_X10_cheapest_22 k  y1 y2 y3 y4 y5 (y6 + 1) m
            else
              (f_X10_byMove y1 y2 y3 ((12 * ((y3 / 12) + y5)) + ((q_rm y3 12) + y6)) m).bind fun r5 =>
              if y4 ≤ r5 then
                l_X10_cheapest_22 k  y1 y2 y3 y4 y5 (y6 + 1) m
              else
                l_X10_cheapest_22 k  y1 y2 y3 r5 y5 (y6 + 1) m
      else
        if (f_X10_in (((q_rm y3 12) + y6).toInt64) 0 11 m) = 0 then
          l_X10_cheapest_22 k  y1 y2 y3 y4 y5 (y6 + 1) m
        else
          if (f_X10_in (((y3 / 12) + y5).toInt64) 0 11 m) = 0 then
            l_X10_cheapest_22 k  y1 y2 y3 y4 y5 (y6 + 1) m
          else
            (f_X10_byMove y1 y2 y3 ((12 * ((y3 / 12) + y5)) + ((q_rm y3 12) + y6)) m).bind fun r3 =>
            if y4 ≤ r3 then
              l_X10_cheapest_22 k  y1 y2 y3 y4 y5 (y6 + 1) m
            else
              l_X10_cheapest_22 k  y1 y2 y3 r3 y5 (y6 + 1) m
set_option maxRecDepth 100000 in
set_option maxHeartbeats 4000000 in
theorem t_l_X10_cheapest_22 {g : q_G} {n : Nat} {F : Nat → Nat → Option Nat} {Z : List Frame → Array Value → State → State → Prop} {kc ks : Nat} (hn : 89 ≤ n) (hF : q_FF F)  : ∀ (k : Nat) (y1 : Int32) (y2 : Int32) (y3 : Int32) (y4 : Int32) (y5 : Int32) (y6 : Int32) (m : q_Mm) {r : Int32}, l_X10_cheapest_22 k y1 y2 y3 y4 y5 y6 m = some r → (q_V g mX10_cheapest q_T Z kc ks 121 [(0, q_r g 58), (1, .int y1), (2, .int y2), (3, .int y3), (4, .int r), (5, .int y5)] [] (q_mk n F m)) → q_V g mX10_cheapest q_T Z kc ks 22 [(0, q_r g 58), (1, .int y1), (2, .int y2), (3, .int y3), (4, .int y4), (5, .int y5), (6, .int y6)] [] (q_mk n F m) := by
  intro k
  induction k with
  | zero => intro y1 y2 y3 y4 y5 y6 m r h; cases h
  | succ k ih =>
    intro y1 y2 y3 y4 y5 y6 m r h hx0
    unfold l_X10_cheapest_22 at h
    refine q_iload dX10_cheapest_22 rfl ?_
    refine q_iconst (v := 2) dX10_cheapest_24 (by decide) ?_
    refine q_icmp_ge 121 dX10_cheapest_25 (by decide) (fun hc => ?_) (fun hc => ?_)
    · have h := q_it hc h
      refine q_drop [0, 1, 2, 3, 4, 5] (ls' := [(0, _), (1, _), (2, _), (3, _), (4, _), (5, _)]) rfl ?_
      cases h
      exact hx0
    · have h := q_if hc h
      refine q_iload_n dX10_cheapest_28 rfl ?_
      refine q_bipush (v := 12) dX10_cheapest_29 (by decide) ?_
      refine q_irm dX10_cheapest_31 (by decide) ?_
      refine q_iload dX10_cheapest_32 rfl ?_
      refine q_iadd dX10_cheapest_34 ?_
      refine q_istore (ls' := [(0, _), (1, _), (2, _), (3, _), (4, _), (5, _), (6, _), (7, _)]) [0, 1, 2, 3, 4, 5, 6, 7] dX10_cheapest_35 (Nat.le_of_ble_eq_true rfl) rfl ?_
      refine q_iload_n dX10_cheapest_37 rfl ?_
      refine q_bipush (v := 12) dX10_cheapest_38 (by decide) ?_
      refine q_idiv dX10_cheapest_40 (by decide) ?_
      refine q_iload dX10_cheapest_41 rfl ?_
      refine q_iadd dX10_cheapest_43 ?_
      refine q_istore (ls' := [(0, _), (1, _), (2, _), (3, _), (4, _), (5, _), (6, _), (7, _), (8, _)]) [0, 1, 2, 3, 4, 5, 6, 7, 8] dX10_cheapest_44 (Nat.le_of_ble_eq_true rfl) rfl ?_
      refine q_iload dX10_cheapest_46 rfl ?_
      refine q_if_ne 56 dX10_cheapest_48 (by decide) (fun hc => ?_) (fun hc => ?_)
      · have h := q_if hc h
        refine q_iload dX10_cheapest_56 rfl ?_
        refine q_i2l dX10_cheapest_58 ?_
        refine q_lconst (v := 0) dX10_cheapest_59 (by decide) ?_
        refine q_ldc2 dX10_cheapest_60 kX10_199 ?_
        refine c_S1 (as := [_, _, _]) (st := []) dX10_cheapest_63 okX10_in lX10_122 ⟨rfl, rfl⟩ ⟨Nat.le_of_ble_eq_true rfl, Nat.le_of_ble_eq_true rfl⟩ rfl rfl (Nat.le_of_ble_eq_true rfl) (Nat.le_of_ble_eq_true rfl) (t_X10_in hn hF  rfl) ?_
        refine q_if_eq 115 dX10_cheapest_66 (by decide) (fun hc => ?_) (fun hc => ?_)
        · have h := q_it hc h
          refine q_iinc1 (w := 1) (ls' := [(0, _), (1, _), (2, _), (3, _), (4, _), (5, _), (6, _)]) [0, 1, 2, 3, 4, 5, 6] dX10_cheapest_115 rfl (by decide) (Nat.le_of_ble_eq_true rfl) rfl ?_
          refine q_goto 22 dX10_cheapest_118 (by decide) ?_
          exact ih _ _ _ _ _ _ _ h hx0
        · have h := q_if hc h
          refine q_iload dX10_cheapest_69 rfl ?_
          refine q_i2l dX10_cheapest_71 ?_
          refine q_lconst (v := 0) dX10_cheapest_72 (by decide) ?_
          refine q_ldc2 dX10_cheapest_73 kX10_199 ?_
          refine c_S1 (as := [_, _, _]) (st := []) dX10_cheapest_76 okX10_in lX10_122 ⟨rfl, rfl⟩ ⟨Nat.le_of_ble_eq_true rfl, Nat.le_of_ble_eq_true rfl⟩ rfl rfl (Nat.le_of_ble_eq_true rfl) (Nat.le_of_ble_eq_true rfl) (t_X10_in hn hF  rfl) ?_
          refine q_if_eq 115 dX10_cheapest_79 (by decide) (fun hc => ?_) (fun hc => ?_)
          · have h := q_it hc h
            refine q_iinc1 (w := 1) (ls' := [(0, _), (1, _), (2, _), (3, _), (4, _), (5, _), (6, _)]) [0, 1, 2, 3, 4, 5, 6] dX10_cheapest_115 rfl (by decide) (Nat.le_of_ble_eq_true rfl) rfl ?_
            refine q_goto 22 dX10_cheapest_118 (by decide) ?_
            exact ih _ _ _ _ _ _ _ h hx0
          · have h := q_if hc h
            refine q_aload_n dX10_cheapest_82 rfl ?_
            refine q_iload_n dX10_cheapest_83 rfl ?_
            refine q_iload_n dX10_cheapest_84 rfl ?_
            refine q_iload_n dX10_cheapest_85 rfl ?_
            refine q_bipush (v := 12) dX10_cheapest_86 (by decide) ?_
            refine q_iload dX10_cheapest_88 rfl ?_
            refine q_imul dX10_cheapest_90 ?_
            refine q_iload dX10_cheapest_91 rfl ?_
            refine q_iadd dX10_cheapest_93 ?_
            obtain ⟨r3, hr4, h⟩ := q_bd h
            refine c_V1 (as := [_, _, _, _]) (st := []) (ci := 10) dX10_cheapest_94 okX10_byMove lX10_311 ⟨rfl, rfl⟩ ⟨Nat.le_of_ble_eq_true rfl, Nat.le_of_ble_eq_true rfl⟩ (by decide) rfl rfl (Nat.lt_of_lt_of_le (Nat.le_of_ble_eq_true rfl) hn) rfl rfl (Nat.le_of_ble_eq_true rfl) (Nat.le_of_ble_eq_true rfl) (t_X10_byMove hn hF  hr4) ?_
            refine q_istore (ls' := [(0, _), (1, _), (2, _), (3, _), (4, _), (5, _), (6, _), (9, _)]) [0, 1, 2, 3, 4, 5, 6, 9] dX10_cheapest_97 (Nat.le_of_ble_eq_true rfl) rfl ?_
            refine q_iload dX10_cheapest_99 rfl ?_
            refine q_iload dX10_cheapest_101 rfl ?_
            refine q_icmp_ge 111 dX10_cheapest_103 (by decide) (fun hc => ?_) (fun hc => ?_)
            · have h := q_it hc h
              refine q_iload dX10_cheapest_111 rfl ?_
              refine q_istore (ls' := [(0, _), (1, _), (2, _), (3, _), (4, _), (5, _), (6, _)]) [0, 1, 2, 3, 4, 5, 6] dX10_cheapest_113 (Nat.le_of_ble_eq_true rfl) rfl ?_
              refine q_iinc1 (w := 1) (ls' := [(0, _), (1, _), (2, _), (3, _), (4, _), (5, _), (6, _)]) [0, 1, 2, 3, 4, 5, 6] dX10_cheapest_115 rfl (by decide) (Nat.le_of_ble_eq_true rfl) rfl ?_
              refine q_goto 22 dX10_cheapest_118 (by decide) ?_
              exact ih _ _ _ _ _ _ _ h hx0
            · have h := q_if hc h
              refine q_iload dX10_cheapest_106 rfl ?_
              refine q_goto 113 dX10_cheapest_108 (by decide) ?_
              refine q_istore (ls' := [(0, _), (1, _), (2, _), (3, _), (4, _), (5, _), (6, _)]) [0, 1, 2, 3, 4, 5, 6] dX10_cheapest_113 (Nat.le_of_ble_eq_true rfl) rfl ?_
              refine q_iinc1 (w := 1) (ls' := [(0, _), (1, _), (2, _), (3, _), (4, _), (5, _), (6, _)]) [0, 1, 2, 3, 4, 5, 6] dX10_cheapest_115 rfl (by decide) (Nat.le_of_ble_eq_true rfl) rfl ?_
              refine q_goto 22 dX10_cheapest_118 (by decide) ?_
              exact ih _ _ _ _ _ _ _ h hx0
      · have h := q_it hc h
        refine q_iload dX10_cheapest_51 rfl ?_
        refine q_if_eq 115 dX10_cheapest_53 (by decide) (fun hc => ?_) (fun hc => ?_)
        · have h := q_it hc h
          refine q_iinc1 (w := 1) (ls' := [(0, _), (1, _), (2, _), (3, _), (4, _), (5, _), (6, _)]) [0, 1, 2, 3, 4, 5, 6] dX10_cheapest_115 rfl (by decide) (Nat.le_of_ble_eq_true rfl) rfl ?_
          refine q_goto 22 dX10_cheapest_118 (by decide) ?_
          exact ih _ _ _ _ _ _ _ h hx0
        · have h := q_if hc h
          refine q_iload dX10_cheapest_56 rfl ?_
          refine q_i2l dX10_cheapest_58 ?_
          refine q_lconst (v := 0) dX10_cheapest_59 (by decide) ?_
          refine q_ldc2 dX10_cheapest_60 kX10_199 ?_
          refine c_S1 (as := [_, _, _]) (st := []) dX10_cheapest_63 okX10_in lX10_122 ⟨rfl, rfl⟩ ⟨Nat.le_of_ble_eq_true rfl, Nat.le_of_ble_eq_true rfl⟩ rfl rfl (Nat.le_of_ble_eq_true rfl) (Nat.le_of_ble_eq_true rfl) (t_X10_in hn hF  rfl) ?_
          refine q_if_eq 115 dX10_cheapest_66 (by decide) (fun hc => ?_) (fun hc => ?_)
          · have h := q_it hc h
            refine q_iinc1 (w := 1) (ls' := [(0, _), (1, _), (2, _), (3, _), (4, _), (5, _), (6, _)]) [0, 1, 2, 3, 4, 5, 6] dX10_cheapest_115 rfl (by decide) (Nat.le_of_ble_eq_true rfl) rfl ?_
            refine q_goto 22 dX10_cheapest_118 (by decide) ?_
            exact ih _ _ _ _ _ _ _ h hx0
          · have h := q_if hc h
            refine q_iload dX10_cheapest_69 rfl ?_
            refine q_i2l dX10_cheapest_71 ?_
            refine q_lconst (v := 0) dX10_cheapest_72 (by decide) ?_
            refine q_ldc2 dX10_cheapest_73 kX10_199 ?_
            refine c_S1 (as := [_, _, _]) (st := []) dX10_cheapest_76 okX10_in lX10_122 ⟨rfl, rfl⟩ ⟨Nat.le_of_ble_eq_true rfl, Nat.le_of_ble_eq_true rfl⟩ rfl rfl (Nat.le_of_ble_eq_true rfl) (Nat.le_of_ble_eq_true rfl) (t_X10_in hn hF  rfl) ?_
            refine q_if_eq 115 dX10_cheapest_79 (by decide) (fun hc => ?_) (fun hc => ?_)
            · have h := q_it hc h
              refine q_iinc1 (w := 1) (ls' := [(0, _), (1, _), (2, _), (3, _), (4, _), (5, _), (6, _)]) [0, 1, 2, 3, 4, 5, 6] dX10_cheapest_115 rfl (by decide) (Nat.le_of_ble_eq_true rfl) rfl ?_
              refine q_goto 22 dX10_cheapest_118 (by decide) ?_
              exact ih _ _ _ _ _ _ _ h hx0
            · have h := q_if hc h
              refine q_aload_n dX10_cheapest_82 rfl ?_
              refine q_iload_n dX10_cheapest_83 rfl ?_
              refine q_iload_n dX10_cheapest_84 rfl ?_
              refine q_iload_n dX10_cheapest_85 rfl ?_
              refine q_bipush (v := 12) dX10_cheapest_86 (by decide) ?_
              refine q_iload dX10_cheapest_88 rfl ?_
              refine q_imul dX10_cheapest_90 ?_
              refine q_iload dX10_cheapest_91 rfl ?_
              refine q_iadd dX10_cheapest_93 ?_
              obtain ⟨r5, hr6, h⟩ := q_bd h
              refine c_V1 (as := [_, _, _, _]) (st := []) (ci := 10) dX10_cheapest_94 okX10_byMove lX10_311 ⟨rfl, rfl⟩ ⟨Nat.le_of_ble_eq_true rfl, Nat.le_of_ble_eq_true rfl⟩ (by decide) rfl rfl (Nat.lt_of_lt_of_le (Nat.le_of_ble_eq_true rfl) hn) rfl rfl (Nat.le_of_ble_eq_true rfl) (Nat.le_of_ble_eq_true rfl) (t_X10_byMove hn hF  hr6) ?_
              refine q_istore (ls' := [(0, _), (1, _), (2, _), (3, _), (4, _), (5, _), (6, _), (9, _)]) [0, 1, 2, 3, 4, 5, 6, 9] dX10_cheapest_97 (Nat.le_of_ble_eq_true rfl) rfl ?_
              refine q_iload dX10_cheapest_99 rfl ?_
              refine q_iload dX10_cheapest_101 rfl ?_
              refine q_icmp_ge 111 dX10_cheapest_103 (by decide) (fun hc => ?_) (fun hc => ?_)
              · have h := q_it hc h
                refine q_iload dX10_cheapest_111 rfl ?_
                refine q_istore (ls' := [(0, _), (1, _), (2, _), (3, _), (4, _), (5, _), (6, _)]) [0, 1, 2, 3, 4, 5, 6] dX10_cheapest_113 (Nat.le_of_ble_eq_true rfl) rfl ?_
                refine q_iinc1 (w := 1) (ls' := [(0, _), (1, _), (2, _), (3, _), (4, _), (5, _), (6, _)]) [0, 1, 2, 3, 4, 5, 6] dX10_cheapest_115 rfl (by decide) (Nat.le_of_ble_eq_true rfl) rfl ?_
                refine q_goto 22 dX10_cheapest_118 (by decide) ?_
                exact ih _ _ _ _ _ _ _ h hx0
              · have h := q_if hc h
                refine q_iload dX10_cheapest_106 rfl ?_
                refine q_goto 113 dX10_cheapest_108 (by decide) ?_
                refine q_istore (ls' := [(0, _), (1, _), (2, _), (3, _), (4, _), (5, _), (6, _)]) [0, 1, 2, 3, 4, 5, 6] dX10_cheapest_113 (Nat.le_of_ble_eq_true rfl) rfl ?_
                refine q_iinc1 (w := 1) (ls' := [(0, _), (1, _), (2, _), (3, _), (4, _), (5, _), (6, _)]) [0, 1, 2, 3, 4, 5, 6] dX10_cheapest_115 rfl (by decide) (Nat.le_of_ble_eq_true rfl) rfl ?_
                refine q_goto 22 dX10_cheapest_118 (by decide) ?_
                exact ih _ _ _ _ _ _ _ h hx0
def l_X10_cheapest_13 : Nat → Int32 → Int32 → Int32 → Int32 → Int32 → q_Mm → Option (Int32)
  | 0, _, _, _, _, _, _ => none
  | k + 1, y1, y2, y3, y4, y5, m =>
    if 2 ≤ y5 then
      some (y4)
    else
      (l_X10_cheapest_22 7000  y1 y2 y3 y4 y5 (-1) m).bind fun r7 =>
      l_X10_cheapest_13 k  y1 y2 y3 r7 (y5 + 1) m
set_option maxRecDepth 100000 in
set_option maxHeartbeats 4000000 in
theorem t_l_X10_cheapest_13 {g : q_G} {n : Nat} {F : Nat → Nat → Option Nat} {Z : List Frame → Array Value → State → State → Prop} {kc ks : Nat} (hn : 89 ≤ n) (hF : q_FF F)  : ∀ (k : Nat) (y1 : Int32) (y2 : Int32) (y3 : Int32) (y4 : Int32) (y5 : Int32) (m : q_Mm) {r : Int32}, l_X10_cheapest_13 k y1 y2 y3 y4 y5 m = some r → (q_V g mX10_cheapest q_T Z kc ks 127 [(4, .int r)] [] (q_mk n F m)) → q_V g mX10_cheapest q_T Z kc ks 13 [(0, q_r g 58), (1, .int y1), (2, .int y2), (3, .int y3), (4, .int y4), (5, .int y5)] [] (q_mk n F m) := by
  intro k
  induction k with
  | zero => intro y1 y2 y3 y4 y5 m r h; cases h
  | succ k ih =>
    intro y1 y2 y3 y4 y5 m r h hx0
    unfold l_X10_cheapest_13 at h
    refine q_iload dX10_cheapest_13 rfl ?_
    refine q_iconst (v := 2) dX10_cheapest_15 (by decide) ?_
    refine q_icmp_ge 127 dX10_cheapest_16 (by decide) (fun hc => ?_) (fun hc => ?_)
    · have h := q_it hc h
      refine q_drop [4] (ls' := [(4, _)]) rfl ?_
      cases h
      exact hx0
    · have h := q_if hc h
      refine q_iconst (v := (-1)) dX10_cheapest_19 (by decide) ?_
      refine q_istore (ls' := [(0, _), (1, _), (2, _), (3, _), (4, _), (5, _), (6, _)]) [0, 1, 2, 3, 4, 5, 6] dX10_cheapest_20 (Nat.le_of_ble_eq_true rfl) rfl ?_
      obtain ⟨r7, hr8, h⟩ := q_bd h
      refine t_l_X10_cheapest_22 hn hF  7000 _ _ _ _ _ _ _ hr8 ?_
      refine q_iinc1 (w := 1) (ls' := [(0, _), (1, _), (2, _), (3, _), (4, _), (5, _)]) [0, 1, 2, 3, 4, 5] dX10_cheapest_121 rfl (by decide) (Nat.le_of_ble_eq_true rfl) rfl ?_
      refine q_goto 13 dX10_cheapest_124 (by decide) ?_
      exact ih _ _ _ _ _ _ h hx0
def f_X10_cheapest (x1 : Int32) (x2 : Int32) (x3 : Int32) (m : q_Mm) : Option (Int32) :=
  (f_X10_byMove x1 x2 x3 x3 m).bind fun r1 =>
  (l_X10_cheapest_13 7000  x1 x2 x3 r1 (-1) m).bind fun r9 =>
  some (r9)
set_option maxRecDepth 100000 in
set_option maxHeartbeats 4000000 in
theorem t_X10_cheapest {g : q_G} {n : Nat} {F : Nat → Nat → Option Nat} (hn : 89 ≤ n) (hF : q_FF F)  {x1 : Int32} {x2 : Int32} {x3 : Int32} {m : q_Mm} {r : Int32} (h : f_X10_cheapest x1 x2 x3 m = some r) : q_Cn g mX10_cheapest [q_r g 58, .int x1, .int x2, .int x3] (q_mk n F m) (q_Q (some (.int r)) (q_mk n F m)) := by
  unfold f_X10_cheapest at h
  show q_V g mX10_cheapest q_T _ _ _ 0 [(0, q_r g 58), (1, .int x1), (2, .int x2), (3, .int x3)] [] (q_mk n F m)
  refine q_aload_n dX10_cheapest_0 rfl ?_
  refine q_iload_n dX10_cheapest_1 rfl ?_
  refine q_iload_n dX10_cheapest_2 rfl ?_
  refine q_iload_n dX10_cheapest_3 rfl ?_
  refine q_iload_n dX10_cheapest_4 rfl ?_
  obtain ⟨r1, hr2, h⟩ := q_bd h
  refine c_V1 (as := [_, _, _, _]) (st := []) (ci := 10) dX10_cheapest_5 okX10_byMove lX10_311 ⟨rfl, rfl⟩ ⟨Nat.le_of_ble_eq_true rfl, Nat.le_of_ble_eq_true rfl⟩ (by decide) rfl rfl (Nat.lt_of_lt_of_le (Nat.le_of_ble_eq_true rfl) hn) rfl rfl (Nat.le_of_ble_eq_true rfl) (Nat.le_of_ble_eq_true rfl) (t_X10_byMove hn hF  hr2) ?_
  refine q_istore (ls' := [(0, _), (1, _), (2, _), (3, _), (4, _)]) [0, 1, 2, 3, 4] dX10_cheapest_8 (Nat.le_of_ble_eq_true rfl) rfl ?_
  refine q_iconst (v := (-1)) dX10_cheapest_10 (by decide) ?_
  refine q_istore (ls' := [(0, _), (1, _), (2, _), (3, _), (4, _), (5, _)]) [0, 1, 2, 3, 4, 5] dX10_cheapest_11 (Nat.le_of_ble_eq_true rfl) rfl ?_
  obtain ⟨r9, hr10, h⟩ := q_bd h
  refine t_l_X10_cheapest_13 hn hF  7000 _ _ _ _ _ _ hr10 ?_
  refine q_iload dX10_cheapest_127 rfl ?_
  cases h
  exact q_iret dX10_cheapest_129 rfl ⟨rfl, rfl⟩
def l_X10_findCosts_20 : Nat → Int32 → Int32 → Int32 → Int32 → Int32 → Int32 → q_Mm → Option (q_Mm)
  | 0, _, _, _, _, _, _, _ => none
  | k + 1, y1, y2, y3, y4, y5, y6, m =>
    if 144 ≤ y6 then
      some (m)
    else
      if y6 = y1 then
        (f_X10_canStay y6 y4 m).bind fun r5 =>
        if r5 = 0 then
          if y4 = y2 then
            if q_in (f_X10_placeOf y4 y5 y6 m) 242064 = true then
            l_X10_findCosts_20 k  y1 y2 y3 y4 y5 (y6 + 1) (q_wi m 85 ((f_X10_placeOf y4 y5 y6 m).toNatClampNeg) 1000000000)
            else none
          else
            (f_X10_cheapest y4 y5 y6 m).bind fun r7 =>
            if q_in (f_X10_placeOf y4 y5 y6 m) 242064 = true then
            l_X10_findCosts_20 k  y1 y2 y3 y4 y5 (y6 + 1) (q_wi m 85 ((f_X10_placeOf y4 y5 y6 m).toNatClampNeg) r7)
            else none
        else
          if q_in (f_X10_placeOf y4 y5 y6 m) 242064 = true then
          l_X10_findCosts_20 k  y1 y2 y3 y4 y5 (y6 + 1) (q_wi m 85 ((f_X10_placeOf y4 y5 y6 m).toNatClampNeg) 0)
          else none
      else
        if y4 = y2 then
          if q_in (f_X10_placeOf y4 y5 y6 m) 242064 = true then
          l_X10_findCosts_20 k  y1 y2 y3 y4 y5 (y6 + 1) (q_wi m 85 ((f_X10_placeOf y4 y5 y6 m).toNatClampNeg) 1000000000)
          else none
        else
          (f_X10_cheapest y4 y5 y6 m).bind fun r1 =>
          if q_in (f_X10_placeOf y4 y5 y6 m) 242064 = true then
          l_X10_findCosts_20 k  y1 y2 y3 y4 y5 (y6 + 1) (q_wi m 85 ((f_X10_placeOf y4 y5 y6 m).toNatClampNeg) r1)
          else none
set_option maxRecDepth 100000 in
set_option maxHeartbeats 4000000 in
theorem t_l_X10_findCosts_20 {g : q_G} {n : Nat} {F : Nat → Nat → Option Nat} {Z : List Frame → Array Value → State → State → Prop} {kc ks : Nat} (hn : 89 ≤ n) (hF : q_FF F)  : ∀ (k : Nat) (y1 : Int32) (y2 : Int32) (y3 : Int32) (y4 : Int32) (y5 : Int32) (y6 : Int32) (m : q_Mm) {r : q_Mm}, l_X10_findCosts_20 k y1 y2 y3 y4 y5 y6 m = some r → (q_V g mX10_findCosts q_T Z kc ks 91 [(0, q_r g 58), (1, .int y1), (2, .int y2), (3, .int y3), (4, .int y4), (5, .int y5)] [] (q_mk n F r)) → q_V g mX10_findCosts q_T Z kc ks 20 [(0, q_r g 58), (1, .int y1), (2, .int y2), (3, .int y3), (4, .int y4), (5, .int y5), (6, .int y6)] [] (q_mk n F m) := by
  intro k
  induction k with
  | zero => intro y1 y2 y3 y4 y5 y6 m r h; cases h
  | succ k ih =>
    intro y1 y2 y3 y4 y5 y6 m r h hx0
    unfold l_X10_findCosts_20 at h
    refine q_iload dX10_findCosts_20 rfl ?_
    refine q_sipush (v := 144) dX10_findCosts_22 (by decide) ?_
    refine q_icmp_ge 91 dX10_findCosts_25 (by decide) (fun hc => ?_) (fun hc => ?_)
    · have h := q_it hc h
      refine q_drop [0, 1, 2, 3, 4, 5] (ls' := [(0, _), (1, _), (2, _), (3, _), (4, _), (5, _)]) rfl ?_
      cases h
      exact hx0
    · have h := q_if hc h
      refine q_aload_n dX10_findCosts_28 rfl ?_
      refine u_getr dX10_findCosts_29 fX10_108 rfl rfl (Nat.lt_of_lt_of_le (Nat.le_of_ble_eq_true rfl) hn) (hF 58 43 85 rfl) ?_
      refine q_iload dX10_findCosts_32 rfl ?_
      refine q_iload dX10_findCosts_34 rfl ?_
      refine q_iload dX10_findCosts_36 rfl ?_
      refine c_S1 (as := [_, _, _]) (st := [_]) dX10_findCosts_38 okX10_placeOf lX10_301 ⟨rfl, rfl⟩ ⟨Nat.le_of_ble_eq_true rfl, Nat.le_of_ble_eq_true rfl⟩ rfl rfl (Nat.le_of_ble_eq_true rfl) (Nat.le_of_ble_eq_true rfl) (t_X10_placeOf hn hF  rfl) ?_
      refine q_iload dX10_findCosts_41 rfl ?_
      refine q_iload_n dX10_findCosts_43 rfl ?_
      refine q_icmp_ne 62 dX10_findCosts_44 (by decide) (fun hc => ?_) (fun hc => ?_)
      · have h := q_if hc h
        refine q_iload dX10_findCosts_62 rfl ?_
        refine q_iload_n dX10_findCosts_64 rfl ?_
        refine q_icmp_ne 74 dX10_findCosts_65 (by decide) (fun hc => ?_) (fun hc => ?_)
        · have h := q_if hc h
          refine q_aload_n dX10_findCosts_74 rfl ?_
          refine q_iload dX10_findCosts_75 rfl ?_
          refine q_iload dX10_findCosts_77 rfl ?_
          refine q_iload dX10_findCosts_79 rfl ?_
          obtain ⟨r1, hr2, h⟩ := q_bd h
          refine c_V1 (as := [_, _, _]) (st := [_, _]) (ci := 10) dX10_findCosts_81 okX10_cheapest lX10_308 ⟨rfl, rfl⟩ ⟨Nat.le_of_ble_eq_true rfl, Nat.le_of_ble_eq_true rfl⟩ (by decide) rfl rfl (Nat.lt_of_lt_of_le (Nat.le_of_ble_eq_true rfl) hn) rfl rfl (Nat.le_of_ble_eq_true rfl) (Nat.le_of_ble_eq_true rfl) (t_X10_cheapest hn hF  hr2) ?_
          obtain ⟨hi3, h⟩ := q_is h
          refine u_iast dX10_findCosts_84 rfl (Nat.lt_of_lt_of_le (Nat.le_of_ble_eq_true rfl) hn) (q_in_vp hi3) ?_
          refine q_iinc1 (w := 1) (ls' := [(0, _), (1, _), (2, _), (3, _), (4, _), (5, _), (6, _)]) [0, 1, 2, 3, 4, 5, 6] dX10_findCosts_85 rfl (by decide) (Nat.le_of_ble_eq_true rfl) rfl ?_
          refine q_goto 20 dX10_findCosts_88 (by decide) ?_
          exact ih _ _ _ _ _ _ _ h hx0
        · have h := q_it hc h
          refine q_ldcw dX10_findCosts_68 kX10_300 ?_
          refine q_goto 84 dX10_findCosts_71 (by decide) ?_
          obtain ⟨hi4, h⟩ := q_is h
          refine u_iast dX10_findCosts_84 rfl (Nat.lt_of_lt_of_le (Nat.le_of_ble_eq_true rfl) hn) (q_in_vp hi4) ?_
          refine q_iinc1 (w := 1) (ls' := [(0, _), (1, _), (2, _), (3, _), (4, _), (5, _), (6, _)]) [0, 1, 2, 3, 4, 5, 6] dX10_findCosts_85 rfl (by decide) (Nat.le_of_ble_eq_true rfl) rfl ?_
          refine q_goto 20 dX10_findCosts_88 (by decide) ?_
          exact ih _ _ _ _ _ _ _ h hx0
      · have h := q_it hc h
        refine q_aload_n dX10_findCosts_47 rfl ?_
        refine q_iload dX10_findCosts_48 rfl ?_
        refine q_iload dX10_findCosts_50 rfl ?_
        obtain ⟨r5, hr6, h⟩ := q_bd h
        refine c_V1 (as := [_, _]) (st := [_, _]) (ci := 10) dX10_findCosts_52 okX10_canStay lX10_305 ⟨rfl, rfl⟩ ⟨Nat.le_of_ble_eq_true rfl, Nat.le_of_ble_eq_true rfl⟩ (by decide) rfl rfl (Nat.lt_of_lt_of_le (Nat.le_of_ble_eq_true rfl) hn) rfl rfl (Nat.le_of_ble_eq_true rfl) (Nat.le_of_ble_eq_true rfl) (t_X10_canStay hn hF  hr6) ?_
        refine q_if_eq 62 dX10_findCosts_55 (by decide) (fun hc => ?_) (fun hc => ?_)
        · have h := q_it hc h
          refine q_iload dX10_findCosts_62 rfl ?_
          refine q_iload_n dX10_findCosts_64 rfl ?_
          refine q_icmp_ne 74 dX10_findCosts_65 (by decide) (fun hc => ?_) (fun hc => ?_)
          · have h := q_if hc h
            refine q_aload_n dX10_findCosts_74 rfl ?_
            refine q_iload dX10_findCosts_75 rfl ?_
            refine q_iload dX10_findCosts_77 rfl ?_
            refine q_iload dX10_findCosts_79 rfl ?_
            obtain ⟨r7, hr8, h⟩ := q_bd h
            refine c_V1 (as := [_, _, _]) (st := [_, _]) (ci := 10) dX10_findCosts_81 okX10_cheapest lX10_308 ⟨rfl, rfl⟩ ⟨Nat.le_of_ble_eq_true rfl, Nat.le_of_ble_eq_true rfl⟩ (by decide) rfl rfl (Nat.lt_of_lt_of_le (Nat.le_of_ble_eq_true rfl) hn) rfl rfl (Nat.le_of_ble_eq_true rfl) (Nat.le_of_ble_eq_true rfl) (t_X10_cheapest hn hF  hr8) ?_
            obtain ⟨hi9, h⟩ := q_is h
            refine u_iast dX10_findCosts_84 rfl (Nat.lt_of_lt_of_le (Nat.le_of_ble_eq_true rfl) hn) (q_in_vp hi9) ?_
            refine q_iinc1 (w := 1) (ls' := [(0, _), (1, _), (2, _), (3, _), (4, _), (5, _), (6, _)]) [0, 1, 2, 3, 4, 5, 6] dX10_findCosts_85 rfl (by decide) (Nat.le_of_ble_eq_true rfl) rfl ?_
            refine q_goto 20 dX10_findCosts_88 (by decide) ?_
            exact ih _ _ _ _ _ _ _ h hx0
          · have h := q_it hc h
            refine q_ldcw dX10_findCosts_68 kX10_300 ?_
            refine q_goto 84 dX10_findCosts_71 (by decide) ?_
            obtain ⟨hi10, h⟩ := q_is h
            refine u_iast dX10_findCosts_84 rfl (Nat.lt_of_lt_of_le (Nat.le_of_ble_eq_true rfl) hn) (q_in_vp hi10) ?_
            refine q_iinc1 (w := 1) (ls' := [(0, _), (1, _), (2, _), (3, _), (4, _), (5, _), (6, _)]) [0, 1, 2, 3, 4, 5, 6] dX10_findCosts_85 rfl (by decide) (Nat.le_of_ble_eq_true rfl) rfl ?_
            refine q_goto 20 dX10_findCosts_88 (by decide) ?_
            exact ih _ _ _ _ _ _ _ h hx0
        · have h := q_if hc h
          refine q_iconst (v := 0) dX10_findCosts_58 (by decide) ?_
          refine q_goto 84 dX10_findCosts_59 (by decide) ?_
          obtain ⟨hi11, h⟩ := q_is h
          refine u_iast dX10_findCosts_84 rfl (Nat.lt_of_lt_of_le (Nat.le_of_ble_eq_true rfl) hn) (q_in_vp hi11) ?_
          refine q_iinc1 (w := 1) (ls' := [(0, _), (1, _), (2, _), (3, _), (4, _), (5, _), (6, _)]) [0, 1, 2, 3, 4, 5, 6] dX10_findCosts_85 rfl (by decide) (Nat.le_of_ble_eq_true rfl) rfl ?_
          refine q_goto 20 dX10_findCosts_88 (by decide) ?_
          exact ih _ _ _ _ _ _ _ h hx0
def l_X10_findCosts_11 : Nat → Int32 → Int32 → Int32 → Int32 → Int32 → q_Mm → Option (q_Mm)
  | 0, _, _, _, _, _, _ => none
  | k + 1, y1, y2, y3, y4, y5, m =>
    if y3 < y5 then
      some (m)
    else
      (l_X10_findCosts_20 7000  y1 y2 y3 y4 y5 0 m).bind fun r12 =>
      l_X10_findCosts_11 k  y1 y2 y3 y4 (y5 + 1) r12
set_option maxRecDepth 100000 in
set_option maxHeartbeats 4000000 in
theorem t_l_X10_findCosts_11 {g : q_G} {n : Nat} {F : Nat → Nat → Option Nat} {Z : List Frame → Array Value → State → State → Prop} {kc ks : Nat} (hn : 89 ≤ n) (hF : q_FF F)  : ∀ (k : Nat) (y1 : Int32) (y2 : Int32) (y3 : Int32) (y4 : Int32) (y5 : Int32) (m : q_Mm) {r : q_Mm}, l_X10_findCosts_11 k y1 y2 y3 y4 y5 m = some r → (q_V g mX10_findCosts q_T Z kc ks 97 [(0, q_r g 58), (1, .int y1), (2, .int y2), (3, .int y3), (4, .int y4)] [] (q_mk n F r)) → q_V g mX10_findCosts q_T Z kc ks 11 [(0, q_r g 58), (1, .int y1), (2, .int y2), (3, .int y3), (4, .int y4), (5, .int y5)] [] (q_mk n F m) := by
  intro k
  induction k with
  | zero => intro y1 y2 y3 y4 y5 m r h; cases h
  | succ k ih =>
    intro y1 y2 y3 y4 y5 m r h hx0
    unfold l_X10_findCosts_11 at h
    refine q_iload dX10_findCosts_11 rfl ?_
    refine q_iload_n dX10_findCosts_13 rfl ?_
    refine q_icmp_gt 97 dX10_findCosts_14 (by decide) (fun hc => ?_) (fun hc => ?_)
    · have h := q_it hc h
      refine q_drop [0, 1, 2, 3, 4] (ls' := [(0, _), (1, _), (2, _), (3, _), (4, _)]) rfl ?_
      cases h
      exact hx0
    · have h := q_if hc h
      refine q_iconst (v := 0) dX10_findCosts_17 (by decide) ?_
      refine q_istore (ls' := [(0, _), (1, _), (2, _), (3, _), (4, _), (5, _), (6, _)]) [0, 1, 2, 3, 4, 5, 6] dX10_findCosts_18 (Nat.le_of_ble_eq_true rfl) rfl ?_
      obtain ⟨r12, hr13, h⟩ := q_bd h
      refine t_l_X10_findCosts_20 hn hF  7000 _ _ _ _ _ _ _ hr13 ?_
      refine q_iinc1 (w := 1) (ls' := [(0, _), (1, _), (2, _), (3, _), (4, _), (5, _)]) [0, 1, 2, 3, 4, 5] dX10_findCosts_91 rfl (by decide) (Nat.le_of_ble_eq_true rfl) rfl ?_
      refine q_goto 11 dX10_findCosts_94 (by decide) ?_
      exact ih _ _ _ _ _ _ h hx0
def l_X10_findCosts_3 : Nat → Int32 → Int32 → Int32 → Int32 → q_Mm → Option (q_Mm)
  | 0, _, _, _, _, _ => none
  | k + 1, y1, y2, y3, y4, m =>
    if y4 < 0 then
      some (m)
    else
      (l_X10_findCosts_11 7000  y1 y2 y3 y4 0 m).bind fun r14 =>
      l_X10_findCosts_3 k  y1 y2 y3 (y4 + (-1)) r14
set_option maxRecDepth 100000 in
set_option maxHeartbeats 4000000 in
theorem t_l_X10_findCosts_3 {g : q_G} {n : Nat} {F : Nat → Nat → Option Nat} {Z : List Frame → Array Value → State → State → Prop} {kc ks : Nat} (hn : 89 ≤ n) (hF : q_FF F)  : ∀ (k : Nat) (y1 : Int32) (y2 : Int32) (y3 : Int32) (y4 : Int32) (m : q_Mm) {r : q_Mm}, l_X10_findCosts_3 k y1 y2 y3 y4 m = some r → (q_V g mX10_findCosts q_T Z kc ks 103 [] [] (q_mk n F r)) → q_V g mX10_findCosts q_T Z kc ks 3 [(0, q_r g 58), (1, .int y1), (2, .int y2), (3, .int y3), (4, .int y4)] [] (q_mk n F m) := by
  intro k
  induction k with
  | zero => intro y1 y2 y3 y4 m r h; cases h
  | succ k ih =>
    intro y1 y2 y3 y4 m r h hx0
    unfold l_X10_findCosts_3 at h
    refine q_iload dX10_findCosts_3 rfl ?_
    refine q_if_lt 103 dX10_findCosts_5 (by decide) (fun hc => ?_) (fun hc => ?_)
    · have h := q_it hc h
      refine q_drop [] (ls' := []) rfl ?_
      cases h
      exact hx0
    · have h := q_if hc h
      refine q_iconst (v := 0) dX10_findCosts_8 (by decide) ?_
      refine q_istore (ls' := [(0, _), (1, _), (2, _), (3, _), (4, _), (5, _)]) [0, 1, 2, 3, 4, 5] dX10_findCosts_9 (Nat.le_of_ble_eq_true rfl) rfl ?_
      obtain ⟨r14, hr15, h⟩ := q_bd h
      refine t_l_X10_findCosts_11 hn hF  7000 _ _ _ _ _ _ hr15 ?_
      refine q_iinc1 (w := (-1)) (ls' := [(0, _), (1, _), (2, _), (3, _), (4, _)]) [0, 1, 2, 3, 4] dX10_findCosts_97 rfl (by decide) (Nat.le_of_ble_eq_true rfl) rfl ?_
      refine q_goto 3 dX10_findCosts_100 (by decide) ?_
      exact ih _ _ _ _ _ h hx0
def f_X10_findCosts (x1 : Int32) (x2 : Int32) (x3 : Int32) (m : q_Mm) : Option (q_Mm) :=
  (l_X10_findCosts_3 7000  x1 x2 x3 x2 m).bind fun r16 =>
  some (r16)
set_option maxRecDepth 100000 in
set_option maxHeartbeats 4000000 in
theorem t_X10_findCosts {g : q_G} {n : Nat} {F : Nat → Nat → Option Nat} (hn : 89 ≤ n) (hF : q_FF F)  {x1 : Int32} {x2 : Int32} {x3 : Int32} {m : q_Mm} {r : q_Mm} (h : f_X10_findCosts x1 x2 x3 m = some r) : q_Cn g mX10_findCosts [q_r g 58, .int x1, .int x2, .int x3] (q_mk n F m) (q_Q none (q_mk n F r)) := by
  unfold f_X10_findCosts at h
  show q_V g mX10_findCosts q_T _ _ _ 0 [(0, q_r g 58), (1, .int x1), (2, .int x2), (3, .int x3)] [] (q_mk n F m)
  refine q_iload_n dX10_findCosts_0 rfl ?_
  refine q_istore (ls' := [(0, _), (1, _), (2, _), (3, _), (4, _)]) [0, 1, 2, 3, 4] dX10_findCosts_1 (Nat.le_of_ble_eq_true rfl) rfl ?_
  obtain ⟨r16, hr17, h⟩ := q_bd h
  refine t_l_X10_findCosts_3 hn hF  7000 _ _ _ _ _ hr17 ?_
  cases h
  exact q_vret dX10_findCosts_103 rfl ⟨rfl, rfl⟩
