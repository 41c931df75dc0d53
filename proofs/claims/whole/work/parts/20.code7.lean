def f_X10_clear (x1 : Int32) (m : q_Mm) : Option (Int32 × q_Mm) :=
  if (f_X10_isPlan x1 m) = 0 then
    some (((-1), m))
  else
    if q_in x1 4 = true then
    if q_in x1 4 = true then
    some ((m.1 61 x1.toNatClampNeg, q_wi m 61 x1.toNatClampNeg 0))
    else none
    else none
set_option maxRecDepth 100000 in
set_option maxHeartbeats 4000000 in
theorem t_X10_clear {g : q_G} {n : Nat} {F : Nat → Nat → Option Nat} (hn : 89 ≤ n) (hF : q_FF F)  {x1 : Int32} {m : q_Mm} {r : Int32 × q_Mm} (h : f_X10_clear x1 m = some r) : q_Cn g mX10_clear [q_r g 58, .int x1] (q_mk n F m) (q_Q (some (.int r.1)) (q_mk n F r.2)) := by
  unfold f_X10_clear at h
  show q_V g mX10_clear q_T _ _ _ 0 [(0, q_r g 58), (1, .int x1)] [] (q_mk n F m)
  refine q_iload_n dX10_clear_0 rfl ?_
  refine c_S1 (as := [_]) (st := []) dX10_clear_1 okX10_isPlan lX10_126 ⟨rfl, rfl⟩ ⟨Nat.le_of_ble_eq_true rfl, Nat.le_of_ble_eq_true rfl⟩ rfl rfl (Nat.le_of_ble_eq_true rfl) (Nat.le_of_ble_eq_true rfl) (t_X10_isPlan hn hF  rfl) ?_
  refine q_if_ne 9 dX10_clear_4 (by decide) (fun hc => ?_) (fun hc => ?_)
  · have h := q_if hc h
    refine q_aload_n dX10_clear_9 rfl ?_
    refine u_getr dX10_clear_10 fX10_16 rfl rfl (Nat.lt_of_lt_of_le (Nat.le_of_ble_eq_true rfl) hn) (hF 58 2 61 rfl) ?_
    refine q_iload_n dX10_clear_13 rfl ?_
    obtain ⟨hi1, h⟩ := q_is h
    refine u_iald dX10_clear_14 rfl (Nat.lt_of_lt_of_le (Nat.le_of_ble_eq_true rfl) hn) (q_in_vp hi1) ?_
    refine q_istore_n (ls' := [(0, _), (1, _), (2, _)]) [0, 1, 2] dX10_clear_15 (Nat.le_of_ble_eq_true rfl) rfl ?_
    refine q_aload_n dX10_clear_16 rfl ?_
    refine u_getr dX10_clear_17 fX10_16 rfl rfl (Nat.lt_of_lt_of_le (Nat.le_of_ble_eq_true rfl) hn) (hF 58 2 61 rfl) ?_
    refine q_iload_n dX10_clear_20 rfl ?_
    refine q_iconst (v := 0) dX10_clear_21 (by decide) ?_
    obtain ⟨hi2, h⟩ := q_is h
    refine u_iast dX10_clear_22 rfl (Nat.lt_of_lt_of_le (Nat.le_of_ble_eq_true rfl) hn) (q_in_vp hi2) ?_
    refine q_iload_n dX10_clear_23 rfl ?_
    cases h
    exact q_iret dX10_clear_24 rfl ⟨rfl, rfl⟩
  · have h := q_it hc h
    refine q_iconst (v := (-1)) dX10_clear_7 (by decide) ?_
    cases h
    exact q_iret dX10_clear_8 rfl ⟨rfl, rfl⟩
def f_X10_ofTurn (x1 : Int32) (x2 : Int32) (x3 : Int32) (m : q_Mm) : Option (Int32) :=
  if (f_X10_isPlan x1 m) = 0 then
    some ((-101))
  else
    if q_in x1 4 = true then
    if (f_X10_in x2.toInt64 0 (((m.1 61 x1.toNatClampNeg) - 1).toInt64) m) = 0 then
      some ((-101))
    else
      if x3 = 0 then
        if q_in ((12 * x1) + x2) 48 = true then
        some (m.1 59 ((12 * x1) + x2).toNatClampNeg)
        else none
      else
        if x3 = 1 then
          if q_in ((12 * x1) + x2) 48 = true then
          some (m.1 60 ((12 * x1) + x2).toNatClampNeg)
          else none
        else
          some ((-102))
    else none
set_option maxRecDepth 100000 in
set_option maxHeartbeats 4000000 in
theorem t_X10_ofTurn {g : q_G} {n : Nat} {F : Nat → Nat → Option Nat} (hn : 89 ≤ n) (hF : q_FF F)  {x1 : Int32} {x2 : Int32} {x3 : Int32} {m : q_Mm} {r : Int32} (h : f_X10_ofTurn x1 x2 x3 m = some r) : q_Cn g mX10_ofTurn [q_r g 58, .int x1, .int x2, .int x3] (q_mk n F m) (q_Q (some (.int r)) (q_mk n F m)) := by
  unfold f_X10_ofTurn at h
  show q_V g mX10_ofTurn q_T _ _ _ 0 [(0, q_r g 58), (1, .int x1), (2, .int x2), (3, .int x3)] [] (q_mk n F m)
  refine q_iload_n dX10_ofTurn_0 rfl ?_
  refine c_S1 (as := [_]) (st := []) dX10_ofTurn_1 okX10_isPlan lX10_126 ⟨rfl, rfl⟩ ⟨Nat.le_of_ble_eq_true rfl, Nat.le_of_ble_eq_true rfl⟩ rfl rfl (Nat.le_of_ble_eq_true rfl) (Nat.le_of_ble_eq_true rfl) (t_X10_isPlan hn hF  rfl) ?_
  refine q_if_eq 25 dX10_ofTurn_4 (by decide) (fun hc => ?_) (fun hc => ?_)
  · have h := q_it hc h
    refine q_bipush (v := (-101)) dX10_ofTurn_25 (by decide) ?_
    cases h
    exact q_iret dX10_ofTurn_27 rfl ⟨rfl, rfl⟩
  · have h := q_if hc h
    refine q_iload_n dX10_ofTurn_7 rfl ?_
    refine q_i2l dX10_ofTurn_8 ?_
    refine q_lconst (v := 0) dX10_ofTurn_9 (by decide) ?_
    refine q_aload_n dX10_ofTurn_10 rfl ?_
    refine u_getr dX10_ofTurn_11 fX10_16 rfl rfl (Nat.lt_of_lt_of_le (Nat.le_of_ble_eq_true rfl) hn) (hF 58 2 61 rfl) ?_
    refine q_iload_n dX10_ofTurn_14 rfl ?_
    obtain ⟨hi1, h⟩ := q_is h
    refine u_iald dX10_ofTurn_15 rfl (Nat.lt_of_lt_of_le (Nat.le_of_ble_eq_true rfl) hn) (q_in_vp hi1) ?_
    refine q_iconst (v := 1) dX10_ofTurn_16 (by decide) ?_
    refine q_isub dX10_ofTurn_17 ?_
    refine q_i2l dX10_ofTurn_18 ?_
    refine c_S1 (as := [_, _, _]) (st := []) dX10_ofTurn_19 okX10_in lX10_122 ⟨rfl, rfl⟩ ⟨Nat.le_of_ble_eq_true rfl, Nat.le_of_ble_eq_true rfl⟩ rfl rfl (Nat.le_of_ble_eq_true rfl) (Nat.le_of_ble_eq_true rfl) (t_X10_in hn hF  rfl) ?_
    refine q_if_ne 28 dX10_ofTurn_22 (by decide) (fun hc => ?_) (fun hc => ?_)
    · have h := q_if hc h
      refine q_iload_n dX10_ofTurn_28 rfl ?_
      refine q_if_ne 46 dX10_ofTurn_29 (by decide) (fun hc => ?_) (fun hc => ?_)
      · have h := q_if hc h
        refine q_iload_n dX10_ofTurn_46 rfl ?_
        refine q_iconst (v := 1) dX10_ofTurn_47 (by decide) ?_
        refine q_icmp_ne 65 dX10_ofTurn_48 (by decide) (fun hc => ?_) (fun hc => ?_)
        · have h := q_if hc h
          refine q_bipush (v := (-102)) dX10_ofTurn_65 (by decide) ?_
          cases h
          exact q_iret dX10_ofTurn_67 rfl ⟨rfl, rfl⟩
        · have h := q_it hc h
          refine q_aload_n dX10_ofTurn_51 rfl ?_
          refine u_getr dX10_ofTurn_52 fX10_13 rfl rfl (Nat.lt_of_lt_of_le (Nat.le_of_ble_eq_true rfl) hn) (hF 58 1 60 rfl) ?_
          refine q_bipush (v := 12) dX10_ofTurn_55 (by decide) ?_
          refine q_iload_n dX10_ofTurn_57 rfl ?_
          refine q_imul dX10_ofTurn_58 ?_
          refine q_iload_n dX10_ofTurn_59 rfl ?_
          refine q_iadd dX10_ofTurn_60 ?_
          obtain ⟨hi2, h⟩ := q_is h
          refine u_iald dX10_ofTurn_61 rfl (Nat.lt_of_lt_of_le (Nat.le_of_ble_eq_true rfl) hn) (q_in_vp hi2) ?_
          refine q_goto 67 dX10_ofTurn_62 (by decide) ?_
          cases h
          exact q_iret dX10_ofTurn_67 rfl ⟨rfl, rfl⟩
      · have h := q_it hc h
        refine q_aload_n dX10_ofTurn_32 rfl ?_
        refine u_getr dX10_ofTurn_33 fX10_7 rfl rfl (Nat.lt_of_lt_of_le (Nat.le_of_ble_eq_true rfl) hn) (hF 58 0 59 rfl) ?_
        refine q_bipush (v := 12) dX10_ofTurn_36 (by decide) ?_
        refine q_iload_n dX10_ofTurn_38 rfl ?_
        refine q_imul dX10_ofTurn_39 ?_
        refine q_iload_n dX10_ofTurn_40 rfl ?_
        refine q_iadd dX10_ofTurn_41 ?_
        obtain ⟨hi3, h⟩ := q_is h
        refine u_iald dX10_ofTurn_42 rfl (Nat.lt_of_lt_of_le (Nat.le_of_ble_eq_true rfl) hn) (q_in_vp hi3) ?_
        refine q_goto 67 dX10_ofTurn_43 (by decide) ?_
        cases h
        exact q_iret dX10_ofTurn_67 rfl ⟨rfl, rfl⟩
    · have h := q_it hc h
      refine q_bipush (v := (-101)) dX10_ofTurn_25 (by decide) ?_
      cases h
      exact q_iret dX10_ofTurn_27 rfl ⟨rfl, rfl⟩
def l_X10_missNone_2 : Nat → Int32 → q_Mm → Option (q_Mm)
  | 0, _, _ => none
  | k + 1, y1, m =>
    if 11 ≤ y1 then
      some (m)
    else
      if q_in y1 11 = true then
      l_X10_missNone_2 k  (y1 + 1) (q_wi m 62 y1.toNatClampNeg 0)
      else none
set_option maxRecDepth 100000 in
set_option maxHeartbeats 4000000 in
theorem t_l_X10_missNone_2 {g : q_G} {n : Nat} {F : Nat → Nat → Option Nat} {Z : List Frame → Array Value → State → State → Prop} {kc ks : Nat} (hn : 89 ≤ n) (hF : q_FF F)  : ∀ (k : Nat) (y1 : Int32) (m : q_Mm) {r : q_Mm}, l_X10_missNone_2 k y1 m = some r → (q_V g mX10_missNone q_T Z kc ks 21 [] [] (q_mk n F r)) → q_V g mX10_missNone q_T Z kc ks 2 [(0, q_r g 58), (1, .int y1)] [] (q_mk n F m) := by
  intro k
  induction k with
  | zero => intro y1 m r h; cases h
  | succ k ih =>
    intro y1 m r h hx0
    unfold l_X10_missNone_2 at h
    refine q_iload_n dX10_missNone_2 rfl ?_
    refine q_bipush (v := 11) dX10_missNone_3 (by decide) ?_
    refine q_icmp_ge 21 dX10_missNone_5 (by decide) (fun hc => ?_) (fun hc => ?_)
    · have h := q_it hc h
      refine q_drop [] (ls' := []) rfl ?_
      cases h
      exact hx0
    · have h := q_if hc h
      refine q_aload_n dX10_missNone_8 rfl ?_
      refine u_getr dX10_missNone_9 fX10_19 rfl rfl (Nat.lt_of_lt_of_le (Nat.le_of_ble_eq_true rfl) hn) (hF 58 4 62 rfl) ?_
      refine q_iload_n dX10_missNone_12 rfl ?_
      refine q_iconst (v := 0) dX10_missNone_13 (by decide) ?_
      obtain ⟨hi1, h⟩ := q_is h
      refine u_iast dX10_missNone_14 rfl (Nat.lt_of_lt_of_le (Nat.le_of_ble_eq_true rfl) hn) (q_in_vp hi1) ?_
      refine q_iinc1 (w := 1) (ls' := [(0, _), (1, _)]) [0, 1] dX10_missNone_15 rfl (by decide) (Nat.le_of_ble_eq_true rfl) rfl ?_
      refine q_goto 2 dX10_missNone_18 (by decide) ?_
      exact ih _ _ h hx0
def f_X10_missNone  (m : q_Mm) : Option (q_Mm) :=
  (l_X10_missNone_2 7000  0 m).bind fun r2 =>
  some (r2)
set_option maxRecDepth 100000 in
set_option maxHeartbeats 4000000 in
theorem t_X10_missNone {g : q_G} {n : Nat} {F : Nat → Nat → Option Nat} (hn : 89 ≤ n) (hF : q_FF F)   {m : q_Mm} {r : q_Mm} (h : f_X10_missNone  m = some r) : q_Cn g mX10_missNone [q_r g 58] (q_mk n F m) (q_Q none (q_mk n F r)) := by
  unfold f_X10_missNone at h
  show q_V g mX10_missNone q_T _ _ _ 0 [(0, q_r g 58)] [] (q_mk n F m)
  refine q_iconst (v := 0) dX10_missNone_0 (by decide) ?_
  refine q_istore_n (ls' := [(0, _), (1, _)]) [0, 1] dX10_missNone_1 (Nat.le_of_ble_eq_true rfl) rfl ?_
  obtain ⟨r2, hr3, h⟩ := q_bd h
  refine t_l_X10_missNone_2 hn hF  7000 _ _ hr3 ?_
  cases h
  exact q_vret dX10_missNone_21 rfl ⟨rfl, rfl⟩
def l_X10_courseAt_17 : Nat → Int32 → Int32 → Int32 → Int32 → Int32 → q_Mm → Option (Int32)
  | 0, _, _, _, _, _, _ => none
  | k + 1, y1, y2, y3, y4, y5, m =>
    if q_in y1 4 = true then
    if (m.1 61 y1.toNatClampNeg) ≤ y5 then
      some (y3)
    else
      if q_in ((12 * y1) + y5) 48 = true then
      if (q_rm y2 60) < (m.1 59 ((12 * y1) + y5).toNatClampNeg) then
        if (0 : Int32) = 0 then
          l_X10_courseAt_17 k  y1 y2 y3 y4 (y5 + 1) m
        else
          if q_in ((12 * y1) + y5) 48 = true then
          l_X10_courseAt_17 k  y1 y2 (m.1 60 ((12 * y1) + y5).toNatClampNeg) y4 (y5 + 1) m
          else none
      else
        if q_in y4 11 = true then
        if (((m.1 62 y4.toNatClampNeg) >>> (y5 &&& 31)) &&& 1) = 0 then
          if (1 : Int32) = 0 then
            l_X10_courseAt_17 k  y1 y2 y3 y4 (y5 + 1) m
          else
            if q_in ((12 * y1) + y5) 48 = true then
            l_X10_courseAt_17 k  y1 y2 (m.1 60 ((12 * y1) + y5).toNatClampNeg) y4 (y5 + 1) m
            else none
        else
          if (0 : Int32) = 0 then
            l_X10_courseAt_17 k  y1 y2 y3 y4 (y5 + 1) m
          else
            if q_in ((12 * y1) + y5) 48 = true then
            l_X10_courseAt_17 k  y1 y2 (m.1 60 ((12 * y1) + y5).toNatClampNeg) y4 (y5 + 1) m
            else none
        else none
      else none
    else none
set_option maxRecDepth 100000 in
set_option maxHeartbeats 4000000 in
theorem t_l_X10_courseAt_17 {g : q_G} {n : Nat} {F : Nat → Nat → Option Nat} {Z : List Frame → Array Value → State → State → Prop} {kc ks : Nat} (hn : 89 ≤ n) (hF : q_FF F)  : ∀ (k : Nat) (y1 : Int32) (y2 : Int32) (y3 : Int32) (y4 : Int32) (y5 : Int32) (m : q_Mm) {r : Int32}, l_X10_courseAt_17 k y1 y2 y3 y4 y5 m = some r → (q_V g mX10_courseAt q_T Z kc ks 97 [(3, .int r)] [] (q_mk n F m)) → q_V g mX10_courseAt q_T Z kc ks 17 [(0, q_r g 58), (1, .int y1), (2, .int y2), (3, .int y3), (4, .int y4), (5, .int y5)] [] (q_mk n F m) := by
  intro k
  induction k with
  | zero => intro y1 y2 y3 y4 y5 m r h; cases h
  | succ k ih =>
    intro y1 y2 y3 y4 y5 m r h hx0
    unfold l_X10_courseAt_17 at h
    refine q_iload dX10_courseAt_17 rfl ?_
    refine q_aload_n dX10_courseAt_19 rfl ?_
    refine u_getr dX10_courseAt_20 fX10_16 rfl rfl (Nat.lt_of_lt_of_le (Nat.le_of_ble_eq_true rfl) hn) (hF 58 2 61 rfl) ?_
    refine q_iload_n dX10_courseAt_23 rfl ?_
    obtain ⟨hi1, h⟩ := q_is h
    refine u_iald dX10_courseAt_24 rfl (Nat.lt_of_lt_of_le (Nat.le_of_ble_eq_true rfl) hn) (q_in_vp hi1) ?_
    refine q_icmp_ge 97 dX10_courseAt_25 (by decide) (fun hc => ?_) (fun hc => ?_)
    · have h := q_it hc h
      refine q_drop [3] (ls' := [(3, _)]) rfl ?_
      cases h
      exact hx0
    · have h := q_if hc h
      refine q_aload_n dX10_courseAt_28 rfl ?_
      refine u_getr dX10_courseAt_29 fX10_7 rfl rfl (Nat.lt_of_lt_of_le (Nat.le_of_ble_eq_true rfl) hn) (hF 58 0 59 rfl) ?_
      refine q_bipush (v := 12) dX10_courseAt_32 (by decide) ?_
      refine q_iload_n dX10_courseAt_34 rfl ?_
      refine q_imul dX10_courseAt_35 ?_
      refine q_iload dX10_courseAt_36 rfl ?_
      refine q_iadd dX10_courseAt_38 ?_
      obtain ⟨hi2, h⟩ := q_is h
      refine u_iald dX10_courseAt_39 rfl (Nat.lt_of_lt_of_le (Nat.le_of_ble_eq_true rfl) hn) (q_in_vp hi2) ?_
      refine q_iload_n dX10_courseAt_40 rfl ?_
      refine q_bipush (v := 60) dX10_courseAt_41 (by decide) ?_
      refine q_irm dX10_courseAt_43 (by decide) ?_
      refine q_icmp_gt 66 dX10_courseAt_44 (by decide) (fun hc => ?_) (fun hc => ?_)
      · have h := q_it hc h
        refine q_iconst (v := 0) dX10_courseAt_66 (by decide) ?_
        refine q_istore (ls' := [(0, _), (1, _), (2, _), (3, _), (4, _), (5, _), (6, _)]) [0, 1, 2, 3, 4, 5, 6] dX10_courseAt_67 (Nat.le_of_ble_eq_true rfl) rfl ?_
        refine q_iload dX10_courseAt_69 rfl ?_
        refine q_if_eq 89 dX10_courseAt_71 (by decide) (fun hc => ?_) (fun hc => ?_)
        · have h := q_it hc h
          refine q_iload_n dX10_courseAt_89 rfl ?_
          refine q_istore_n (ls' := [(0, _), (1, _), (2, _), (3, _), (4, _), (5, _)]) [0, 1, 2, 3, 4, 5] dX10_courseAt_90 (Nat.le_of_ble_eq_true rfl) rfl ?_
          refine q_iinc1 (w := 1) (ls' := [(0, _), (1, _), (2, _), (3, _), (4, _), (5, _)]) [0, 1, 2, 3, 4, 5] dX10_courseAt_91 rfl (by decide) (Nat.le_of_ble_eq_true rfl) rfl ?_
          refine q_goto 17 dX10_courseAt_94 (by decide) ?_
          exact ih _ _ _ _ _ _ h hx0
        · have h := q_if hc h
          refine q_aload_n dX10_courseAt_74 rfl ?_
          refine u_getr dX10_courseAt_75 fX10_13 rfl rfl (Nat.lt_of_lt_of_le (Nat.le_of_ble_eq_true rfl) hn) (hF 58 1 60 rfl) ?_
          refine q_bipush (v := 12) dX10_courseAt_78 (by decide) ?_
          refine q_iload_n dX10_courseAt_80 rfl ?_
          refine q_imul dX10_courseAt_81 ?_
          refine q_iload dX10_courseAt_82 rfl ?_
          refine q_iadd dX10_courseAt_84 ?_
          obtain ⟨hi3, h⟩ := q_is h
          refine u_iald dX10_courseAt_85 rfl (Nat.lt_of_lt_of_le (Nat.le_of_ble_eq_true rfl) hn) (q_in_vp hi3) ?_
          refine q_goto 90 dX10_courseAt_86 (by decide) ?_
          refine q_istore_n (ls' := [(0, _), (1, _), (2, _), (3, _), (4, _), (5, _)]) [0, 1, 2, 3, 4, 5] dX10_courseAt_90 (Nat.le_of_ble_eq_true rfl) rfl ?_
          refine q_iinc1 (w := 1) (ls' := [(0, _), (1, _), (2, _), (3, _), (4, _), (5, _)]) [0, 1, 2, 3, 4, 5] dX10_courseAt_91 rfl (by decide) (Nat.le_of_ble_eq_true rfl) rfl ?_
          refine q_goto 17 dX10_courseAt_94 (by decide) ?_
          exact ih _ _ _ _ _ _ h hx0
      · have h := q_if hc h
        refine q_aload_n dX10_courseAt_47 rfl ?_
        refine u_getr dX10_courseAt_48 fX10_19 rfl rfl (Nat.lt_of_lt_of_le (Nat.le_of_ble_eq_true rfl) hn) (hF 58 4 62 rfl) ?_
        refine q_iload dX10_courseAt_51 rfl ?_
        obtain ⟨hi4, h⟩ := q_is h
        refine u_iald dX10_courseAt_53 rfl (Nat.lt_of_lt_of_le (Nat.le_of_ble_eq_true rfl) hn) (q_in_vp hi4) ?_
        refine q_iload dX10_courseAt_54 rfl ?_
        refine q_ishr dX10_courseAt_56 ?_
        refine q_iconst (v := 1) dX10_courseAt_57 (by decide) ?_
        refine q_iand dX10_courseAt_58 ?_
        refine q_if_ne 66 dX10_courseAt_59 (by decide) (fun hc => ?_) (fun hc => ?_)
        · have h := q_if hc h
          refine q_iconst (v := 0) dX10_courseAt_66 (by decide) ?_
          refine q_istore (ls' := [(0, _), (1, _), (2, _), (3, _), (4, _), (5, _), (6, _)]) [0, 1, 2, 3, 4, 5, 6] dX10_courseAt_67 (Nat.le_of_ble_eq_true rfl) rfl ?_
          refine q_iload dX10_courseAt_69 rfl ?_
          refine q_if_eq 89 dX10_courseAt_71 (by decide) (fun hc => ?_) (fun hc => ?_)
          · have h := q_it hc h
            refine q_iload_n dX10_courseAt_89 rfl ?_
            refine q_istore_n (ls' := [(0, _), (1, _), (2, _), (3, _), (4, _), (5, _)]) [0, 1, 2, 3, 4, 5] dX10_courseAt_90 (Nat.le_of_ble_eq_true rfl) rfl ?_
            refine q_iinc1 (w := 1) (ls' := [(0, _), (1, _), (2, _), (3, _), (4, _), (5, _)]) [0, 1, 2, 3, 4, 5] dX10_courseAt_91 rfl (by decide) (Nat.le_of_ble_eq_true rfl) rfl ?_
            refine q_goto 17 dX10_courseAt_94 (by decide) ?_
            exact ih _ _ _ _ _ _ h hx0
          · have h := q_if hc h
            refine q_aload_n dX10_courseAt_74 rfl ?_
            refine u_getr dX10_courseAt_75 fX10_13 rfl rfl (Nat.lt_of_lt_of_le (Nat.le_of_ble_eq_true rfl) hn) (hF 58 1 60 rfl) ?_
            refine q_bipush (v := 12) dX10_courseAt_78 (by decide) ?_
            refine q_iload_n dX10_courseAt_80 rfl ?_
            refine q_imul dX10_courseAt_81 ?_
            refine q_iload dX10_courseAt_82 rfl ?_
            refine q_iadd dX10_courseAt_84 ?_
            obtain ⟨hi5, h⟩ := q_is h
            refine u_iald dX10_courseAt_85 rfl (Nat.lt_of_lt_of_le (Nat.le_of_ble_eq_true rfl) hn) (q_in_vp hi5) ?_
            refine q_goto 90 dX10_courseAt_86 (by decide) ?_
            refine q_istore_n (ls' := [(0, _), (1, _), (2, _), (3, _), (4, _), (5, _)]) [0, 1, 2, 3, 4, 5] dX10_courseAt_90 (Nat.le_of_ble_eq_true rfl) rfl ?_
            refine q_iinc1 (w := 1) (ls' := [(0, _), (1, _), (2, _), (3, _), (4, _), (5, _)]) [0, 1, 2, 3, 4, 5] dX10_courseAt_91 rfl (by decide) (Nat.le_of_ble_eq_true rfl) rfl ?_
            refine q_goto 17 dX10_courseAt_94 (by decide) ?_
            exact ih _ _ _ _ _ _ h hx0
        · have h := q_it hc h
          refine q_iconst (v := 1) dX10_courseAt_62 (by decide) ?_
          refine q_goto 67 dX10_courseAt_63 (by decide) ?_
          refine q_istore (ls' := [(0, _), (1, _), (2, _), (3, _), (4, _), (5, _), (6, _)]) [0, 1, 2, 3, 4, 5, 6] dX10_courseAt_67 (Nat.le_of_ble_eq_true rfl) rfl ?_
          refine q_iload dX10_courseAt_69 rfl ?_
          refine q_if_eq 89 dX10_courseAt_71 (by decide) (fun hc => ?_) (fun hc => ?_)
          · have h := q_it hc h
            refine q_iload_n dX10_courseAt_89 rfl ?_
            refine q_istore_n (ls' := [(0, _), (1, _), (2, _), (3, _), (4, _), (5, _)]) [0, 1, 2, 3, 4, 5] dX10_courseAt_90 (Nat.le_of_ble_eq_true rfl) rfl ?_
            refine q_iinc1 (w := 1) (ls' := [(0, _), (1, _), (2, _), (3, _), (4, _), (5, _)]) [0, 1, 2, 3, 4, 5] dX10_courseAt_91 rfl (by decide) (Nat.le_of_ble_eq_true rfl) rfl ?_
            refine q_goto 17 dX10_courseAt_94 (by decide) ?_
            exact ih _ _ _ _ _ _ h hx0
          · have h := q_if hc h
            refine q_aload_n dX10_courseAt_74 rfl ?_
            refine u_getr dX10_courseAt_75 fX10_13 rfl rfl (Nat.lt_of_lt_of_le (Nat.le_of_ble_eq_true rfl) hn) (hF 58 1 60 rfl) ?_
            refine q_bipush (v := 12) dX10_courseAt_78 (by decide) ?_
            refine q_iload_n dX10_courseAt_80 rfl ?_
            refine q_imul dX10_courseAt_81 ?_
            refine q_iload dX10_courseAt_82 rfl ?_
            refine q_iadd dX10_courseAt_84 ?_
            obtain ⟨hi6, h⟩ := q_is h
            refine u_iald dX10_courseAt_85 rfl (Nat.lt_of_lt_of_le (Nat.le_of_ble_eq_true rfl) hn) (q_in_vp hi6) ?_
            refine q_goto 90 dX10_courseAt_86 (by decide) ?_
            refine q_istore_n (ls' := [(0, _), (1, _), (2, _), (3, _), (4, _), (5, _)]) [0, 1, 2, 3, 4, 5] dX10_courseAt_90 (Nat.le_of_ble_eq_true rfl) rfl ?_
            refine q_iinc1 (w := 1) (ls' := [(0, _), (1, _), (2, _), (3, _), (4, _), (5, _)]) [0, 1, 2, 3, 4, 5] dX10_courseAt_91 rfl (by decide) (Nat.le_of_ble_eq_true rfl) rfl ?_
            refine q_goto 17 dX10_courseAt_94 (by decide) ?_
            exact ih _ _ _ _ _ _ h hx0
def f_X10_courseAt (x1 : Int32) (x2 : Int32) (m : q_Mm) : Option (Int32) :=
  if 0 ≤ x2 then
    (l_X10_courseAt_17 7000  x1 x2 0 (x2 / 60) 0 m).bind fun r7 =>
    some (r7)
  else
    some (0)
set_option maxRecDepth 100000 in
set_option maxHeartbeats 4000000 in
theorem t_X10_courseAt {g : q_G} {n : Nat} {F : Nat → Nat → Option Nat} (hn : 89 ≤ n) (hF : q_FF F)  {x1 : Int32} {x2 : Int32} {m : q_Mm} {r : Int32} (h : f_X10_courseAt x1 x2 m = some r) : q_Cn g mX10_courseAt [q_r g 58, .int x1, .int x2] (q_mk n F m) (q_Q (some (.int r)) (q_mk n F m)) := by
  unfold f_X10_courseAt at h
  show q_V g mX10_courseAt q_T _ _ _ 0 [(0, q_r g 58), (1, .int x1), (2, .int x2)] [] (q_mk n F m)
  refine q_iconst (v := 0) dX10_courseAt_0 (by decide) ?_
  refine q_istore_n (ls' := [(0, _), (1, _), (2, _), (3, _)]) [0, 1, 2, 3] dX10_courseAt_1 (Nat.le_of_ble_eq_true rfl) rfl ?_
  refine q_iload_n dX10_courseAt_2 rfl ?_
  refine q_if_ge 8 dX10_courseAt_3 (by decide) (fun hc => ?_) (fun hc => ?_)
  · have h := q_it hc h
    refine q_iload_n dX10_courseAt_8 rfl ?_
    refine q_bipush (v := 60) dX10_courseAt_9 (by decide) ?_
    refine q_idiv dX10_courseAt_11 (by decide) ?_
    refine q_istore (ls' := [(0, _), (1, _), (2, _), (3, _), (4, _)]) [0, 1, 2, 3, 4] dX10_courseAt_12 (Nat.le_of_ble_eq_true rfl) rfl ?_
    refine q_iconst (v := 0) dX10_courseAt_14 (by decide) ?_
    refine q_istore (ls' := [(0, _), (1, _), (2, _), (3, _), (4, _), (5, _)]) [0, 1, 2, 3, 4, 5] dX10_courseAt_15 (Nat.le_of_ble_eq_true rfl) rfl ?_
    obtain ⟨r7, hr8, h⟩ := q_bd h
    refine t_l_X10_courseAt_17 hn hF  7000 _ _ _ _ _ _ hr8 ?_
    refine q_iload_n dX10_courseAt_97 rfl ?_
    cases h
    exact q_iret dX10_courseAt_98 rfl ⟨rfl, rfl⟩
  · have h := q_if hc h
    refine q_iconst (v := 0) dX10_courseAt_6 (by decide) ?_
    cases h
    exact q_iret dX10_courseAt_7 rfl ⟨rfl, rfl⟩
def f_X10_course (x1 : Int32) (x2 : Int32) (m : q_Mm) : Option (Int32 × q_Mm) :=
  if (f_X10_isPlan x1 m) = 0 then
    some (((-101), m))
  else
    if (f_X10_in x2.toInt64 0 600 m) = 0 then
      some (((-102), m))
    else
      (f_X10_missNone  m).bind fun r1 =>
      (f_X10_courseAt x1 x2 r1).bind fun r3 =>
      some ((r3, r1))
set_option maxRecDepth 100000 in
set_option maxHeartbeats 4000000 in
theorem t_X10_course {g : q_G} {n : Nat} {F : Nat → Nat → Option Nat} (hn : 89 ≤ n) (hF : q_FF F)  {x1 : Int32} {x2 : Int32} {m : q_Mm} {r : Int32 × q_Mm} (h : f_X10_course x1 x2 m = some r) : q_Cn g mX10_course [q_r g 58, .int x1, .int x2] (q_mk n F m) (q_Q (some (.int r.1)) (q_mk n F r.2)) := by
  unfold f_X10_course at h
  show q_V g mX10_course q_T _ _ _ 0 [(0, q_r g 58), (1, .int x1), (2, .int x2)] [] (q_mk n F m)
  refine q_iload_n dX10_course_0 rfl ?_
  refine c_S1 (as := [_]) (st := []) dX10_course_1 okX10_isPlan lX10_126 ⟨rfl, rfl⟩ ⟨Nat.le_of_ble_eq_true rfl, Nat.le_of_ble_eq_true rfl⟩ rfl rfl (Nat.le_of_ble_eq_true rfl) (Nat.le_of_ble_eq_true rfl) (t_X10_isPlan hn hF  rfl) ?_
  refine q_if_ne 10 dX10_course_4 (by decide) (fun hc => ?_) (fun hc => ?_)
  · have h := q_if hc h
    refine q_iload_n dX10_course_10 rfl ?_
    refine q_i2l dX10_course_11 ?_
    refine q_lconst (v := 0) dX10_course_12 (by decide) ?_
    refine q_ldc2 dX10_course_13 kX10_136 ?_
    refine c_S1 (as := [_, _, _]) (st := []) dX10_course_16 okX10_in lX10_122 ⟨rfl, rfl⟩ ⟨Nat.le_of_ble_eq_true rfl, Nat.le_of_ble_eq_true rfl⟩ rfl rfl (Nat.le_of_ble_eq_true rfl) (Nat.le_of_ble_eq_true rfl) (t_X10_in hn hF  rfl) ?_
    refine q_if_ne 25 dX10_course_19 (by decide) (fun hc => ?_) (fun hc => ?_)
    · have h := q_if hc h
      refine q_aload_n dX10_course_25 rfl ?_
      obtain ⟨r1, hr2, h⟩ := q_bd h
      refine c_V0 (as := []) (st := []) (ci := 10) dX10_course_26 okX10_missNone lX10_138 ⟨rfl, rfl⟩ ⟨Nat.le_of_ble_eq_true rfl, Nat.le_of_ble_eq_true rfl⟩ (by decide) rfl rfl (Nat.lt_of_lt_of_le (Nat.le_of_ble_eq_true rfl) hn) rfl rfl (Nat.le_of_ble_eq_true rfl) (Nat.le_of_ble_eq_true rfl) (t_X10_missNone hn hF  hr2) ?_
      refine q_aload_n dX10_course_29 rfl ?_
      refine q_iload_n dX10_course_30 rfl ?_
      refine q_iload_n dX10_course_31 rfl ?_
      obtain ⟨r3, hr4, h⟩ := q_bd h
      refine c_V1 (as := [_, _]) (st := []) (ci := 10) dX10_course_32 okX10_courseAt lX10_141 ⟨rfl, rfl⟩ ⟨Nat.le_of_ble_eq_true rfl, Nat.le_of_ble_eq_true rfl⟩ (by decide) rfl rfl (Nat.lt_of_lt_of_le (Nat.le_of_ble_eq_true rfl) hn) rfl rfl (Nat.le_of_ble_eq_true rfl) (Nat.le_of_ble_eq_true rfl) (t_X10_courseAt hn hF  hr4) ?_
      cases h
      exact q_iret dX10_course_35 rfl ⟨rfl, rfl⟩
    · have h := q_it hc h
      refine q_bipush (v := (-102)) dX10_course_22 (by decide) ?_
      cases h
      exact q_iret dX10_course_24 rfl ⟨rfl, rfl⟩
  · have h := q_it hc h
    refine q_bipush (v := (-101)) dX10_course_7 (by decide) ?_
    cases h
    exact q_iret dX10_course_9 rfl ⟨rfl, rfl⟩
def f_X10_part (x0 : Int32) (m : q_Mm) : (Int32) :=
  if x0 = 0 then
    1000
  else
  if x0 = 1 then
    924
  else
  if x0 = 2 then
    707
  else
  if x0 = 3 then
    383
  else
  0
set_option maxRecDepth 100000 in
set_option maxHeartbeats 4000000 in
theorem t_X10_part {g : q_G} {n : Nat} {F : Nat → Nat → Option Nat} (hn : 89 ≤ n) (hF : q_FF F)  {x0 : Int32} {m : q_Mm} {r : Int32} (h : f_X10_part x0 m = r) : q_Cn g mX10_part [.int x0] (q_mk n F m) (q_Q (some (.int r)) (q_mk n F m)) := by
  unfold f_X10_part at h
  show q_V g mX10_part q_T _ _ _ 0 [(0, .int x0)] [] (q_mk n F m)
  refine q_iload_n dX10_part_0 rfl ?_
  by_cases hs1_0 : x0 = 0
  · have h := q_it hs1_0 h
    rw [hs1_0]
    refine q_tblIn 32 dX10_part_1 (by decide) (by decide) rfl (by decide) ?_
    refine q_sipush (v := 1000) dX10_part_32 (by decide) ?_
    subst h
    exact q_iret dX10_part_35 rfl ⟨rfl, rfl⟩
  have h := q_if hs1_0 h
  by_cases hs1_1 : x0 = 1
  · have h := q_it hs1_1 h
    rw [hs1_1]
    refine q_tblIn 36 dX10_part_1 (by decide) (by decide) rfl (by decide) ?_
    refine q_sipush (v := 924) dX10_part_36 (by decide) ?_
    subst h
    exact q_iret dX10_part_39 rfl ⟨rfl, rfl⟩
  have h := q_if hs1_1 h
  by_cases hs1_2 : x0 = 2
  · have h := q_it hs1_2 h
    rw [hs1_2]
    refine q_tblIn 40 dX10_part_1 (by decide) (by decide) rfl (by decide) ?_
    refine q_sipush (v := 707) dX10_part_40 (by decide) ?_
    subst h
    exact q_iret dX10_part_43 rfl ⟨rfl, rfl⟩
  have h := q_if hs1_2 h
  by_cases hs1_3 : x0 = 3
  · have h := q_it hs1_3 h
    rw [hs1_3]
    refine q_tblIn 44 dX10_part_1 (by decide) (by decide) rfl (by decide) ?_
    refine q_sipush (v := 383) dX10_part_44 (by decide) ?_
    subst h
    exact q_iret dX10_part_47 rfl ⟨rfl, rfl⟩
  have h := q_if hs1_3 h
  refine q_tblOut 48 dX10_part_1 (q_out 4 (by decide) (fun k hk => ?_)) (by decide) ?_
  · match k, hk with
    | 0, _ => exact hs1_0
    | 1, _ => exact hs1_1
    | 2, _ => exact hs1_2
    | 3, _ => exact hs1_3
    | k + 4, hk => exact absurd hk (by omega)
  refine q_iconst (v := 0) dX10_part_48 (by decide) ?_
  subst h
  exact q_iret dX10_part_49 rfl ⟨rfl, rfl⟩
def f_X10_alongOf (x0 : Int32) (m : q_Mm) : (Int32) :=
  (f_X10_part (f_X10_size x0 m) m)
set_option maxRecDepth 100000 in
set_option maxHeartbeats 4000000 in
theorem t_X10_alongOf {g : q_G} {n : Nat} {F : Nat → Nat → Option Nat} (hn : 89 ≤ n) (hF : q_FF F)  {x0 : Int32} {m : q_Mm} {r : Int32} (h : f_X10_alongOf x0 m = r) : q_Cn g mX10_alongOf [.int x0] (q_mk n F m) (q_Q (some (.int r)) (q_mk n F m)) := by
  unfold f_X10_alongOf at h
  show q_V g mX10_alongOf q_T _ _ _ 0 [(0, .int x0)] [] (q_mk n F m)
  refine q_iload_n dX10_alongOf_0 rfl ?_
  refine c_S1 (as := [_]) (st := []) dX10_alongOf_1 okX10_size lX10_145 ⟨rfl, rfl⟩ ⟨Nat.le_of_ble_eq_true rfl, Nat.le_of_ble_eq_true rfl⟩ rfl rfl (Nat.le_of_ble_eq_true rfl) (Nat.le_of_ble_eq_true rfl) (t_X10_size hn hF  rfl) ?_
  refine c_S1 (as := [_]) (st := []) dX10_alongOf_4 okX10_part lX10_149 ⟨rfl, rfl⟩ ⟨Nat.le_of_ble_eq_true rfl, Nat.le_of_ble_eq_true rfl⟩ rfl rfl (Nat.le_of_ble_eq_true rfl) (Nat.le_of_ble_eq_true rfl) (t_X10_part hn hF  rfl) ?_
  subst h
  exact q_iret dX10_alongOf_7 rfl ⟨rfl, rfl⟩
def f_X10_acrossOf (x0 : Int32) (m : q_Mm) : (Int32) :=
  if 0 ≤ x0 then
    (f_X10_part (4 - (f_X10_size x0 m)) m)
  else
    -(f_X10_part (4 - (f_X10_size x0 m)) m)
set_option maxRecDepth 100000 in
set_option maxHeartbeats 4000000 in
theorem t_X10_acrossOf {g : q_G} {n : Nat} {F : Nat → Nat → Option Nat} (hn : 89 ≤ n) (hF : q_FF F)  {x0 : Int32} {m : q_Mm} {r : Int32} (h : f_X10_acrossOf x0 m = r) : q_Cn g mX10_acrossOf [.int x0] (q_mk n F m) (q_Q (some (.int r)) (q_mk n F m)) := by
  unfold f_X10_acrossOf at h
  show q_V g mX10_acrossOf q_T _ _ _ 0 [(0, .int x0)] [] (q_mk n F m)
  refine q_iconst (v := 4) dX10_acrossOf_0 (by decide) ?_
  refine q_iload_n dX10_acrossOf_1 rfl ?_
  refine c_S1 (as := [_]) (st := [_]) dX10_acrossOf_2 okX10_size lX10_145 ⟨rfl, rfl⟩ ⟨Nat.le_of_ble_eq_true rfl, Nat.le_of_ble_eq_true rfl⟩ rfl rfl (Nat.le_of_ble_eq_true rfl) (Nat.le_of_ble_eq_true rfl) (t_X10_size hn hF  rfl) ?_
  refine q_isub dX10_acrossOf_5 ?_
  refine c_S1 (as := [_]) (st := []) dX10_acrossOf_6 okX10_part lX10_149 ⟨rfl, rfl⟩ ⟨Nat.le_of_ble_eq_true rfl, Nat.le_of_ble_eq_true rfl⟩ rfl rfl (Nat.le_of_ble_eq_true rfl) (Nat.le_of_ble_eq_true rfl) (t_X10_part hn hF  rfl) ?_
  refine q_istore_n (ls' := [(0, _), (1, _)]) [0, 1] dX10_acrossOf_9 (Nat.le_of_ble_eq_true rfl) rfl ?_
  refine q_iload_n dX10_acrossOf_10 rfl ?_
  refine q_if_ge 19 dX10_acrossOf_11 (by decide) (fun hc => ?_) (fun hc => ?_)
  · have h := q_it hc h
    refine q_iload_n dX10_acrossOf_19 rfl ?_
    subst h
    exact q_iret dX10_acrossOf_20 rfl ⟨rfl, rfl⟩
  · have h := q_if hc h
    refine q_iload_n dX10_acrossOf_14 rfl ?_
    refine q_ineg dX10_acrossOf_15 ?_
    refine q_goto 20 dX10_acrossOf_16 (by decide) ?_
    subst h
    exact q_iret dX10_acrossOf_20 rfl ⟨rfl, rfl⟩
def f_X10_go (x1 : Int32) (x2 : Int32) (m : q_Mm) : (q_Mm) :=
  q_wl (q_wl m 58 5 ((m.2 58 5) + (((f_X10_alongOf x1 m).toInt64) * x2.toInt64))) 58 6 (((q_wl m 58 5 ((m.2 58 5) + (((f_X10_alongOf x1 m).toInt64) * x2.toInt64))).2 58 6) + (((f_X10_acrossOf x1 (q_wl m 58 5 ((m.2 58 5) + (((f_X10_alongOf x1 m).toInt64) * x2.toInt64)))).toInt64) * x2.toInt64))
set_option maxRecDepth 100000 in
set_option maxHeartbeats 4000000 in
theorem t_X10_go {g : q_G} {n : Nat} {F : Nat → Nat → Option Nat} (hn : 89 ≤ n) (hF : q_FF F)  {x1 : Int32} {x2 : Int32} {m : q_Mm} {r : q_Mm} (h : f_X10_go x1 x2 m = r) : q_Cn g mX10_go [q_r g 58, .int x1, .int x2] (q_mk n F m) (q_Q none (q_mk n F r)) := by
  unfold f_X10_go at h
  show q_V g mX10_go q_T _ _ _ 0 [(0, q_r g 58), (1, .int x1), (2, .int x2)] [] (q_mk n F m)
  refine q_aload_n dX10_go_0 rfl ?_
  refine q_dup dX10_go_1 rfl ?_
  refine u_getl dX10_go_2 fX10_152 rfl rfl (Nat.lt_of_lt_of_le (Nat.le_of_ble_eq_true rfl) hn) ?_
  refine q_iload_n dX10_go_5 rfl ?_
  refine c_S1 (as := [_]) (st := [_, _]) dX10_go_6 okX10_alongOf lX10_156 ⟨rfl, rfl⟩ ⟨Nat.le_of_ble_eq_true rfl, Nat.le_of_ble_eq_true rfl⟩ rfl rfl (Nat.le_of_ble_eq_true rfl) (Nat.le_of_ble_eq_true rfl) (t_X10_alongOf hn hF  rfl) ?_
  refine q_i2l dX10_go_9 ?_
  refine q_iload_n dX10_go_10 rfl ?_
  refine q_i2l dX10_go_11 ?_
  refine q_lmul dX10_go_12 ?_
  refine q_ladd dX10_go_13 ?_
  refine u_putl dX10_go_14 fX10_152 rfl rfl (Nat.lt_of_lt_of_le (Nat.le_of_ble_eq_true rfl) hn) rfl rfl rfl ?_
  refine q_aload_n dX10_go_17 rfl ?_
  refine q_dup dX10_go_18 rfl ?_
  refine u_getl dX10_go_19 fX10_159 rfl rfl (Nat.lt_of_lt_of_le (Nat.le_of_ble_eq_true rfl) hn) ?_
  refine q_iload_n dX10_go_22 rfl ?_
  refine c_S1 (as := [_]) (st := [_, _]) dX10_go_23 okX10_acrossOf lX10_162 ⟨rfl, rfl⟩ ⟨Nat.le_of_ble_eq_true rfl, Nat.le_of_ble_eq_true rfl⟩ rfl rfl (Nat.le_of_ble_eq_true rfl) (Nat.le_of_ble_eq_true rfl) (t_X10_acrossOf hn hF  rfl) ?_
  refine q_i2l dX10_go_26 ?_
  refine q_iload_n dX10_go_27 rfl ?_
  refine q_i2l dX10_go_28 ?_
  refine q_lmul dX10_go_29 ?_
  refine q_ladd dX10_go_30 ?_
  refine u_putl dX10_go_31 fX10_159 rfl rfl (Nat.lt_of_lt_of_le (Nat.le_of_ble_eq_true rfl) hn) rfl rfl rfl ?_
  subst h
  exact q_vret dX10_go_34 rfl ⟨rfl, rfl⟩
def l_X10_runPlan_17 : Nat → Int32 → Int32 → Int32 → Int32 → q_Mm → Option (q_Mm)
  | 0, _, _, _, _, _ => none
  | k + 1, y1, y2, y3, y4, m =>
    if y2 ≤ y4 then
      some (m)
    else
      (f_X10_courseAt y1 y4 m).bind fun r3 =>
      l_X10_runPlan_17 k  y1 y2 y3 (y4 + 1) (f_X10_go r3 y3 m)
set_option maxRecDepth 100000 in
set_option maxHeartbeats 4000000 in
theorem t_l_X10_runPlan_17 {g : q_G} {n : Nat} {F : Nat → Nat → Option Nat} {Z : List Frame → Array Value → State → State → Prop} {kc ks : Nat} (hn : 89 ≤ n) (hF : q_FF F)  : ∀ (k : Nat) (y1 : Int32) (y2 : Int32) (y3 : Int32) (y4 : Int32) (m : q_Mm) {r : q_Mm}, l_X10_runPlan_17 k y1 y2 y3 y4 m = some r → (q_V g mX10_runPlan q_T Z kc ks 41 [] [] (q_mk n F r)) → q_V g mX10_runPlan q_T Z kc ks 17 [(0, q_r g 58), (1, .int y1), (2, .int y2), (3, .int y3), (4, .int y4)] [] (q_mk n F m) := by
  intro k
  induction k with
  | zero => intro y1 y2 y3 y4 m r h; cases h
  | succ k ih =>
    intro y1 y2 y3 y4 m r h hx0
    unfold l_X10_runPlan_17 at h
    refine q_iload dX10_runPlan_17 rfl ?_
    refine q_iload_n dX10_runPlan_19 rfl ?_
    refine q_icmp_ge 41 dX10_runPlan_20 (by decide) (fun hc => ?_) (fun hc => ?_)
    · have h := q_it hc h
      refine q_drop [] (ls' := []) rfl ?_
      cases h
      exact hx0
    · have h := q_if hc h
      refine q_aload_n dX10_runPlan_23 rfl ?_
      refine q_aload_n dX10_runPlan_24 rfl ?_
      refine q_iload_n dX10_runPlan_25 rfl ?_
      refine q_iload dX10_runPlan_26 rfl ?_
      obtain ⟨r3, hr4, h⟩ := q_bd h
      refine c_V1 (as := [_, _]) (st := [_]) (ci := 10) dX10_runPlan_28 okX10_courseAt lX10_141 ⟨rfl, rfl⟩ ⟨Nat.le_of_ble_eq_true rfl, Nat.le_of_ble_eq_true rfl⟩ (by decide) rfl rfl (Nat.lt_of_lt_of_le (Nat.le_of_ble_eq_true rfl) hn) rfl rfl (Nat.le_of_ble_eq_true rfl) (Nat.le_of_ble_eq_true rfl) (t_X10_courseAt hn hF  hr4) ?_
      refine q_iload_n dX10_runPlan_31 rfl ?_
      refine c_V0 (as := [_, _]) (st := []) (ci := 10) dX10_runPlan_32 okX10_go lX10_165 ⟨rfl, rfl⟩ ⟨Nat.le_of_ble_eq_true rfl, Nat.le_of_ble_eq_true rfl⟩ (by decide) rfl rfl (Nat.lt_of_lt_of_le (Nat.le_of_ble_eq_true rfl) hn) rfl rfl (Nat.le_of_ble_eq_true rfl) (Nat.le_of_ble_eq_true rfl) (t_X10_go hn hF  rfl) ?_
      refine q_iinc1 (w := 1) (ls' := [(0, _), (1, _), (2, _), (3, _), (4, _)]) [0, 1, 2, 3, 4] dX10_runPlan_35 rfl (by decide) (Nat.le_of_ble_eq_true rfl) rfl ?_
      refine q_goto 17 dX10_runPlan_38 (by decide) ?_
      exact ih _ _ _ _ _ h hx0
def f_X10_runPlan (x1 : Int32) (x2 : Int32) (x3 : Int32) (m : q_Mm) : Option (q_Mm) :=
  (f_X10_missNone  m).bind fun r1 =>
  (l_X10_runPlan_17 7000  x1 x2 x3 0 (q_wl (q_wl r1 58 5 0) 58 6 0)).bind fun r5 =>
  some (r5)
set_option maxRecDepth 100000 in
set_option maxHeartbeats 4000000 in
theorem t_X10_runPlan {g : q_G} {n : Nat} {F : Nat → Nat → Option Nat} (hn : 89 ≤ n) (hF : q_FF F)  {x1 : Int32} {x2 : Int32} {x3 : Int32} {m : q_Mm} {r : q_Mm} (h : f_X10_runPlan x1 x2 x3 m = some r) : q_Cn g mX10_runPlan [q_r g 58, .int x1, .int x2, .int x3] (q_mk n F m) (q_Q none (q_mk n F r)) := by
  unfold f_X10_runPlan at h
  show q_V g mX10_runPlan q_T _ _ _ 0 [(0, q_r g 58), (1, .int x1), (2, .int x2), (3, .int x3)] [] (q_mk n F m)
  refine q_aload_n dX10_runPlan_0 rfl ?_
  obtain ⟨r1, hr2, h⟩ := q_bd h
  refine c_V0 (as := []) (st := []) (ci := 10) dX10_runPlan_1 okX10_missNone lX10_138 ⟨rfl, rfl⟩ ⟨Nat.le_of_ble_eq_true rfl, Nat.le_of_ble_eq_true rfl⟩ (by decide) rfl rfl (Nat.lt_of_lt_of_le (Nat.le_of_ble_eq_true rfl) hn) rfl rfl (Nat.le_of_ble_eq_true rfl) (Nat.le_of_ble_eq_true rfl) (t_X10_missNone hn hF  hr2) ?_
  refine q_aload_n dX10_runPlan_4 rfl ?_
  refine q_lconst (v := 0) dX10_runPlan_5 (by decide) ?_
  refine u_putl dX10_runPlan_6 fX10_152 rfl rfl (Nat.lt_of_lt_of_le (Nat.le_of_ble_eq_true rfl) hn) rfl rfl rfl ?_
  refine q_aload_n dX10_runPlan_9 rfl ?_
  refine q_lconst (v := 0) dX10_runPlan_10 (by decide) ?_
  refine u_putl dX10_runPlan_11 fX10_159 rfl rfl (Nat.lt_of_lt_of_le (Nat.le_of_ble_eq_true rfl) hn) rfl rfl rfl ?_
  refine q_iconst (v := 0) dX10_runPlan_14 (by decide) ?_
  refine q_istore (ls' := [(0, _), (1, _), (2, _), (3, _), (4, _)]) [0, 1, 2, 3, 4] dX10_runPlan_15 (Nat.le_of_ble_eq_true rfl) rfl ?_
  obtain ⟨r5, hr6, h⟩ := q_bd h
  refine t_l_X10_runPlan_17 hn hF  7000 _ _ _ _ _ hr6 ?_
  cases h
  exact q_vret dX10_runPlan_41 rfl ⟨rfl, rfl⟩
def f_X10_ground (x1 : Int32) (x2 : Int32) (x3 : Int32) (m : q_Mm) : Option (Int64 × q_Mm) :=
  if (f_X10_isPlan x1 m) = 0 then
    some (((-1000000000001), m))
  else
    if (f_X10_in x2.toInt64 0 600 m) = 0 then
      some (((-1000000000002), m))
    else
      if (f_X10_in x3.toInt64 0 1 m) = 0 then
        some (((-1000000000002), m))
      else
        (f_X10_runPlan x1 x2 1 m).bind fun r1 =>
        if x3 = 0 then
          some ((r1.2 58 5, r1))
        else
          some ((r1.2 58 6, r1))
set_option maxRecDepth 100000 in
set_option maxHeartbeats 4000000 in
theorem t_X10_ground {g : q_G} {n : Nat} {F : Nat → Nat → Option Nat} (hn : 89 ≤ n) (hF : q_FF F)  {x1 : Int32} {x2 : Int32} {x3 : Int32} {m : q_Mm} {r : Int64 × q_Mm} (h : f_X10_ground x1 x2 x3 m = some r) : q_Cn g mX10_ground [q_r g 58, .int x1, .int x2, .int x3] (q_mk n F m) (q_Q (some (.long r.1)) (q_mk n F r.2)) := by
  unfold f_X10_ground at h
  show q_V g mX10_ground q_T _ _ _ 0 [(0, q_r g 58), (1, .int x1), (2, .int x2), (3, .int x3)] [] (q_mk n F m)
  refine q_iload_n dX10_ground_0 rfl ?_
  refine c_S1 (as := [_]) (st := []) dX10_ground_1 okX10_isPlan lX10_126 ⟨rfl, rfl⟩ ⟨Nat.le_of_ble_eq_true rfl, Nat.le_of_ble_eq_true rfl⟩ rfl rfl (Nat.le_of_ble_eq_true rfl) (Nat.le_of_ble_eq_true rfl) (t_X10_isPlan hn hF  rfl) ?_
  refine q_if_ne 11 dX10_ground_4 (by decide) (fun hc => ?_) (fun hc => ?_)
  · have h := q_if hc h
    refine q_iload_n dX10_ground_11 rfl ?_
    refine q_i2l dX10_ground_12 ?_
    refine q_lconst (v := 0) dX10_ground_13 (by decide) ?_
    refine q_ldc2 dX10_ground_14 kX10_136 ?_
    refine c_S1 (as := [_, _, _]) (st := []) dX10_ground_17 okX10_in lX10_122 ⟨rfl, rfl⟩ ⟨Nat.le_of_ble_eq_true rfl, Nat.le_of_ble_eq_true rfl⟩ rfl rfl (Nat.le_of_ble_eq_true rfl) (Nat.le_of_ble_eq_true rfl) (t_X10_in hn hF  rfl) ?_
    refine q_if_eq 33 dX10_ground_20 (by decide) (fun hc => ?_) (fun hc => ?_)
    · have h := q_it hc h
      refine q_ldc2 dX10_ground_33 kX10_171 ?_
      cases h
      exact q_lret dX10_ground_36 rfl ⟨rfl, rfl⟩
    · have h := q_if hc h
      refine q_iload_n dX10_ground_23 rfl ?_
      refine q_i2l dX10_ground_24 ?_
      refine q_lconst (v := 0) dX10_ground_25 (by decide) ?_
      refine q_lconst (v := 1) dX10_ground_26 (by decide) ?_
      refine c_S1 (as := [_, _, _]) (st := []) dX10_ground_27 okX10_in lX10_122 ⟨rfl, rfl⟩ ⟨Nat.le_of_ble_eq_true rfl, Nat.le_of_ble_eq_true rfl⟩ rfl rfl (Nat.le_of_ble_eq_true rfl) (Nat.le_of_ble_eq_true rfl) (t_X10_in hn hF  rfl) ?_
      refine q_if_ne 37 dX10_ground_30 (by decide) (fun hc => ?_) (fun hc => ?_)
      · have h := q_if hc h
        refine q_aload_n dX10_ground_37 rfl ?_
        refine q_iload_n dX10_ground_38 rfl ?_
        refine q_iload_n dX10_ground_39 rfl ?_
        refine q_iconst (v := 1) dX10_ground_40 (by decide) ?_
        obtain ⟨r1, hr2, h⟩ := q_bd h
        refine c_V0 (as := [_, _, _]) (st := []) (ci := 10) dX10_ground_41 okX10_runPlan lX10_173 ⟨rfl, rfl⟩ ⟨Nat.le_of_ble_eq_true rfl, Nat.le_of_ble_eq_true rfl⟩ (by decide) rfl rfl (Nat.lt_of_lt_of_le (Nat.le_of_ble_eq_true rfl) hn) rfl rfl (Nat.le_of_ble_eq_true rfl) (Nat.le_of_ble_eq_true rfl) (t_X10_runPlan hn hF  hr2) ?_
        refine q_iload_n dX10_ground_44 rfl ?_
        refine q_if_ne 55 dX10_ground_45 (by decide) (fun hc => ?_) (fun hc => ?_)
        · have h := q_if hc h
          refine q_aload_n dX10_ground_55 rfl ?_
          refine u_getl dX10_ground_56 fX10_159 rfl rfl (Nat.lt_of_lt_of_le (Nat.le_of_ble_eq_true rfl) hn) ?_
          cases h
          exact q_lret dX10_ground_59 rfl ⟨rfl, rfl⟩
        · have h := q_it hc h
          refine q_aload_n dX10_ground_48 rfl ?_
          refine u_getl dX10_ground_49 fX10_152 rfl rfl (Nat.lt_of_lt_of_le (Nat.le_of_ble_eq_true rfl) hn) ?_
          refine q_goto 59 dX10_ground_52 (by decide) ?_
          cases h
          exact q_lret dX10_ground_59 rfl ⟨rfl, rfl⟩
      · have h := q_it hc h
        refine q_ldc2 dX10_ground_33 kX10_171 ?_
        cases h
        exact q_lret dX10_ground_36 rfl ⟨rfl, rfl⟩
  · have h := q_it hc h
    refine q_ldc2 dX10_ground_7 kX10_169 ?_
    cases h
    exact q_lret dX10_ground_10 rfl ⟨rfl, rfl⟩
def f_X10_steer (x1 : Int32) (m : q_Mm) : (Int32 × q_Mm) :=
  if (f_X10_isPlan x1 m) = 0 then
    ((-1), m)
  else
    (m.1 58 3, q_wi m 58 3 x1)
set_option maxRecDepth 100000 in
set_option maxHeartbeats 4000000 in
theorem t_X10_steer {g : q_G} {n : Nat} {F : Nat → Nat → Option Nat} (hn : 89 ≤ n) (hF : q_FF F)  {x1 : Int32} {m : q_Mm} {r : Int32 × q_Mm} (h : f_X10_steer x1 m = r) : q_Cn g mX10_steer [q_r g 58, .int x1] (q_mk n F m) (q_Q (some (.int r.1)) (q_mk n F r.2)) := by
  unfold f_X10_steer at h
  show q_V g mX10_steer q_T _ _ _ 0 [(0, q_r g 58), (1, .int x1)] [] (q_mk n F m)
  refine q_iload_n dX10_steer_0 rfl ?_
  refine c_S1 (as := [_]) (st := []) dX10_steer_1 okX10_isPlan lX10_126 ⟨rfl, rfl⟩ ⟨Nat.le_of_ble_eq_true rfl, Nat.le_of_ble_eq_true rfl⟩ rfl rfl (Nat.le_of_ble_eq_true rfl) (Nat.le_of_ble_eq_true rfl) (t_X10_isPlan hn hF  rfl) ?_
  refine q_if_ne 9 dX10_steer_4 (by decide) (fun hc => ?_) (fun hc => ?_)
  · have h := q_if hc h
    refine q_aload_n dX10_steer_9 rfl ?_
    refine u_geti dX10_steer_10 fX10_177 rfl rfl (Nat.lt_of_lt_of_le (Nat.le_of_ble_eq_true rfl) hn) ?_
    refine q_istore_n (ls' := [(0, _), (1, _), (2, _)]) [0, 1, 2] dX10_steer_13 (Nat.le_of_ble_eq_true rfl) rfl ?_
    refine q_aload_n dX10_steer_14 rfl ?_
    refine q_iload_n dX10_steer_15 rfl ?_
    refine u_puti dX10_steer_16 fX10_177 rfl rfl (Nat.lt_of_lt_of_le (Nat.le_of_ble_eq_true rfl) hn) rfl rfl rfl ?_
    refine q_iload_n dX10_steer_19 rfl ?_
    subst h
    exact q_iret dX10_steer_20 rfl ⟨rfl, rfl⟩
  · have h := q_it hc h
    refine q_iconst (v := (-1)) dX10_steer_7 (by decide) ?_
    subst h
    exact q_iret dX10_steer_8 rfl ⟨rfl, rfl⟩
def f_X10_isStart (x0 : Int32) (x1 : Int32) (x2 : Int32) (m : q_Mm) : (Int32) :=
  if (f_X10_in x0.toInt64 (-100000) 100000 m) = 0 then
    0
  else
    if (f_X10_in x1.toInt64 (-100000) 100000 m) = 0 then
      0
    else
      if (f_X10_in x2.toInt64 1 20 m) = 0 then
        0
      else
        1
set_option maxRecDepth 100000 in
set_option maxHeartbeats 4000000 in
theorem t_X10_isStart {g : q_G} {n : Nat} {F : Nat → Nat → Option Nat} (hn : 89 ≤ n) (hF : q_FF F)  {x0 : Int32} {x1 : Int32} {x2 : Int32} {m : q_Mm} {r : Int32} (h : f_X10_isStart x0 x1 x2 m = r) : q_Cn g mX10_isStart [.int x0, .int x1, .int x2] (q_mk n F m) (q_Q (some (.int r)) (q_mk n F m)) := by
  unfold f_X10_isStart at h
  show q_V g mX10_isStart q_T _ _ _ 0 [(0, .int x0), (1, .int x1), (2, .int x2)] [] (q_mk n F m)
  refine q_iload_n dX10_isStart_0 rfl ?_
  refine q_i2l dX10_isStart_1 ?_
  refine q_ldc2 dX10_isStart_2 kX10_180 ?_
  refine q_ldc2 dX10_isStart_5 kX10_182 ?_
  refine c_S1 (as := [_, _, _]) (st := []) dX10_isStart_8 okX10_in lX10_122 ⟨rfl, rfl⟩ ⟨Nat.le_of_ble_eq_true rfl, Nat.le_of_ble_eq_true rfl⟩ rfl rfl (Nat.le_of_ble_eq_true rfl) (Nat.le_of_ble_eq_true rfl) (t_X10_in hn hF  rfl) ?_
  refine q_if_eq 44 dX10_isStart_11 (by decide) (fun hc => ?_) (fun hc => ?_)
  · have h := q_it hc h
    refine q_iconst (v := 0) dX10_isStart_44 (by decide) ?_
    subst h
    exact q_zret dX10_isStart_45 rfl rfl ⟨rfl, rfl⟩
  · have h := q_if hc h
    refine q_iload_n dX10_isStart_14 rfl ?_
    refine q_i2l dX10_isStart_15 ?_
    refine q_ldc2 dX10_isStart_16 kX10_180 ?_
    refine q_ldc2 dX10_isStart_19 kX10_182 ?_
    refine c_S1 (as := [_, _, _]) (st := []) dX10_isStart_22 okX10_in lX10_122 ⟨rfl, rfl⟩ ⟨Nat.le_of_ble_eq_true rfl, Nat.le_of_ble_eq_true rfl⟩ rfl rfl (Nat.le_of_ble_eq_true rfl) (Nat.le_of_ble_eq_true rfl) (t_X10_in hn hF  rfl) ?_
    refine q_if_eq 44 dX10_isStart_25 (by decide) (fun hc => ?_) (fun hc => ?_)
    · have h := q_it hc h
      refine q_iconst (v := 0) dX10_isStart_44 (by decide) ?_
      subst h
      exact q_zret dX10_isStart_45 rfl rfl ⟨rfl, rfl⟩
    · have h := q_if hc h
      refine q_iload_n dX10_isStart_28 rfl ?_
      refine q_i2l dX10_isStart_29 ?_
      refine q_lconst (v := 1) dX10_isStart_30 (by decide) ?_
      refine q_ldc2 dX10_isStart_31 kX10_184 ?_
      refine c_S1 (as := [_, _, _]) (st := []) dX10_isStart_34 okX10_in lX10_122 ⟨rfl, rfl⟩ ⟨Nat.le_of_ble_eq_true rfl, Nat.le_of_ble_eq_true rfl⟩ rfl rfl (Nat.le_of_ble_eq_true rfl) (Nat.le_of_ble_eq_true rfl) (t_X10_in hn hF  rfl) ?_
      refine q_if_eq 44 dX10_isStart_37 (by decide) (fun hc => ?_) (fun hc => ?_)
      · have h := q_it hc h
        refine q_iconst (v := 0) dX10_isStart_44 (by decide) ?_
        subst h
        exact q_zret dX10_isStart_45 rfl rfl ⟨rfl, rfl⟩
      · have h := q_if hc h
        refine q_iconst (v := 1) dX10_isStart_40 (by decide) ?_
        refine q_goto 45 dX10_isStart_41 (by decide) ?_
        subst h
        exact q_zret dX10_isStart_45 rfl rfl ⟨rfl, rfl⟩
theorem b_X10_isStart {x0 : Int32} {x1 : Int32} {x2 : Int32} {m : q_Mm} : q_bo (f_X10_isStart x0 x1 x2 m) := by
  unfold f_X10_isStart
  repeat' split
  all_goals first | exact Or.inl rfl | exact Or.inr rfl | exact b_X10_in
def f_X10_ship (x1 : Int32) (x2 : Int32) (x3 : Int32) (x4 : Int32) (m : q_Mm) : Option (Int32 × q_Mm) :=
  if (f_X10_isStart x1 x2 x3 m) = 0 then
    some (((-2), m))
  else
    if (f_X10_in x4.toInt64 (-5) 5 m) = 0 then
      some (((-2), m))
    else
      if (m.1 58 11) = 9 then
        some (((-4), m))
      else
        if q_in (m.1 58 11) 9 = true then
        if q_in ((q_wi m 63 ((m.1 58 11).toNatClampNeg) x1).1 58 11) 9 = true then
        if q_in ((q_wi (q_wi m 63 ((m.1 58 11).toNatClampNeg) x1) 64 (((q_wi m 63 ((m.1 58 11).toNatClampNeg) x1).1 58 11).toNatClampNeg) x2).1 58 11) 9 = true then
        if q_in ((q_wi (q_wi (q_wi m 63 ((m.1 58 11).toNatClampNeg) x1) 64 (((q_wi m 63 ((m.1 58 11).toNatClampNeg) x1).1 58 11).toNatClampNeg) x2) 65 (((q_wi (q_wi m 63 ((m.1 58 11).toNatClampNeg) x1) 64 (((q_wi m 63 ((m.1 58 11).toNatClampNeg) x1).1 58 11).toNatClampNeg) x2).1 58 11).toNatClampNeg) x3).1 58 11) 9 = true then
        some ((((q_wi (q_wi (q_wi (q_wi (q_wi m 63 ((m.1 58 11).toNatClampNeg) x1) 64 (((q_wi m 63 ((m.1 58 11).toNatClampNeg) x1).1 58 11).toNatClampNeg) x2) 65 (((q_wi (q_wi m 63 ((m.1 58 11).toNatClampNeg) x1) 64 (((q_wi m 63 ((m.1 58 11).toNatClampNeg) x1).1 58 11).toNatClampNeg) x2).1 58 11).toNatClampNeg) x3) 66 (((q_wi (q_wi (q_wi m 63 ((m.1 58 11).toNatClampNeg) x1) 64 (((q_wi m 63 ((m.1 58 11).toNatClampNeg) x1).1 58 11).toNatClampNeg) x2) 65 (((q_wi (q_wi m 63 ((m.1 58 11).toNatClampNeg) x1) 64 (((q_wi m 63 ((m.1 58 11).toNatClampNeg) x1).1 58 11).toNatClampNeg) x2).1 58 11).toNatClampNeg) x3).1 58 11).toNatClampNeg) x4) 58 11 (((q_wi (q_wi (q_wi (q_wi m 63 ((m.1 58 11).toNatClampNeg) x1) 64 (((q_wi m 63 ((m.1 58 11).toNatClampNeg) x1).1 58 11).toNatClampNeg) x2) 65 (((q_wi (q_wi m 63 ((m.1 58 11).toNatClampNeg) x1) 64 (((q_wi m 63 ((m.1 58 11).toNatClampNeg) x1).1 58 11).toNatClampNeg) x2).1 58 11).toNatClampNeg) x3) 66 (((q_wi (q_wi (q_wi m 63 ((m.1 58 11).toNatClampNeg) x1) 64 (((q_wi m 63 ((m.1 58 11).toNatClampNeg) x1).1 58 11).toNatClampNeg) x2) 65 (((q_wi (q_wi m 63 ((m.1 58 11).toNatClampNeg) x1) 64 (((q_wi m 63 ((m.1 58 11).toNatClampNeg) x1).1 58 11).toNatClampNeg) x2).1 58 11).toNatClampNeg) x3).1 58 11).toNatClampNeg) x4).1 58 11) + 1)).1 58 11) - 1, q_wi (q_wi (q_wi (q_wi (q_wi m 63 ((m.1 58 11).toNatClampNeg) x1) 64 (((q_wi m 63 ((m.1 58 11).toNatClampNeg) x1).1 58 11).toNatClampNeg) x2) 65 (((q_wi (q_wi m 63 ((m.1 58 11).toNatClampNeg) x1) 64 (((q_wi m 63 ((m.1 58 11).toNatClampNeg) x1).1 58 11).toNatClampNeg) x2).1 58 11).toNatClampNeg) x3) 66 (((q_wi (q_wi (q_wi m 63 ((m.1 58 11).toNatClampNeg) x1) 64 (((q_wi m 63 ((m.1 58 11).toNatClampNeg) x1).1 58 11).toNatClampNeg) x2) 65 (((q_wi (q_wi m 63 ((m.1 58 11).toNatClampNeg) x1) 64 (((q_wi m 63 ((m.1 58 11).toNatClampNeg) x1).1 58 11).toNatClampNeg) x2).1 58 11).toNatClampNeg) x3).1 58 11).toNatClampNeg) x4) 58 11 (((q_wi (q_wi (q_wi (q_wi m 63 ((m.1 58 11).toNatClampNeg) x1) 64 (((q_wi m 63 ((m.1 58 11).toNatClampNeg) x1).1 58 11).toNatClampNeg) x2) 65 (((q_wi (q_wi m 63 ((m.1 58 11).toNatClampNeg) x1) 64 (((q_wi m 63 ((m.1 58 11).toNatClampNeg) x1).1 58 11).toNatClampNeg) x2).1 58 11).toNatClampNeg) x3) 66 (((q_wi (q_wi (q_wi m 63 ((m.1 58 11).toNatClampNeg) x1) 64 (((q_wi m 63 ((m.1 58 11).toNatClampNeg) x1).1 58 11).toNatClampNeg) x2) 65 (((q_wi (q_wi m 63 ((m.1 58 11).toNatClampNeg) x1) 64 (((q_wi m 63 ((m.1 58 11).toNatClampNeg) x1).1 58 11).toNatClampNeg) x2).1 58 11).toNatClampNeg) x3).1 58 11).toNatClampNeg) x4).1 58 11) + 1)))
        else none
        else none
        else none
        else none
set_option maxRecDepth 100000 in
set_option maxHeartbeats 4000000 in
theorem t_X10_ship {g : q_G} {n : Nat} {F : Nat → Nat → Option Nat} (hn : 89 ≤ n) (hF : q_FF F)  {x1 : Int32} {x2 : Int32} {x3 : Int32} {x4 : Int32} {m : q_Mm} {r : Int32 × q_Mm} (h : f_X10_ship x1 x2 x3 x4 m = some r) : q_Cn g mX10_ship [q_r g 58, .int x1, .int x2, .int x3, .int x4] (q_mk n F m) (q_Q (some (.int r.1)) (q_mk n F r.2)) := by
  unfold f_X10_ship at h
  show q_V g mX10_ship q_T _ _ _ 0 [(0, q_r g 58), (1, .int x1), (2, .int x2), (3, .int x3), (4, .int x4)] [] (q_mk n F m)
  refine q_iload_n dX10_ship_0 rfl ?_
  refine q_iload_n dX10_ship_1 rfl ?_
  refine q_iload_n dX10_ship_2 rfl ?_
  refine c_S1 (as := [_, _, _]) (st := []) dX10_ship_3 okX10_isStart lX10_186 ⟨rfl, rfl⟩ ⟨Nat.le_of_ble_eq_true rfl, Nat.le_of_ble_eq_true rfl⟩ rfl rfl (Nat.le_of_ble_eq_true rfl) (Nat.le_of_ble_eq_true rfl) (t_X10_isStart hn hF  rfl) ?_
  refine q_if_eq 24 dX10_ship_6 (by decide) (fun hc => ?_) (fun hc => ?_)
  · have h := q_it hc h
    refine q_bipush (v := (-2)) dX10_ship_24 (by decide) ?_
    cases h
    exact q_iret dX10_ship_26 rfl ⟨rfl, rfl⟩
  · have h := q_if hc h
    refine q_iload dX10_ship_9 rfl ?_
    refine q_i2l dX10_ship_11 ?_
    refine q_ldc2 dX10_ship_12 kX10_190 ?_
    refine q_ldc2 dX10_ship_15 kX10_192 ?_
    refine c_S1 (as := [_, _, _]) (st := []) dX10_ship_18 okX10_in lX10_122 ⟨rfl, rfl⟩ ⟨Nat.le_of_ble_eq_true rfl, Nat.le_of_ble_eq_true rfl⟩ rfl rfl (Nat.le_of_ble_eq_true rfl) (Nat.le_of_ble_eq_true rfl) (t_X10_in hn hF  rfl) ?_
    refine q_if_ne 27 dX10_ship_21 (by decide) (fun hc => ?_) (fun hc => ?_)
    · have h := q_if hc h
      refine q_aload_n dX10_ship_27 rfl ?_
      refine u_geti dX10_ship_28 fX10_194 rfl rfl (Nat.lt_of_lt_of_le (Nat.le_of_ble_eq_true rfl) hn) ?_
      refine q_bipush (v := 9) dX10_ship_31 (by decide) ?_
      refine q_icmp_ne 39 dX10_ship_33 (by decide) (fun hc => ?_) (fun hc => ?_)
      · have h := q_if hc h
        refine q_aload_n dX10_ship_39 rfl ?_
        refine u_getr dX10_ship_40 fX10_22 rfl rfl (Nat.lt_of_lt_of_le (Nat.le_of_ble_eq_true rfl) hn) (hF 58 7 63 rfl) ?_
        refine q_aload_n dX10_ship_43 rfl ?_
        refine u_geti dX10_ship_44 fX10_194 rfl rfl (Nat.lt_of_lt_of_le (Nat.le_of_ble_eq_true rfl) hn) ?_
        refine q_iload_n dX10_ship_47 rfl ?_
        obtain ⟨hi1, h⟩ := q_is h
        refine u_iast dX10_ship_48 rfl (Nat.lt_of_lt_of_le (Nat.le_of_ble_eq_true rfl) hn) (q_in_vp hi1) ?_
        refine q_aload_n dX10_ship_49 rfl ?_
        refine u_getr dX10_ship_50 fX10_25 rfl rfl (Nat.lt_of_lt_of_le (Nat.le_of_ble_eq_true rfl) hn) (hF 58 8 64 rfl) ?_
        refine q_aload_n dX10_ship_53 rfl ?_
        refine u_geti dX10_ship_54 fX10_194 rfl rfl (Nat.lt_of_lt_of_le (Nat.le_of_ble_eq_true rfl) hn) ?_
        refine q_iload_n dX10_ship_57 rfl ?_
        obtain ⟨hi2, h⟩ := q_is h
        refine u_iast dX10_ship_58 rfl (Nat.lt_of_lt_of_le (Nat.le_of_ble_eq_true rfl) hn) (q_in_vp hi2) ?_
        refine q_aload_n dX10_ship_59 rfl ?_
        refine u_getr dX10_ship_60 fX10_28 rfl rfl (Nat.lt_of_lt_of_le (Nat.le_of_ble_eq_true rfl) hn) (hF 58 9 65 rfl) ?_
        refine q_aload_n dX10_ship_63 rfl ?_
        refine u_geti dX10_ship_64 fX10_194 rfl rfl (Nat.lt_of_lt_of_le (Nat.le_of_ble_eq_true rfl) hn) ?_
        refine q_iload_n dX10_ship_67 rfl ?_
        obtain ⟨hi3, h⟩ := q_is h
        refine u_iast dX10_ship_68 rfl (Nat.lt_of_lt_of_le (Nat.le_of_ble_eq_true rfl) hn) (q_in_vp hi3) ?_
        refine q_aload_n dX10_ship_69 rfl ?_
        refine u_getr dX10_ship_70 fX10_31 rfl rfl (Nat.lt_of_lt_of_le (Nat.le_of_ble_eq_true rfl) hn) (hF 58 10 66 rfl) ?_
        refine q_aload_n dX10_ship_73 rfl ?_
        refine u_geti dX10_ship_74 fX10_194 rfl rfl (Nat.lt_of_lt_of_le (Nat.le_of_ble_eq_true rfl) hn) ?_
        refine q_iload dX10_ship_77 rfl ?_
        obtain ⟨hi4, h⟩ := q_is h
        refine u_iast dX10_ship_79 rfl (Nat.lt_of_lt_of_le (Nat.le_of_ble_eq_true rfl) hn) (q_in_vp hi4) ?_
        refine q_aload_n dX10_ship_80 rfl ?_
        refine q_dup dX10_ship_81 rfl ?_
        refine u_geti dX10_ship_82 fX10_194 rfl rfl (Nat.lt_of_lt_of_le (Nat.le_of_ble_eq_true rfl) hn) ?_
        refine q_iconst (v := 1) dX10_ship_85 (by decide) ?_
        refine q_iadd dX10_ship_86 ?_
        refine u_puti dX10_ship_87 fX10_194 rfl rfl (Nat.lt_of_lt_of_le (Nat.le_of_ble_eq_true rfl) hn) rfl rfl rfl ?_
        refine q_aload_n dX10_ship_90 rfl ?_
        refine u_geti dX10_ship_91 fX10_194 rfl rfl (Nat.lt_of_lt_of_le (Nat.le_of_ble_eq_true rfl) hn) ?_
        refine q_iconst (v := 1) dX10_ship_94 (by decide) ?_
        refine q_isub dX10_ship_95 ?_
        cases h
        exact q_iret dX10_ship_96 rfl ⟨rfl, rfl⟩
      · have h := q_it hc h
        refine q_bipush (v := (-4)) dX10_ship_36 (by decide) ?_
        cases h
        exact q_iret dX10_ship_38 rfl ⟨rfl, rfl⟩
    · have h := q_it hc h
      refine q_bipush (v := (-2)) dX10_ship_24 (by decide) ?_
      cases h
      exact q_iret dX10_ship_26 rfl ⟨rfl, rfl⟩
def l_X10_miss_60 : Nat → Int32 → Int32 → Int32 → Int32 → q_Mm → Option ((Unit) ⊕ (Unit))
  | 0, _, _, _, _, _ => none
  | k + 1, y1, y2, y3, y4, m =>
    if (m.1 58 15) ≤ y4 then
      some (.inr ())
    else
      if q_in y4 20 = true then
      if (m.1 67 y4.toNatClampNeg) = y1 then
        if q_in y4 20 = true then
        if (m.1 68 y4.toNatClampNeg) = y2 then
          if q_in y4 20 = true then
          if (m.1 69 y4.toNatClampNeg) = y3 then
            some (.inl ())
          else
            l_X10_miss_60 k  y1 y2 y3 (y4 + 1) m
          else none
        else
          l_X10_miss_60 k  y1 y2 y3 (y4 + 1) m
        else none
      else
        l_X10_miss_60 k  y1 y2 y3 (y4 + 1) m
      else none
set_option maxRecDepth 100000 in
set_option maxHeartbeats 4000000 in
theorem t_l_X10_miss_60 {g : q_G} {n : Nat} {F : Nat → Nat → Option Nat} {Z : List Frame → Array Value → State → State → Prop} {kc ks : Nat} (hn : 89 ≤ n) (hF : q_FF F)  : ∀ (k : Nat) (y1 : Int32) (y2 : Int32) (y3 : Int32) (y4 : Int32) (m : q_Mm) {rr : (Unit) ⊕ (Unit)}, l_X10_miss_60 k y1 y2 y3 y4 m = some rr → (∀ r, rr = .inl r → q_V g mX10_miss q_T Z kc ks 102 [] [] (q_mk n F m)) → (∀ r, rr = .inr r → q_V g mX10_miss q_T Z kc ks 111 [(0, q_r g 58), (1, .int y1), (2, .int y2), (3, .int y3)] [] (q_mk n F m)) → q_V g mX10_miss q_T Z kc ks 60 [(0, q_r g 58), (1, .int y1), (2, .int y2), (3, .int y3), (4, .int y4)] [] (q_mk n F m) := by
  intro k
  induction k with
  | zero => intro y1 y2 y3 y4 m rr h; cases h
  | succ k ih =>
    intro y1 y2 y3 y4 m rr h hx0 hx1
    unfold l_X10_miss_60 at h
    refine q_iload dX10_miss_60 rfl ?_
    refine q_aload_n dX10_miss_62 rfl ?_
    refine u_geti dX10_miss_63 fX10_201 rfl rfl (Nat.lt_of_lt_of_le (Nat.le_of_ble_eq_true rfl) hn) ?_
    refine q_icmp_ge 111 dX10_miss_66 (by decide) (fun hc => ?_) (fun hc => ?_)
    · have h := q_it hc h
      refine q_drop [0, 1, 2, 3] (ls' := [(0, _), (1, _), (2, _), (3, _)]) rfl ?_
      cases h
      exact hx1 _ rfl
    · have h := q_if hc h
      refine q_aload_n dX10_miss_69 rfl ?_
      refine u_getr dX10_miss_70 fX10_34 rfl rfl (Nat.lt_of_lt_of_le (Nat.le_of_ble_eq_true rfl) hn) (hF 58 12 67 rfl) ?_
      refine q_iload dX10_miss_73 rfl ?_
      obtain ⟨hi1, h⟩ := q_is h
      refine u_iald dX10_miss_75 rfl (Nat.lt_of_lt_of_le (Nat.le_of_ble_eq_true rfl) hn) (q_in_vp hi1) ?_
      refine q_iload_n dX10_miss_76 rfl ?_
      refine q_icmp_ne 105 dX10_miss_77 (by decide) (fun hc => ?_) (fun hc => ?_)
      · have h := q_if hc h
        refine q_iinc1 (w := 1) (ls' := [(0, _), (1, _), (2, _), (3, _), (4, _)]) [0, 1, 2, 3, 4] dX10_miss_105 rfl (by decide) (Nat.le_of_ble_eq_true rfl) rfl ?_
        refine q_goto 60 dX10_miss_108 (by decide) ?_
        exact ih _ _ _ _ _ h hx0 hx1
      · have h := q_it hc h
        refine q_aload_n dX10_miss_80 rfl ?_
        refine u_getr dX10_miss_81 fX10_37 rfl rfl (Nat.lt_of_lt_of_le (Nat.le_of_ble_eq_true rfl) hn) (hF 58 13 68 rfl) ?_
        refine q_iload dX10_miss_84 rfl ?_
        obtain ⟨hi2, h⟩ := q_is h
        refine u_iald dX10_miss_86 rfl (Nat.lt_of_lt_of_le (Nat.le_of_ble_eq_true rfl) hn) (q_in_vp hi2) ?_
        refine q_iload_n dX10_miss_87 rfl ?_
        refine q_icmp_ne 105 dX10_miss_88 (by decide) (fun hc => ?_) (fun hc => ?_)
        · have h := q_if hc h
          refine q_iinc1 (w := 1) (ls' := [(0, _), (1, _), (2, _), (3, _), (4, _)]) [0, 1, 2, 3, 4] dX10_miss_105 rfl (by decide) (Nat.le_of_ble_eq_true rfl) rfl ?_
          refine q_goto 60 dX10_miss_108 (by decide) ?_
          exact ih _ _ _ _ _ h hx0 hx1
        · have h := q_it hc h
          refine q_aload_n dX10_miss_91 rfl ?_
          refine u_getr dX10_miss_92 fX10_40 rfl rfl (Nat.lt_of_lt_of_le (Nat.le_of_ble_eq_true rfl) hn) (hF 58 14 69 rfl) ?_
          refine q_iload dX10_miss_95 rfl ?_
          obtain ⟨hi3, h⟩ := q_is h
          refine u_iald dX10_miss_97 rfl (Nat.lt_of_lt_of_le (Nat.le_of_ble_eq_true rfl) hn) (q_in_vp hi3) ?_
          refine q_iload_n dX10_miss_98 rfl ?_
          refine q_icmp_ne 105 dX10_miss_99 (by decide) (fun hc => ?_) (fun hc => ?_)
          · have h := q_if hc h
            refine q_iinc1 (w := 1) (ls' := [(0, _), (1, _), (2, _), (3, _), (4, _)]) [0, 1, 2, 3, 4] dX10_miss_105 rfl (by decide) (Nat.le_of_ble_eq_true rfl) rfl ?_
            refine q_goto 60 dX10_miss_108 (by decide) ?_
            exact ih _ _ _ _ _ h hx0 hx1
          · have h := q_it hc h
            refine q_drop [] (ls' := []) rfl ?_
            cases h
            exact hx0 _ rfl
def f_X10_miss (x1 : Int32) (x2 : Int32) (x3 : Int32) (m : q_Mm) : Option (Int32 × q_Mm) :=
  if (f_X10_in x1.toInt64 0 (((m.1 58 11) - 1).toInt64) m) = 0 then
    some (((-1), m))
  else
    if (f_X10_in x2.toInt64 0 9 m) = 0 then
      some (((-2), m))
    else
      if (f_X10_in x3.toInt64 0 11 m) = 0 then
        some (((-2), m))
      else
        if (m.1 58 15) = 20 then
          some (((-4), m))
        else
          (l_X10_miss_60 7000  x1 x2 x3 0 m).bind fun r4 => match r4 with
          | .inl r6 =>
            some (((-5), m))
          | .inr r7 =>
            if q_in (m.1 58 15) 20 = true then
            if q_in ((q_wi m 67 ((m.1 58 15).toNatClampNeg) x1).1 58 15) 20 = true then
            if q_in ((q_wi (q_wi m 67 ((m.1 58 15).toNatClampNeg) x1) 68 (((q_wi m 67 ((m.1 58 15).toNatClampNeg) x1).1 58 15).toNatClampNeg) x2).1 58 15) 20 = true then
            some (((q_wi (q_wi (q_wi (q_wi m 67 ((m.1 58 15).toNatClampNeg) x1) 68 (((q_wi m 67 ((m.1 58 15).toNatClampNeg) x1).1 58 15).toNatClampNeg) x2) 69 (((q_wi (q_wi m 67 ((m.1 58 15).toNatClampNeg) x1) 68 (((q_wi m 67 ((m.1 58 15).toNatClampNeg) x1).1 58 15).toNatClampNeg) x2).1 58 15).toNatClampNeg) x3) 58 15 (((q_wi (q_wi (q_wi m 67 ((m.1 58 15).toNatClampNeg) x1) 68 (((q_wi m 67 ((m.1 58 15).toNatClampNeg) x1).1 58 15).toNatClampNeg) x2) 69 (((q_wi (q_wi m 67 ((m.1 58 15).toNatClampNeg) x1) 68 (((q_wi m 67 ((m.1 58 15).toNatClampNeg) x1).1 58 15).toNatClampNeg) x2).1 58 15).toNatClampNeg) x3).1 58 15) + 1)).1 58 15, q_wi (q_wi (q_wi (q_wi m 67 ((m.1 58 15).toNatClampNeg) x1) 68 (((q_wi m 67 ((m.1 58 15).toNatClampNeg) x1).1 58 15).toNatClampNeg) x2) 69 (((q_wi (q_wi m 67 ((m.1 58 15).toNatClampNeg) x1) 68 (((q_wi m 67 ((m.1 58 15).toNatClampNeg) x1).1 58 15).toNatClampNeg) x2).1 58 15).toNatClampNeg) x3) 58 15 (((q_wi (q_wi (q_wi m 67 ((m.1 58 15).toNatClampNeg) x1) 68 (((q_wi m 67 ((m.1 58 15).toNatClampNeg) x1).1 58 15).toNatClampNeg) x2) 69 (((q_wi (q_wi m 67 ((m.1 58 15).toNatClampNeg) x1) 68 (((q_wi m 67 ((m.1 58 15).toNatClampNeg) x1).1 58 15).toNatClampNeg) x2).1 58 15).toNatClampNeg) x3).1 58 15) + 1)))
            else none
            else none
            else none
set_option maxRecDepth 100000 in
set_option maxHeartbeats 4000000 in
theorem t_X10_miss {g : q_G} {n : Nat} {F : Nat → Nat → Option Nat} (hn : 89 ≤ n) (hF : q_FF F)  {x1 : Int32} {x2 : Int32} {x3 : Int32} {m : q_Mm} {r : Int32 × q_Mm} (h : f_X10_miss x1 x2 x3 m = some r) : q_Cn g mX10_miss [q_r g 58, .int x1, .int x2, .int x3] (q_mk n F m) (q_Q (some (.int r.1)) (q_mk n F r.2)) := by
  unfold f_X10_miss at h
  show q_V g mX10_miss q_T _ _ _ 0 [(0, q_r g 58), (1, .int x1), (2, .int x2), (3, .int x3)] [] (q_mk n F m)
  refine q_iload_n dX10_miss_0 rfl ?_
  refine q_i2l dX10_miss_1 ?_
  refine q_lconst (v := 0) dX10_miss_2 (by decide) ?_
  refine q_aload_n dX10_miss_3 rfl ?_
  refine u_geti dX10_miss_4 fX10_194 rfl rfl (Nat.lt_of_lt_of_le (Nat.le_of_ble_eq_true rfl) hn) ?_
  refine q_iconst (v := 1) dX10_miss_7 (by decide) ?_
  refine q_isub dX10_miss_8 ?_
  refine q_i2l dX10_miss_9 ?_
  refine c_S1 (as := [_, _, _]) (st := []) dX10_miss_10 okX10_in lX10_122 ⟨rfl, rfl⟩ ⟨Nat.le_of_ble_eq_true rfl, Nat.le_of_ble_eq_true rfl⟩ rfl rfl (Nat.le_of_ble_eq_true rfl) (Nat.le_of_ble_eq_true rfl) (t_X10_in hn hF  rfl) ?_
  refine q_if_ne 18 dX10_miss_13 (by decide) (fun hc => ?_) (fun hc => ?_)
  · have h := q_if hc h
    refine q_iload_n dX10_miss_18 rfl ?_
    refine q_i2l dX10_miss_19 ?_
    refine q_lconst (v := 0) dX10_miss_20 (by decide) ?_
    refine q_ldc2 dX10_miss_21 kX10_197 ?_
    refine c_S1 (as := [_, _, _]) (st := []) dX10_miss_24 okX10_in lX10_122 ⟨rfl, rfl⟩ ⟨Nat.le_of_ble_eq_true rfl, Nat.le_of_ble_eq_true rfl⟩ rfl rfl (Nat.le_of_ble_eq_true rfl) (Nat.le_of_ble_eq_true rfl) (t_X10_in hn hF  rfl) ?_
    refine q_if_eq 42 dX10_miss_27 (by decide) (fun hc => ?_) (fun hc => ?_)
    · have h := q_it hc h
      refine q_bipush (v := (-2)) dX10_miss_42 (by decide) ?_
      cases h
      exact q_iret dX10_miss_44 rfl ⟨rfl, rfl⟩
    · have h := q_if hc h
      refine q_iload_n dX10_miss_30 rfl ?_
      refine q_i2l dX10_miss_31 ?_
      refine q_lconst (v := 0) dX10_miss_32 (by decide) ?_
      refine q_ldc2 dX10_miss_33 kX10_199 ?_
      refine c_S1 (as := [_, _, _]) (st := []) dX10_miss_36 okX10_in lX10_122 ⟨rfl, rfl⟩ ⟨Nat.le_of_ble_eq_true rfl, Nat.le_of_ble_eq_true rfl⟩ rfl rfl (Nat.le_of_ble_eq_true rfl) (Nat.le_of_ble_eq_true rfl) (t_X10_in hn hF  rfl) ?_
      refine q_if_ne 45 dX10_miss_39 (by decide) (fun hc => ?_) (fun hc => ?_)
      · have h := q_if hc h
        refine q_aload_n dX10_miss_45 rfl ?_
        refine u_geti dX10_miss_46 fX10_201 rfl rfl (Nat.lt_of_lt_of_le (Nat.le_of_ble_eq_true rfl) hn) ?_
        refine q_bipush (v := 20) dX10_miss_49 (by decide) ?_
        refine q_icmp_ne 57 dX10_miss_51 (by decide) (fun hc => ?_) (fun hc => ?_)
        · have h := q_if hc h
          refine q_iconst (v := 0) dX10_miss_57 (by decide) ?_
          refine q_istore (ls' := [(0, _), (1, _), (2, _), (3, _), (4, _)]) [0, 1, 2, 3, 4] dX10_miss_58 (Nat.le_of_ble_eq_true rfl) rfl ?_
          obtain ⟨r4, hr5, h⟩ := q_bd h
          refine t_l_X10_miss_60 hn hF  7000 _ _ _ _ _ hr5 ?_ ?_
          · intro r6 er6
            subst er6
            dsimp only at h
            refine q_bipush (v := (-5)) dX10_miss_102 (by decide) ?_
            cases h
            exact q_iret dX10_miss_104 rfl ⟨rfl, rfl⟩
          · intro r7 er7
            subst er7
            dsimp only at h
            refine q_aload_n dX10_miss_111 rfl ?_
            refine u_getr dX10_miss_112 fX10_34 rfl rfl (Nat.lt_of_lt_of_le (Nat.le_of_ble_eq_true rfl) hn) (hF 58 12 67 rfl) ?_
            refine q_aload_n dX10_miss_115 rfl ?_
            refine u_geti dX10_miss_116 fX10_201 rfl rfl (Nat.lt_of_lt_of_le (Nat.le_of_ble_eq_true rfl) hn) ?_
            refine q_iload_n dX10_miss_119 rfl ?_
            obtain ⟨hi8, h⟩ := q_is h
            refine u_iast dX10_miss_120 rfl (Nat.lt_of_lt_of_le (Nat.le_of_ble_eq_true rfl) hn) (q_in_vp hi8) ?_
            refine q_aload_n dX10_miss_121 rfl ?_
            refine u_getr dX10_miss_122 fX10_37 rfl rfl (Nat.lt_of_lt_of_le (Nat.le_of_ble_eq_true rfl) hn) (hF 58 13 68 rfl) ?_
            refine q_aload_n dX10_miss_125 rfl ?_
            refine u_geti dX10_miss_126 fX10_201 rfl rfl (Nat.lt_of_lt_of_le (Nat.le_of_ble_eq_true rfl) hn) ?_
            refine q_iload_n dX10_miss_129 rfl ?_
            obtain ⟨hi9, h⟩ := q_is h
            refine u_iast dX10_miss_130 rfl (Nat.lt_of_lt_of_le (Nat.le_of_ble_eq_true rfl) hn) (q_in_vp hi9) ?_
            refine q_aload_n dX10_miss_131 rfl ?_
            refine u_getr dX10_miss_132 fX10_40 rfl rfl (Nat.lt_of_lt_of_le (Nat.le_of_ble_eq_true rfl) hn) (hF 58 14 69 rfl) ?_
            refine q_aload_n dX10_miss_135 rfl ?_
            refine u_geti dX10_miss_136 fX10_201 rfl rfl (Nat.lt_of_lt_of_le (Nat.le_of_ble_eq_true rfl) hn) ?_
            refine q_iload_n dX10_miss_139 rfl ?_
            obtain ⟨hi10, h⟩ := q_is h
            refine u_iast dX10_miss_140 rfl (Nat.lt_of_lt_of_le (Nat.le_of_ble_eq_true rfl) hn) (q_in_vp hi10) ?_
            refine q_aload_n dX10_miss_141 rfl ?_
            refine q_dup dX10_miss_142 rfl ?_
            refine u_geti dX10_miss_143 fX10_201 rfl rfl (Nat.lt_of_lt_of_le (Nat.le_of_ble_eq_true rfl) hn) ?_
            refine q_iconst (v := 1) dX10_miss_146 (by decide) ?_
            refine q_iadd dX10_miss_147 ?_
            refine u_puti dX10_miss_148 fX10_201 rfl rfl (Nat.lt_of_lt_of_le (Nat.le_of_ble_eq_true rfl) hn) rfl rfl rfl ?_
            refine q_aload_n dX10_miss_151 rfl ?_
            refine u_geti dX10_miss_152 fX10_201 rfl rfl (Nat.lt_of_lt_of_le (Nat.le_of_ble_eq_true rfl) hn) ?_
            cases h
            exact q_iret dX10_miss_155 rfl ⟨rfl, rfl⟩
        · have h := q_it hc h
          refine q_bipush (v := (-4)) dX10_miss_54 (by decide) ?_
          cases h
          exact q_iret dX10_miss_56 rfl ⟨rfl, rfl⟩
      · have h := q_it hc h
        refine q_bipush (v := (-2)) dX10_miss_42 (by decide) ?_
        cases h
        exact q_iret dX10_miss_44 rfl ⟨rfl, rfl⟩
  · have h := q_it hc h
    refine q_iconst (v := (-1)) dX10_miss_16 (by decide) ?_
    cases h
    exact q_iret dX10_miss_17 rfl ⟨rfl, rfl⟩
