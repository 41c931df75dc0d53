def f_X9_mix (x1 : Int32) (x2 : Int32) (x3 : Int32) (m : q_Mm) : Option (Int32 × q_Mm) :=
  if (f_X9_within x1 0 600 m) = 0 then
    some (((-2), m))
  else
    if (f_X9_within x2 1 12 m) = 0 then
      some (((-2), m))
    else
      if (f_X9_within x3 0 4 m) = 0 then
        some (((-2), m))
      else
        (f_X3_waitAt (m.1 0 4) x1 m).bind fun r1 =>
        (f_X3_findMix x2 r1).bind fun r3 =>
        if x3 = 4 then
          some ((r3.1 23 10, r3))
        else
          if q_in x3 4 = true then
          some ((r3.1 27 x3.toNatClampNeg, r3))
          else none
set_option maxRecDepth 100000 in
set_option maxHeartbeats 4000000 in
theorem t_X9_mix {g : q_G} {n : Nat} {F : Nat → Nat → Option Nat} (hn : 89 ≤ n) (hF : q_FF F)  {x1 : Int32} {x2 : Int32} {x3 : Int32} {m : q_Mm} {r : Int32 × q_Mm} (h : f_X9_mix x1 x2 x3 m = some r) : q_Cn g mX9_mix [q_r g 0, .int x1, .int x2, .int x3] (q_mk n F m) (q_Q (some (.int r.1)) (q_mk n F r.2)) := by
  unfold f_X9_mix at h
  show q_V g mX9_mix q_T _ _ _ 0 [(0, q_r g 0), (1, .int x1), (2, .int x2), (3, .int x3)] [] (q_mk n F m)
  refine q_iload_n dX9_mix_0 rfl ?_
  refine q_iconst (v := 0) dX9_mix_1 (by decide) ?_
  refine q_sipush (v := 600) dX9_mix_2 (by decide) ?_
  refine c_S1 (as := [_, _, _]) (st := []) dX9_mix_5 okX9_within lX9_80 ⟨rfl, rfl⟩ ⟨Nat.le_of_ble_eq_true rfl, Nat.le_of_ble_eq_true rfl⟩ rfl rfl (Nat.le_of_ble_eq_true rfl) (Nat.le_of_ble_eq_true rfl) (t_X9_within hn hF  rfl) ?_
  refine q_if_eq 30 dX9_mix_8 (by decide) (fun hc => ?_) (fun hc => ?_)
  · have h := q_it hc h
    refine q_bipush (v := (-2)) dX9_mix_30 (by decide) ?_
    cases h
    exact q_iret dX9_mix_32 rfl ⟨rfl, rfl⟩
  · have h := q_if hc h
    refine q_iload_n dX9_mix_11 rfl ?_
    refine q_iconst (v := 1) dX9_mix_12 (by decide) ?_
    refine q_bipush (v := 12) dX9_mix_13 (by decide) ?_
    refine c_S1 (as := [_, _, _]) (st := []) dX9_mix_15 okX9_within lX9_80 ⟨rfl, rfl⟩ ⟨Nat.le_of_ble_eq_true rfl, Nat.le_of_ble_eq_true rfl⟩ rfl rfl (Nat.le_of_ble_eq_true rfl) (Nat.le_of_ble_eq_true rfl) (t_X9_within hn hF  rfl) ?_
    refine q_if_eq 30 dX9_mix_18 (by decide) (fun hc => ?_) (fun hc => ?_)
    · have h := q_it hc h
      refine q_bipush (v := (-2)) dX9_mix_30 (by decide) ?_
      cases h
      exact q_iret dX9_mix_32 rfl ⟨rfl, rfl⟩
    · have h := q_if hc h
      refine q_iload_n dX9_mix_21 rfl ?_
      refine q_iconst (v := 0) dX9_mix_22 (by decide) ?_
      refine q_iconst (v := 4) dX9_mix_23 (by decide) ?_
      refine c_S1 (as := [_, _, _]) (st := []) dX9_mix_24 okX9_within lX9_80 ⟨rfl, rfl⟩ ⟨Nat.le_of_ble_eq_true rfl, Nat.le_of_ble_eq_true rfl⟩ rfl rfl (Nat.le_of_ble_eq_true rfl) (Nat.le_of_ble_eq_true rfl) (t_X9_within hn hF  rfl) ?_
      refine q_if_ne 33 dX9_mix_27 (by decide) (fun hc => ?_) (fun hc => ?_)
      · have h := q_if hc h
        refine q_aload_n dX9_mix_33 rfl ?_
        refine u_getr dX9_mix_34 fX9_39 rfl rfl (Nat.lt_of_lt_of_le (Nat.le_of_ble_eq_true rfl) hn) (hF 0 5 23 rfl) ?_
        refine q_aload_n dX9_mix_37 rfl ?_
        refine u_getr dX9_mix_38 fX9_11 rfl rfl (Nat.lt_of_lt_of_le (Nat.le_of_ble_eq_true rfl) hn) (hF 0 0 1 rfl) ?_
        refine q_aload_n dX9_mix_41 rfl ?_
        refine u_geti dX9_mix_42 fX9_33 rfl rfl (Nat.lt_of_lt_of_le (Nat.le_of_ble_eq_true rfl) hn) ?_
        refine q_iload_n dX9_mix_45 rfl ?_
        obtain ⟨r1, hr2, h⟩ := q_bd h
        refine c_V0 (as := [_, _, _]) (st := []) (ci := 3) dX9_mix_46 okX3_waitAt lX9_197 ⟨rfl, rfl⟩ ⟨Nat.le_of_ble_eq_true rfl, Nat.le_of_ble_eq_true rfl⟩ (by decide) rfl rfl (Nat.lt_of_lt_of_le (Nat.le_of_ble_eq_true rfl) hn) rfl rfl (Nat.le_of_ble_eq_true rfl) (Nat.le_of_ble_eq_true rfl) (t_X3_waitAt hn hF  hr2) ?_
        refine q_aload_n dX9_mix_49 rfl ?_
        refine u_getr dX9_mix_50 fX9_39 rfl rfl (Nat.lt_of_lt_of_le (Nat.le_of_ble_eq_true rfl) hn) (hF 0 5 23 rfl) ?_
        refine q_iload_n dX9_mix_53 rfl ?_
        obtain ⟨r3, hr4, h⟩ := q_bd h
        refine c_V0 (as := [_]) (st := []) (ci := 3) dX9_mix_54 okX3_findMix lX9_216 ⟨rfl, rfl⟩ ⟨Nat.le_of_ble_eq_true rfl, Nat.le_of_ble_eq_true rfl⟩ (by decide) rfl rfl (Nat.lt_of_lt_of_le (Nat.le_of_ble_eq_true rfl) hn) rfl rfl (Nat.le_of_ble_eq_true rfl) (Nat.le_of_ble_eq_true rfl) (t_X3_findMix hn hF  hr4) ?_
        refine q_iload_n dX9_mix_57 rfl ?_
        refine q_iconst (v := 4) dX9_mix_58 (by decide) ?_
        refine q_icmp_ne 72 dX9_mix_59 (by decide) (fun hc => ?_) (fun hc => ?_)
        · have h := q_if hc h
          refine q_aload_n dX9_mix_72 rfl ?_
          refine u_getr dX9_mix_73 fX9_39 rfl rfl (Nat.lt_of_lt_of_le (Nat.le_of_ble_eq_true rfl) hn) (hF 0 5 23 rfl) ?_
          refine u_getr dX9_mix_76 fX9_223 rfl rfl (Nat.lt_of_lt_of_le (Nat.le_of_ble_eq_true rfl) hn) (hF 23 9 27 rfl) ?_
          refine q_iload_n dX9_mix_79 rfl ?_
          obtain ⟨hi5, h⟩ := q_is h
          refine u_iald dX9_mix_80 rfl (Nat.lt_of_lt_of_le (Nat.le_of_ble_eq_true rfl) hn) (q_in_vp hi5) ?_
          cases h
          exact q_iret dX9_mix_81 rfl ⟨rfl, rfl⟩
        · have h := q_it hc h
          refine q_aload_n dX9_mix_62 rfl ?_
          refine u_getr dX9_mix_63 fX9_39 rfl rfl (Nat.lt_of_lt_of_le (Nat.le_of_ble_eq_true rfl) hn) (hF 0 5 23 rfl) ?_
          refine u_geti dX9_mix_66 fX9_220 rfl rfl (Nat.lt_of_lt_of_le (Nat.le_of_ble_eq_true rfl) hn) ?_
          refine q_goto 81 dX9_mix_69 (by decide) ?_
          cases h
          exact q_iret dX9_mix_81 rfl ⟨rfl, rfl⟩
      · have h := q_it hc h
        refine q_bipush (v := (-2)) dX9_mix_30 (by decide) ?_
        cases h
        exact q_iret dX9_mix_32 rfl ⟨rfl, rfl⟩
def f_X9_post (x1 : Int32) (x2 : Int32) (x3 : Int32) (m : q_Mm) : Option (Int32 × q_Mm) :=
  if (f_X9_within x1 (-50) 50 m) = 0 then
    some (((-2), m))
  else
    if (f_X9_within x2 (-50) 50 m) = 0 then
      some (((-2), m))
    else
      if (f_X9_within x3 1 40 m) = 0 then
        some (((-2), m))
      else
        if (m.1 28 3) < 10 then
          (f_X6_add x1 x2 x3 m).bind fun r1 =>
          some (((r1.1 28 3) - 1, r1))
        else
          some (((-4), m))
set_option maxRecDepth 100000 in
set_option maxHeartbeats 4000000 in
theorem t_X9_post {g : q_G} {n : Nat} {F : Nat → Nat → Option Nat} (hn : 89 ≤ n) (hF : q_FF F)  {x1 : Int32} {x2 : Int32} {x3 : Int32} {m : q_Mm} {r : Int32 × q_Mm} (h : f_X9_post x1 x2 x3 m = some r) : q_Cn g mX9_post [q_r g 0, .int x1, .int x2, .int x3] (q_mk n F m) (q_Q (some (.int r.1)) (q_mk n F r.2)) := by
  unfold f_X9_post at h
  show q_V g mX9_post q_T _ _ _ 0 [(0, q_r g 0), (1, .int x1), (2, .int x2), (3, .int x3)] [] (q_mk n F m)
  refine q_iload_n dX9_post_0 rfl ?_
  refine q_bipush (v := (-50)) dX9_post_1 (by decide) ?_
  refine q_bipush (v := 50) dX9_post_3 (by decide) ?_
  refine c_S1 (as := [_, _, _]) (st := []) dX9_post_5 okX9_within lX9_80 ⟨rfl, rfl⟩ ⟨Nat.le_of_ble_eq_true rfl, Nat.le_of_ble_eq_true rfl⟩ rfl rfl (Nat.le_of_ble_eq_true rfl) (Nat.le_of_ble_eq_true rfl) (t_X9_within hn hF  rfl) ?_
  refine q_if_eq 32 dX9_post_8 (by decide) (fun hc => ?_) (fun hc => ?_)
  · have h := q_it hc h
    refine q_bipush (v := (-2)) dX9_post_32 (by decide) ?_
    cases h
    exact q_iret dX9_post_34 rfl ⟨rfl, rfl⟩
  · have h := q_if hc h
    refine q_iload_n dX9_post_11 rfl ?_
    refine q_bipush (v := (-50)) dX9_post_12 (by decide) ?_
    refine q_bipush (v := 50) dX9_post_14 (by decide) ?_
    refine c_S1 (as := [_, _, _]) (st := []) dX9_post_16 okX9_within lX9_80 ⟨rfl, rfl⟩ ⟨Nat.le_of_ble_eq_true rfl, Nat.le_of_ble_eq_true rfl⟩ rfl rfl (Nat.le_of_ble_eq_true rfl) (Nat.le_of_ble_eq_true rfl) (t_X9_within hn hF  rfl) ?_
    refine q_if_eq 32 dX9_post_19 (by decide) (fun hc => ?_) (fun hc => ?_)
    · have h := q_it hc h
      refine q_bipush (v := (-2)) dX9_post_32 (by decide) ?_
      cases h
      exact q_iret dX9_post_34 rfl ⟨rfl, rfl⟩
    · have h := q_if hc h
      refine q_iload_n dX9_post_22 rfl ?_
      refine q_iconst (v := 1) dX9_post_23 (by decide) ?_
      refine q_bipush (v := 40) dX9_post_24 (by decide) ?_
      refine c_S1 (as := [_, _, _]) (st := []) dX9_post_26 okX9_within lX9_80 ⟨rfl, rfl⟩ ⟨Nat.le_of_ble_eq_true rfl, Nat.le_of_ble_eq_true rfl⟩ rfl rfl (Nat.le_of_ble_eq_true rfl) (Nat.le_of_ble_eq_true rfl) (t_X9_within hn hF  rfl) ?_
      refine q_if_ne 35 dX9_post_29 (by decide) (fun hc => ?_) (fun hc => ?_)
      · have h := q_if hc h
        refine q_aload_n dX9_post_35 rfl ?_
        refine u_getr dX9_post_36 fX9_46 rfl rfl (Nat.lt_of_lt_of_le (Nat.le_of_ble_eq_true rfl) hn) (hF 0 6 28 rfl) ?_
        refine u_geti dX9_post_39 fX9_226 rfl rfl (Nat.lt_of_lt_of_le (Nat.le_of_ble_eq_true rfl) hn) ?_
        refine q_bipush (v := 10) dX9_post_42 (by decide) ?_
        refine q_icmp_lt 50 dX9_post_44 (by decide) (fun hc => ?_) (fun hc => ?_)
        · have h := q_it hc h
          refine q_aload_n dX9_post_50 rfl ?_
          refine u_getr dX9_post_51 fX9_46 rfl rfl (Nat.lt_of_lt_of_le (Nat.le_of_ble_eq_true rfl) hn) (hF 0 6 28 rfl) ?_
          refine q_iload_n dX9_post_54 rfl ?_
          refine q_iload_n dX9_post_55 rfl ?_
          refine q_iload_n dX9_post_56 rfl ?_
          obtain ⟨r1, hr2, h⟩ := q_bd h
          refine c_V0 (as := [_, _, _]) (st := []) (ci := 6) dX9_post_57 okX6_add lX9_227 ⟨rfl, rfl⟩ ⟨Nat.le_of_ble_eq_true rfl, Nat.le_of_ble_eq_true rfl⟩ (by decide) rfl rfl (Nat.lt_of_lt_of_le (Nat.le_of_ble_eq_true rfl) hn) rfl rfl (Nat.le_of_ble_eq_true rfl) (Nat.le_of_ble_eq_true rfl) (t_X6_add hn hF  hr2) ?_
          refine q_aload_n dX9_post_60 rfl ?_
          refine u_getr dX9_post_61 fX9_46 rfl rfl (Nat.lt_of_lt_of_le (Nat.le_of_ble_eq_true rfl) hn) (hF 0 6 28 rfl) ?_
          refine u_geti dX9_post_64 fX9_226 rfl rfl (Nat.lt_of_lt_of_le (Nat.le_of_ble_eq_true rfl) hn) ?_
          refine q_iconst (v := 1) dX9_post_67 (by decide) ?_
          refine q_isub dX9_post_68 ?_
          cases h
          exact q_iret dX9_post_69 rfl ⟨rfl, rfl⟩
        · have h := q_if hc h
          refine q_bipush (v := (-4)) dX9_post_47 (by decide) ?_
          cases h
          exact q_iret dX9_post_49 rfl ⟨rfl, rfl⟩
      · have h := q_it hc h
        refine q_bipush (v := (-2)) dX9_post_32 (by decide) ?_
        cases h
        exact q_iret dX9_post_34 rfl ⟨rfl, rfl⟩
def f_X9_seen (x1 : Int32) (x2 : Int32) (m : q_Mm) : Option (Int32 × q_Mm) :=
  if (f_X9_within x1 0 (((1 : Int32) <<< ((m.1 28 3) &&& 31)) - 1) m) = 0 then
    some (((-2), m))
  else
    if (f_X9_within x2 1 50 m) = 0 then
      some (((-2), m))
    else
      (f_X6_watchRing x2 m).bind fun r1 =>
      (f_X6_pointsSeen x1 r1).bind fun r3 =>
      some ((r3, r1))
set_option maxRecDepth 100000 in
set_option maxHeartbeats 4000000 in
theorem t_X9_seen {g : q_G} {n : Nat} {F : Nat → Nat → Option Nat} (hn : 89 ≤ n) (hF : q_FF F)  {x1 : Int32} {x2 : Int32} {m : q_Mm} {r : Int32 × q_Mm} (h : f_X9_seen x1 x2 m = some r) : q_Cn g mX9_seen [q_r g 0, .int x1, .int x2] (q_mk n F m) (q_Q (some (.int r.1)) (q_mk n F r.2)) := by
  unfold f_X9_seen at h
  show q_V g mX9_seen q_T _ _ _ 0 [(0, q_r g 0), (1, .int x1), (2, .int x2)] [] (q_mk n F m)
  refine q_iload_n dX9_seen_0 rfl ?_
  refine q_iconst (v := 0) dX9_seen_1 (by decide) ?_
  refine q_iconst (v := 1) dX9_seen_2 (by decide) ?_
  refine q_aload_n dX9_seen_3 rfl ?_
  refine u_getr dX9_seen_4 fX9_46 rfl rfl (Nat.lt_of_lt_of_le (Nat.le_of_ble_eq_true rfl) hn) (hF 0 6 28 rfl) ?_
  refine u_geti dX9_seen_7 fX9_226 rfl rfl (Nat.lt_of_lt_of_le (Nat.le_of_ble_eq_true rfl) hn) ?_
  refine q_ishl dX9_seen_10 ?_
  refine q_iconst (v := 1) dX9_seen_11 (by decide) ?_
  refine q_isub dX9_seen_12 ?_
  refine c_S1 (as := [_, _, _]) (st := []) dX9_seen_13 okX9_within lX9_80 ⟨rfl, rfl⟩ ⟨Nat.le_of_ble_eq_true rfl, Nat.le_of_ble_eq_true rfl⟩ rfl rfl (Nat.le_of_ble_eq_true rfl) (Nat.le_of_ble_eq_true rfl) (t_X9_within hn hF  rfl) ?_
  refine q_if_eq 29 dX9_seen_16 (by decide) (fun hc => ?_) (fun hc => ?_)
  · have h := q_it hc h
    refine q_bipush (v := (-2)) dX9_seen_29 (by decide) ?_
    cases h
    exact q_iret dX9_seen_31 rfl ⟨rfl, rfl⟩
  · have h := q_if hc h
    refine q_iload_n dX9_seen_19 rfl ?_
    refine q_iconst (v := 1) dX9_seen_20 (by decide) ?_
    refine q_bipush (v := 50) dX9_seen_21 (by decide) ?_
    refine c_S1 (as := [_, _, _]) (st := []) dX9_seen_23 okX9_within lX9_80 ⟨rfl, rfl⟩ ⟨Nat.le_of_ble_eq_true rfl, Nat.le_of_ble_eq_true rfl⟩ rfl rfl (Nat.le_of_ble_eq_true rfl) (Nat.le_of_ble_eq_true rfl) (t_X9_within hn hF  rfl) ?_
    refine q_if_ne 32 dX9_seen_26 (by decide) (fun hc => ?_) (fun hc => ?_)
    · have h := q_if hc h
      refine q_aload_n dX9_seen_32 rfl ?_
      refine u_getr dX9_seen_33 fX9_46 rfl rfl (Nat.lt_of_lt_of_le (Nat.le_of_ble_eq_true rfl) hn) (hF 0 6 28 rfl) ?_
      refine q_iload_n dX9_seen_36 rfl ?_
      obtain ⟨r1, hr2, h⟩ := q_bd h
      refine c_V0 (as := [_]) (st := []) (ci := 6) dX9_seen_37 okX6_watchRing lX9_231 ⟨rfl, rfl⟩ ⟨Nat.le_of_ble_eq_true rfl, Nat.le_of_ble_eq_true rfl⟩ (by decide) rfl rfl (Nat.lt_of_lt_of_le (Nat.le_of_ble_eq_true rfl) hn) rfl rfl (Nat.le_of_ble_eq_true rfl) (Nat.le_of_ble_eq_true rfl) (t_X6_watchRing hn hF  hr2) ?_
      refine q_aload_n dX9_seen_40 rfl ?_
      refine u_getr dX9_seen_41 fX9_46 rfl rfl (Nat.lt_of_lt_of_le (Nat.le_of_ble_eq_true rfl) hn) (hF 0 6 28 rfl) ?_
      refine q_iload_n dX9_seen_44 rfl ?_
      obtain ⟨r3, hr4, h⟩ := q_bd h
      refine c_V1 (as := [_]) (st := []) (ci := 6) dX9_seen_45 okX6_pointsSeen lX9_234 ⟨rfl, rfl⟩ ⟨Nat.le_of_ble_eq_true rfl, Nat.le_of_ble_eq_true rfl⟩ (by decide) rfl rfl (Nat.lt_of_lt_of_le (Nat.le_of_ble_eq_true rfl) hn) rfl rfl (Nat.le_of_ble_eq_true rfl) (Nat.le_of_ble_eq_true rfl) (t_X6_pointsSeen hn hF  hr4) ?_
      cases h
      exact q_iret dX9_seen_48 rfl ⟨rfl, rfl⟩
    · have h := q_it hc h
      refine q_bipush (v := (-2)) dX9_seen_29 (by decide) ?_
      cases h
      exact q_iret dX9_seen_31 rfl ⟨rfl, rfl⟩
def f_X9_best (x1 : Int32) (x2 : Int32) (m : q_Mm) : Option (Int32 × q_Mm) :=
  if (f_X9_within x1 0 (m.1 28 3) m) = 0 then
    some (((-2), m))
  else
    if (f_X9_within x2 1 50 m) = 0 then
      some (((-2), m))
    else
      (f_X6_watchRing x2 m).bind fun r1 =>
      (f_X6_bestPosts x1 r1).bind fun r3 =>
      some ((r3, r1))
set_option maxRecDepth 100000 in
set_option maxHeartbeats 4000000 in
theorem t_X9_best {g : q_G} {n : Nat} {F : Nat → Nat → Option Nat} (hn : 89 ≤ n) (hF : q_FF F)  {x1 : Int32} {x2 : Int32} {m : q_Mm} {r : Int32 × q_Mm} (h : f_X9_best x1 x2 m = some r) : q_Cn g mX9_best [q_r g 0, .int x1, .int x2] (q_mk n F m) (q_Q (some (.int r.1)) (q_mk n F r.2)) := by
  unfold f_X9_best at h
  show q_V g mX9_best q_T _ _ _ 0 [(0, q_r g 0), (1, .int x1), (2, .int x2)] [] (q_mk n F m)
  refine q_iload_n dX9_best_0 rfl ?_
  refine q_iconst (v := 0) dX9_best_1 (by decide) ?_
  refine q_aload_n dX9_best_2 rfl ?_
  refine u_getr dX9_best_3 fX9_46 rfl rfl (Nat.lt_of_lt_of_le (Nat.le_of_ble_eq_true rfl) hn) (hF 0 6 28 rfl) ?_
  refine u_geti dX9_best_6 fX9_226 rfl rfl (Nat.lt_of_lt_of_le (Nat.le_of_ble_eq_true rfl) hn) ?_
  refine c_S1 (as := [_, _, _]) (st := []) dX9_best_9 okX9_within lX9_80 ⟨rfl, rfl⟩ ⟨Nat.le_of_ble_eq_true rfl, Nat.le_of_ble_eq_true rfl⟩ rfl rfl (Nat.le_of_ble_eq_true rfl) (Nat.le_of_ble_eq_true rfl) (t_X9_within hn hF  rfl) ?_
  refine q_if_eq 25 dX9_best_12 (by decide) (fun hc => ?_) (fun hc => ?_)
  · have h := q_it hc h
    refine q_bipush (v := (-2)) dX9_best_25 (by decide) ?_
    cases h
    exact q_iret dX9_best_27 rfl ⟨rfl, rfl⟩
  · have h := q_if hc h
    refine q_iload_n dX9_best_15 rfl ?_
    refine q_iconst (v := 1) dX9_best_16 (by decide) ?_
    refine q_bipush (v := 50) dX9_best_17 (by decide) ?_
    refine c_S1 (as := [_, _, _]) (st := []) dX9_best_19 okX9_within lX9_80 ⟨rfl, rfl⟩ ⟨Nat.le_of_ble_eq_true rfl, Nat.le_of_ble_eq_true rfl⟩ rfl rfl (Nat.le_of_ble_eq_true rfl) (Nat.le_of_ble_eq_true rfl) (t_X9_within hn hF  rfl) ?_
    refine q_if_ne 28 dX9_best_22 (by decide) (fun hc => ?_) (fun hc => ?_)
    · have h := q_if hc h
      refine q_aload_n dX9_best_28 rfl ?_
      refine u_getr dX9_best_29 fX9_46 rfl rfl (Nat.lt_of_lt_of_le (Nat.le_of_ble_eq_true rfl) hn) (hF 0 6 28 rfl) ?_
      refine q_iload_n dX9_best_32 rfl ?_
      obtain ⟨r1, hr2, h⟩ := q_bd h
      refine c_V0 (as := [_]) (st := []) (ci := 6) dX9_best_33 okX6_watchRing lX9_231 ⟨rfl, rfl⟩ ⟨Nat.le_of_ble_eq_true rfl, Nat.le_of_ble_eq_true rfl⟩ (by decide) rfl rfl (Nat.lt_of_lt_of_le (Nat.le_of_ble_eq_true rfl) hn) rfl rfl (Nat.le_of_ble_eq_true rfl) (Nat.le_of_ble_eq_true rfl) (t_X6_watchRing hn hF  hr2) ?_
      refine q_aload_n dX9_best_36 rfl ?_
      refine u_getr dX9_best_37 fX9_46 rfl rfl (Nat.lt_of_lt_of_le (Nat.le_of_ble_eq_true rfl) hn) (hF 0 6 28 rfl) ?_
      refine q_iload_n dX9_best_40 rfl ?_
      obtain ⟨r3, hr4, h⟩ := q_bd h
      refine c_V1 (as := [_]) (st := []) (ci := 6) dX9_best_41 okX6_bestPosts lX9_238 ⟨rfl, rfl⟩ ⟨Nat.le_of_ble_eq_true rfl, Nat.le_of_ble_eq_true rfl⟩ (by decide) rfl rfl (Nat.lt_of_lt_of_le (Nat.le_of_ble_eq_true rfl) hn) rfl rfl (Nat.le_of_ble_eq_true rfl) (Nat.le_of_ble_eq_true rfl) (t_X6_bestPosts hn hF  hr4) ?_
      cases h
      exact q_iret dX9_best_44 rfl ⟨rfl, rfl⟩
    · have h := q_it hc h
      refine q_bipush (v := (-2)) dX9_best_25 (by decide) ?_
      cases h
      exact q_iret dX9_best_27 rfl ⟨rfl, rfl⟩
def f_X9_danger (x1 : Int32) (x2 : Int32) (x3 : Int32) (m : q_Mm) : Option (Int32 × q_Mm) :=
  if (f_X9_within x1 0 11 m) = 0 then
    some (((-101), m))
  else
    if (f_X9_within x2 0 11 m) = 0 then
      some (((-101), m))
    else
      if (f_X9_within x3 (-1) 99 m) = 0 then
        some (((-102), m))
      else
        if q_in ((12 * x2) + x1) 144 = true then
        if q_in ((12 * x2) + x1) 144 = true then
        some ((m.1 33 ((12 * x2) + x1).toNatClampNeg, q_wi m 33 (((12 * x2) + x1).toNatClampNeg) x3))
        else none
        else none
set_option maxRecDepth 100000 in
set_option maxHeartbeats 4000000 in
theorem t_X9_danger {g : q_G} {n : Nat} {F : Nat → Nat → Option Nat} (hn : 89 ≤ n) (hF : q_FF F)  {x1 : Int32} {x2 : Int32} {x3 : Int32} {m : q_Mm} {r : Int32 × q_Mm} (h : f_X9_danger x1 x2 x3 m = some r) : q_Cn g mX9_danger [q_r g 0, .int x1, .int x2, .int x3] (q_mk n F m) (q_Q (some (.int r.1)) (q_mk n F r.2)) := by
  unfold f_X9_danger at h
  show q_V g mX9_danger q_T _ _ _ 0 [(0, q_r g 0), (1, .int x1), (2, .int x2), (3, .int x3)] [] (q_mk n F m)
  refine q_iload_n dX9_danger_0 rfl ?_
  refine q_iconst (v := 0) dX9_danger_1 (by decide) ?_
  refine q_bipush (v := 11) dX9_danger_2 (by decide) ?_
  refine c_S1 (as := [_, _, _]) (st := []) dX9_danger_4 okX9_within lX9_80 ⟨rfl, rfl⟩ ⟨Nat.le_of_ble_eq_true rfl, Nat.le_of_ble_eq_true rfl⟩ rfl rfl (Nat.le_of_ble_eq_true rfl) (Nat.le_of_ble_eq_true rfl) (t_X9_within hn hF  rfl) ?_
  refine q_if_eq 20 dX9_danger_7 (by decide) (fun hc => ?_) (fun hc => ?_)
  · have h := q_it hc h
    refine q_bipush (v := (-101)) dX9_danger_20 (by decide) ?_
    cases h
    exact q_iret dX9_danger_22 rfl ⟨rfl, rfl⟩
  · have h := q_if hc h
    refine q_iload_n dX9_danger_10 rfl ?_
    refine q_iconst (v := 0) dX9_danger_11 (by decide) ?_
    refine q_bipush (v := 11) dX9_danger_12 (by decide) ?_
    refine c_S1 (as := [_, _, _]) (st := []) dX9_danger_14 okX9_within lX9_80 ⟨rfl, rfl⟩ ⟨Nat.le_of_ble_eq_true rfl, Nat.le_of_ble_eq_true rfl⟩ rfl rfl (Nat.le_of_ble_eq_true rfl) (Nat.le_of_ble_eq_true rfl) (t_X9_within hn hF  rfl) ?_
    refine q_if_ne 23 dX9_danger_17 (by decide) (fun hc => ?_) (fun hc => ?_)
    · have h := q_if hc h
      refine q_iload_n dX9_danger_23 rfl ?_
      refine q_iconst (v := (-1)) dX9_danger_24 (by decide) ?_
      refine q_bipush (v := 99) dX9_danger_25 (by decide) ?_
      refine c_S1 (as := [_, _, _]) (st := []) dX9_danger_27 okX9_within lX9_80 ⟨rfl, rfl⟩ ⟨Nat.le_of_ble_eq_true rfl, Nat.le_of_ble_eq_true rfl⟩ rfl rfl (Nat.le_of_ble_eq_true rfl) (Nat.le_of_ble_eq_true rfl) (t_X9_within hn hF  rfl) ?_
      refine q_if_ne 36 dX9_danger_30 (by decide) (fun hc => ?_) (fun hc => ?_)
      · have h := q_if hc h
        refine q_aload_n dX9_danger_36 rfl ?_
        refine u_getr dX9_danger_37 fX9_50 rfl rfl (Nat.lt_of_lt_of_le (Nat.le_of_ble_eq_true rfl) hn) (hF 0 7 33 rfl) ?_
        refine q_bipush (v := 12) dX9_danger_40 (by decide) ?_
        refine q_iload_n dX9_danger_42 rfl ?_
        refine q_imul dX9_danger_43 ?_
        refine q_iload_n dX9_danger_44 rfl ?_
        refine q_iadd dX9_danger_45 ?_
        obtain ⟨hi1, h⟩ := q_is h
        refine u_iald dX9_danger_46 rfl (Nat.lt_of_lt_of_le (Nat.le_of_ble_eq_true rfl) hn) (q_in_vp hi1) ?_
        refine q_istore (ls' := [(0, _), (1, _), (2, _), (3, _), (4, _)]) [0, 1, 2, 3, 4] dX9_danger_47 (Nat.le_of_ble_eq_true rfl) rfl ?_
        refine q_aload_n dX9_danger_49 rfl ?_
        refine u_getr dX9_danger_50 fX9_50 rfl rfl (Nat.lt_of_lt_of_le (Nat.le_of_ble_eq_true rfl) hn) (hF 0 7 33 rfl) ?_
        refine q_bipush (v := 12) dX9_danger_53 (by decide) ?_
        refine q_iload_n dX9_danger_55 rfl ?_
        refine q_imul dX9_danger_56 ?_
        refine q_iload_n dX9_danger_57 rfl ?_
        refine q_iadd dX9_danger_58 ?_
        refine q_iload_n dX9_danger_59 rfl ?_
        obtain ⟨hi2, h⟩ := q_is h
        refine u_iast dX9_danger_60 rfl (Nat.lt_of_lt_of_le (Nat.le_of_ble_eq_true rfl) hn) (q_in_vp hi2) ?_
        refine q_iload dX9_danger_61 rfl ?_
        cases h
        exact q_iret dX9_danger_63 rfl ⟨rfl, rfl⟩
      · have h := q_it hc h
        refine q_bipush (v := (-102)) dX9_danger_33 (by decide) ?_
        cases h
        exact q_iret dX9_danger_35 rfl ⟨rfl, rfl⟩
    · have h := q_it hc h
      refine q_bipush (v := (-101)) dX9_danger_20 (by decide) ?_
      cases h
      exact q_iret dX9_danger_22 rfl ⟨rfl, rfl⟩
def f_X9_isCell (x0 : Int32) (m : q_Mm) : (Int32) :=
  (f_X9_within x0 0 143 m)
set_option maxRecDepth 100000 in
set_option maxHeartbeats 4000000 in
theorem t_X9_isCell {g : q_G} {n : Nat} {F : Nat → Nat → Option Nat} (hn : 89 ≤ n) (hF : q_FF F)  {x0 : Int32} {m : q_Mm} {r : Int32} (h : f_X9_isCell x0 m = r) : q_Cn g mX9_isCell [.int x0] (q_mk n F m) (q_Q (some (.int r)) (q_mk n F m)) := by
  unfold f_X9_isCell at h
  show q_V g mX9_isCell q_T _ _ _ 0 [(0, .int x0)] [] (q_mk n F m)
  refine q_iload_n dX9_isCell_0 rfl ?_
  refine q_iconst (v := 0) dX9_isCell_1 (by decide) ?_
  refine q_sipush (v := 143) dX9_isCell_2 (by decide) ?_
  refine c_S1 (as := [_, _, _]) (st := []) dX9_isCell_5 okX9_within lX9_80 ⟨rfl, rfl⟩ ⟨Nat.le_of_ble_eq_true rfl, Nat.le_of_ble_eq_true rfl⟩ rfl rfl (Nat.le_of_ble_eq_true rfl) (Nat.le_of_ble_eq_true rfl) (t_X9_within hn hF  rfl) ?_
  subst h
  exact q_zret dX9_isCell_8 rfl (q_bo_n (b_X9_within ..)) ⟨rfl, rfl⟩
theorem b_X9_isCell {x0 : Int32} {m : q_Mm} : q_bo (f_X9_isCell x0 m) := by
  unfold f_X9_isCell
  repeat' split
  all_goals first | exact Or.inl rfl | exact Or.inr rfl | exact b_X9_within
def f_X9_isVoyage (x0 : Int32) (x1 : Int32) (m : q_Mm) : (Int32) :=
  if (f_X9_within x0 0 40 m) = 0 then
    0
  else
    if (f_X9_within x1 0 40 m) = 0 then
      0
    else
      1
set_option maxRecDepth 100000 in
set_option maxHeartbeats 4000000 in
theorem t_X9_isVoyage {g : q_G} {n : Nat} {F : Nat → Nat → Option Nat} (hn : 89 ≤ n) (hF : q_FF F)  {x0 : Int32} {x1 : Int32} {m : q_Mm} {r : Int32} (h : f_X9_isVoyage x0 x1 m = r) : q_Cn g mX9_isVoyage [.int x0, .int x1] (q_mk n F m) (q_Q (some (.int r)) (q_mk n F m)) := by
  unfold f_X9_isVoyage at h
  show q_V g mX9_isVoyage q_T _ _ _ 0 [(0, .int x0), (1, .int x1)] [] (q_mk n F m)
  refine q_iload_n dX9_isVoyage_0 rfl ?_
  refine q_iconst (v := 0) dX9_isVoyage_1 (by decide) ?_
  refine q_bipush (v := 40) dX9_isVoyage_2 (by decide) ?_
  refine c_S1 (as := [_, _, _]) (st := []) dX9_isVoyage_4 okX9_within lX9_80 ⟨rfl, rfl⟩ ⟨Nat.le_of_ble_eq_true rfl, Nat.le_of_ble_eq_true rfl⟩ rfl rfl (Nat.le_of_ble_eq_true rfl) (Nat.le_of_ble_eq_true rfl) (t_X9_within hn hF  rfl) ?_
  refine q_if_eq 24 dX9_isVoyage_7 (by decide) (fun hc => ?_) (fun hc => ?_)
  · have h := q_it hc h
    refine q_iconst (v := 0) dX9_isVoyage_24 (by decide) ?_
    subst h
    exact q_zret dX9_isVoyage_25 rfl rfl ⟨rfl, rfl⟩
  · have h := q_if hc h
    refine q_iload_n dX9_isVoyage_10 rfl ?_
    refine q_iconst (v := 0) dX9_isVoyage_11 (by decide) ?_
    refine q_bipush (v := 40) dX9_isVoyage_12 (by decide) ?_
    refine c_S1 (as := [_, _, _]) (st := []) dX9_isVoyage_14 okX9_within lX9_80 ⟨rfl, rfl⟩ ⟨Nat.le_of_ble_eq_true rfl, Nat.le_of_ble_eq_true rfl⟩ rfl rfl (Nat.le_of_ble_eq_true rfl) (Nat.le_of_ble_eq_true rfl) (t_X9_within hn hF  rfl) ?_
    refine q_if_eq 24 dX9_isVoyage_17 (by decide) (fun hc => ?_) (fun hc => ?_)
    · have h := q_it hc h
      refine q_iconst (v := 0) dX9_isVoyage_24 (by decide) ?_
      subst h
      exact q_zret dX9_isVoyage_25 rfl rfl ⟨rfl, rfl⟩
    · have h := q_if hc h
      refine q_iconst (v := 1) dX9_isVoyage_20 (by decide) ?_
      refine q_goto 25 dX9_isVoyage_21 (by decide) ?_
      subst h
      exact q_zret dX9_isVoyage_25 rfl rfl ⟨rfl, rfl⟩
theorem b_X9_isVoyage {x0 : Int32} {x1 : Int32} {m : q_Mm} : q_bo (f_X9_isVoyage x0 x1 m) := by
  unfold f_X9_isVoyage
  repeat' split
  all_goals first | exact Or.inl rfl | exact Or.inr rfl | exact b_X9_within
def f_X9_cell (x1 : Int32) (x2 : Int32) (m : q_Mm) : Option (Int32) :=
  if (f_X9_within x1 0 1 m) = 0 then
    some ((-2))
  else
    if (f_X9_within x2 (-2) 40 m) = 0 then
      some ((-2))
    else
      if x1 = 0 then
        if (m.1 34 0) = 0 then
          some ((-6))
        else
          if x2 = (-1) then
            some (m.1 34 2)
          else
            if x2 = (-2) then
              some (m.1 34 3)
            else
              (f_X8_cellOn 34 x2 m).bind fun r3 =>
              some (r3)
      else
        if (m.1 36 0) = 0 then
          some ((-6))
        else
          if x2 = (-1) then
            some (m.1 36 2)
          else
            if x2 = (-2) then
              some (m.1 36 3)
            else
              (f_X8_cellOn 36 x2 m).bind fun r1 =>
              some (r1)
set_option maxRecDepth 100000 in
set_option maxHeartbeats 4000000 in
theorem t_X9_cell {g : q_G} {n : Nat} {F : Nat → Nat → Option Nat} (hn : 89 ≤ n) (hF : q_FF F)  {x1 : Int32} {x2 : Int32} {m : q_Mm} {r : Int32} (h : f_X9_cell x1 x2 m = some r) : q_Cn g mX9_cell [q_r g 0, .int x1, .int x2] (q_mk n F m) (q_Q (some (.int r)) (q_mk n F m)) := by
  unfold f_X9_cell at h
  show q_V g mX9_cell q_T _ _ _ 0 [(0, q_r g 0), (1, .int x1), (2, .int x2)] [] (q_mk n F m)
  refine q_iload_n dX9_cell_0 rfl ?_
  refine q_iconst (v := 0) dX9_cell_1 (by decide) ?_
  refine q_iconst (v := 1) dX9_cell_2 (by decide) ?_
  refine c_S1 (as := [_, _, _]) (st := []) dX9_cell_3 okX9_within lX9_80 ⟨rfl, rfl⟩ ⟨Nat.le_of_ble_eq_true rfl, Nat.le_of_ble_eq_true rfl⟩ rfl rfl (Nat.le_of_ble_eq_true rfl) (Nat.le_of_ble_eq_true rfl) (t_X9_within hn hF  rfl) ?_
  refine q_if_eq 20 dX9_cell_6 (by decide) (fun hc => ?_) (fun hc => ?_)
  · have h := q_it hc h
    refine q_bipush (v := (-2)) dX9_cell_20 (by decide) ?_
    cases h
    exact q_iret dX9_cell_22 rfl ⟨rfl, rfl⟩
  · have h := q_if hc h
    refine q_iload_n dX9_cell_9 rfl ?_
    refine q_bipush (v := (-2)) dX9_cell_10 (by decide) ?_
    refine q_bipush (v := 40) dX9_cell_12 (by decide) ?_
    refine c_S1 (as := [_, _, _]) (st := []) dX9_cell_14 okX9_within lX9_80 ⟨rfl, rfl⟩ ⟨Nat.le_of_ble_eq_true rfl, Nat.le_of_ble_eq_true rfl⟩ rfl rfl (Nat.le_of_ble_eq_true rfl) (Nat.le_of_ble_eq_true rfl) (t_X9_within hn hF  rfl) ?_
    refine q_if_ne 23 dX9_cell_17 (by decide) (fun hc => ?_) (fun hc => ?_)
    · have h := q_if hc h
      refine q_iload_n dX9_cell_23 rfl ?_
      refine q_if_ne 34 dX9_cell_24 (by decide) (fun hc => ?_) (fun hc => ?_)
      · have h := q_if hc h
        refine q_aload_n dX9_cell_34 rfl ?_
        refine u_getr dX9_cell_35 fX9_61 rfl rfl (Nat.lt_of_lt_of_le (Nat.le_of_ble_eq_true rfl) hn) (hF 0 9 36 rfl) ?_
        refine q_astore_n (ls' := [(2, _), (3, _)]) [2, 3] dX9_cell_38 (Nat.le_of_ble_eq_true rfl) rfl ?_
        refine q_aload_n dX9_cell_39 rfl ?_
        refine u_geti dX9_cell_40 fX9_272 rfl rfl (Nat.lt_of_lt_of_le (Nat.le_of_ble_eq_true rfl) hn) ?_
        refine q_if_ne 49 dX9_cell_43 (by decide) (fun hc => ?_) (fun hc => ?_)
        · have h := q_if hc h
          refine q_iload_n dX9_cell_49 rfl ?_
          refine q_iconst (v := (-1)) dX9_cell_50 (by decide) ?_
          refine q_icmp_ne 59 dX9_cell_51 (by decide) (fun hc => ?_) (fun hc => ?_)
          · have h := q_if hc h
            refine q_iload_n dX9_cell_59 rfl ?_
            refine q_bipush (v := (-2)) dX9_cell_60 (by decide) ?_
            refine q_icmp_ne 72 dX9_cell_62 (by decide) (fun hc => ?_) (fun hc => ?_)
            · have h := q_if hc h
              refine q_aload_n dX9_cell_72 rfl ?_
              refine q_iload_n dX9_cell_73 rfl ?_
              obtain ⟨r1, hr2, h⟩ := q_bd h
              refine c_V1 (as := [_]) (st := []) (ci := 8) dX9_cell_74 okX8_cellOn lX9_286 ⟨rfl, rfl⟩ ⟨Nat.le_of_ble_eq_true rfl, Nat.le_of_ble_eq_true rfl⟩ (by decide) rfl rfl (Nat.lt_of_lt_of_le (Nat.le_of_ble_eq_true rfl) hn) rfl rfl (Nat.le_of_ble_eq_true rfl) (Nat.le_of_ble_eq_true rfl) (t_X8_cellOn hn hF q_is36 hr2) ?_
              cases h
              exact q_iret dX9_cell_77 rfl ⟨rfl, rfl⟩
            · have h := q_it hc h
              refine q_aload_n dX9_cell_65 rfl ?_
              refine u_geti dX9_cell_66 fX9_283 rfl rfl (Nat.lt_of_lt_of_le (Nat.le_of_ble_eq_true rfl) hn) ?_
              refine q_goto 77 dX9_cell_69 (by decide) ?_
              cases h
              exact q_iret dX9_cell_77 rfl ⟨rfl, rfl⟩
          · have h := q_it hc h
            refine q_aload_n dX9_cell_54 rfl ?_
            refine u_geti dX9_cell_55 fX9_280 rfl rfl (Nat.lt_of_lt_of_le (Nat.le_of_ble_eq_true rfl) hn) ?_
            cases h
            exact q_iret dX9_cell_58 rfl ⟨rfl, rfl⟩
        · have h := q_it hc h
          refine q_bipush (v := (-6)) dX9_cell_46 (by decide) ?_
          cases h
          exact q_iret dX9_cell_48 rfl ⟨rfl, rfl⟩
      · have h := q_it hc h
        refine q_aload_n dX9_cell_27 rfl ?_
        refine u_getr dX9_cell_28 fX9_57 rfl rfl (Nat.lt_of_lt_of_le (Nat.le_of_ble_eq_true rfl) hn) (hF 0 8 34 rfl) ?_
        refine q_goto 38 dX9_cell_31 (by decide) ?_
        refine q_astore_n (ls' := [(2, _), (3, _)]) [2, 3] dX9_cell_38 (Nat.le_of_ble_eq_true rfl) rfl ?_
        refine q_aload_n dX9_cell_39 rfl ?_
        refine u_geti dX9_cell_40 fX9_272 rfl rfl (Nat.lt_of_lt_of_le (Nat.le_of_ble_eq_true rfl) hn) ?_
        refine q_if_ne 49 dX9_cell_43 (by decide) (fun hc => ?_) (fun hc => ?_)
        · have h := q_if hc h
          refine q_iload_n dX9_cell_49 rfl ?_
          refine q_iconst (v := (-1)) dX9_cell_50 (by decide) ?_
          refine q_icmp_ne 59 dX9_cell_51 (by decide) (fun hc => ?_) (fun hc => ?_)
          · have h := q_if hc h
            refine q_iload_n dX9_cell_59 rfl ?_
            refine q_bipush (v := (-2)) dX9_cell_60 (by decide) ?_
            refine q_icmp_ne 72 dX9_cell_62 (by decide) (fun hc => ?_) (fun hc => ?_)
            · have h := q_if hc h
              refine q_aload_n dX9_cell_72 rfl ?_
              refine q_iload_n dX9_cell_73 rfl ?_
              obtain ⟨r3, hr4, h⟩ := q_bd h
              refine c_V1 (as := [_]) (st := []) (ci := 8) dX9_cell_74 okX8_cellOn lX9_286 ⟨rfl, rfl⟩ ⟨Nat.le_of_ble_eq_true rfl, Nat.le_of_ble_eq_true rfl⟩ (by decide) rfl rfl (Nat.lt_of_lt_of_le (Nat.le_of_ble_eq_true rfl) hn) rfl rfl (Nat.le_of_ble_eq_true rfl) (Nat.le_of_ble_eq_true rfl) (t_X8_cellOn hn hF q_is34 hr4) ?_
              cases h
              exact q_iret dX9_cell_77 rfl ⟨rfl, rfl⟩
            · have h := q_it hc h
              refine q_aload_n dX9_cell_65 rfl ?_
              refine u_geti dX9_cell_66 fX9_283 rfl rfl (Nat.lt_of_lt_of_le (Nat.le_of_ble_eq_true rfl) hn) ?_
              refine q_goto 77 dX9_cell_69 (by decide) ?_
              cases h
              exact q_iret dX9_cell_77 rfl ⟨rfl, rfl⟩
          · have h := q_it hc h
            refine q_aload_n dX9_cell_54 rfl ?_
            refine u_geti dX9_cell_55 fX9_280 rfl rfl (Nat.lt_of_lt_of_le (Nat.le_of_ble_eq_true rfl) hn) ?_
            cases h
            exact q_iret dX9_cell_58 rfl ⟨rfl, rfl⟩
        · have h := q_it hc h
          refine q_bipush (v := (-6)) dX9_cell_46 (by decide) ?_
          cases h
          exact q_iret dX9_cell_48 rfl ⟨rfl, rfl⟩
    · have h := q_it hc h
      refine q_bipush (v := (-2)) dX9_cell_20 (by decide) ?_
      cases h
      exact q_iret dX9_cell_22 rfl ⟨rfl, rfl⟩
def f_X9_sight (x1 : Int32) (x2 : Int32) (x3 : Int32) (m : q_Mm) : Option (Int32 × q_Mm) :=
  if (f_X9_within x1 0 600 m) = 0 then
    some (((-2), m))
  else
    if (f_X9_within x2 (-10000000) 10000000 m) = 0 then
      some (((-2), m))
    else
      if (f_X9_within x3 (-10000000) 10000000 m) = 0 then
        some (((-2), m))
      else
        if (m.1 38 3) < 12 then
          (f_X2_add x1 x2 x3 m).bind fun r1 =>
          some ((r1.1 38 3, r1))
        else
          some (((-4), m))
set_option maxRecDepth 100000 in
set_option maxHeartbeats 4000000 in
theorem t_X9_sight {g : q_G} {n : Nat} {F : Nat → Nat → Option Nat} (hn : 89 ≤ n) (hF : q_FF F)  {x1 : Int32} {x2 : Int32} {x3 : Int32} {m : q_Mm} {r : Int32 × q_Mm} (h : f_X9_sight x1 x2 x3 m = some r) : q_Cn g mX9_sight [q_r g 0, .int x1, .int x2, .int x3] (q_mk n F m) (q_Q (some (.int r.1)) (q_mk n F r.2)) := by
  unfold f_X9_sight at h
  show q_V g mX9_sight q_T _ _ _ 0 [(0, q_r g 0), (1, .int x1), (2, .int x2), (3, .int x3)] [] (q_mk n F m)
  refine q_iload_n dX9_sight_0 rfl ?_
  refine q_iconst (v := 0) dX9_sight_1 (by decide) ?_
  refine q_sipush (v := 600) dX9_sight_2 (by decide) ?_
  refine c_S1 (as := [_, _, _]) (st := []) dX9_sight_5 okX9_within lX9_80 ⟨rfl, rfl⟩ ⟨Nat.le_of_ble_eq_true rfl, Nat.le_of_ble_eq_true rfl⟩ rfl rfl (Nat.le_of_ble_eq_true rfl) (Nat.le_of_ble_eq_true rfl) (t_X9_within hn hF  rfl) ?_
  refine q_if_eq 37 dX9_sight_8 (by decide) (fun hc => ?_) (fun hc => ?_)
  · have h := q_it hc h
    refine q_bipush (v := (-2)) dX9_sight_37 (by decide) ?_
    cases h
    exact q_iret dX9_sight_39 rfl ⟨rfl, rfl⟩
  · have h := q_if hc h
    refine q_iload_n dX9_sight_11 rfl ?_
    refine q_ldcw dX9_sight_12 kX9_292 ?_
    refine q_ldcw dX9_sight_15 kX9_293 ?_
    refine c_S1 (as := [_, _, _]) (st := []) dX9_sight_18 okX9_within lX9_80 ⟨rfl, rfl⟩ ⟨Nat.le_of_ble_eq_true rfl, Nat.le_of_ble_eq_true rfl⟩ rfl rfl (Nat.le_of_ble_eq_true rfl) (Nat.le_of_ble_eq_true rfl) (t_X9_within hn hF  rfl) ?_
    refine q_if_eq 37 dX9_sight_21 (by decide) (fun hc => ?_) (fun hc => ?_)
    · have h := q_it hc h
      refine q_bipush (v := (-2)) dX9_sight_37 (by decide) ?_
      cases h
      exact q_iret dX9_sight_39 rfl ⟨rfl, rfl⟩
    · have h := q_if hc h
      refine q_iload_n dX9_sight_24 rfl ?_
      refine q_ldcw dX9_sight_25 kX9_292 ?_
      refine q_ldcw dX9_sight_28 kX9_293 ?_
      refine c_S1 (as := [_, _, _]) (st := []) dX9_sight_31 okX9_within lX9_80 ⟨rfl, rfl⟩ ⟨Nat.le_of_ble_eq_true rfl, Nat.le_of_ble_eq_true rfl⟩ rfl rfl (Nat.le_of_ble_eq_true rfl) (Nat.le_of_ble_eq_true rfl) (t_X9_within hn hF  rfl) ?_
      refine q_if_ne 40 dX9_sight_34 (by decide) (fun hc => ?_) (fun hc => ?_)
      · have h := q_if hc h
        refine q_aload_n dX9_sight_40 rfl ?_
        refine u_getr dX9_sight_41 fX9_71 rfl rfl (Nat.lt_of_lt_of_le (Nat.le_of_ble_eq_true rfl) hn) (hF 0 11 38 rfl) ?_
        refine u_geti dX9_sight_44 fX9_294 rfl rfl (Nat.lt_of_lt_of_le (Nat.le_of_ble_eq_true rfl) hn) ?_
        refine q_bipush (v := 12) dX9_sight_47 (by decide) ?_
        refine q_icmp_lt 55 dX9_sight_49 (by decide) (fun hc => ?_) (fun hc => ?_)
        · have h := q_it hc h
          refine q_aload_n dX9_sight_55 rfl ?_
          refine u_getr dX9_sight_56 fX9_71 rfl rfl (Nat.lt_of_lt_of_le (Nat.le_of_ble_eq_true rfl) hn) (hF 0 11 38 rfl) ?_
          refine q_iload_n dX9_sight_59 rfl ?_
          refine q_iload_n dX9_sight_60 rfl ?_
          refine q_iload_n dX9_sight_61 rfl ?_
          obtain ⟨r1, hr2, h⟩ := q_bd h
          refine c_V0 (as := [_, _, _]) (st := []) (ci := 2) dX9_sight_62 okX2_add lX9_295 ⟨rfl, rfl⟩ ⟨Nat.le_of_ble_eq_true rfl, Nat.le_of_ble_eq_true rfl⟩ (by decide) rfl rfl (Nat.lt_of_lt_of_le (Nat.le_of_ble_eq_true rfl) hn) rfl rfl (Nat.le_of_ble_eq_true rfl) (Nat.le_of_ble_eq_true rfl) (t_X2_add hn hF  hr2) ?_
          refine q_aload_n dX9_sight_65 rfl ?_
          refine u_getr dX9_sight_66 fX9_71 rfl rfl (Nat.lt_of_lt_of_le (Nat.le_of_ble_eq_true rfl) hn) (hF 0 11 38 rfl) ?_
          refine u_geti dX9_sight_69 fX9_294 rfl rfl (Nat.lt_of_lt_of_le (Nat.le_of_ble_eq_true rfl) hn) ?_
          cases h
          exact q_iret dX9_sight_72 rfl ⟨rfl, rfl⟩
        · have h := q_if hc h
          refine q_bipush (v := (-4)) dX9_sight_52 (by decide) ?_
          cases h
          exact q_iret dX9_sight_54 rfl ⟨rfl, rfl⟩
      · have h := q_it hc h
        refine q_bipush (v := (-2)) dX9_sight_37 (by decide) ?_
        cases h
        exact q_iret dX9_sight_39 rfl ⟨rfl, rfl⟩
def f_X9_forget  (m : q_Mm) : (Int32 × q_Mm) :=
  (m.1 38 3, q_wi m 38 3 0)
set_option maxRecDepth 100000 in
set_option maxHeartbeats 4000000 in
theorem t_X9_forget {g : q_G} {n : Nat} {F : Nat → Nat → Option Nat} (hn : 89 ≤ n) (hF : q_FF F)   {m : q_Mm} {r : Int32 × q_Mm} (h : f_X9_forget  m = r) : q_Cn g mX9_forget [q_r g 0] (q_mk n F m) (q_Q (some (.int r.1)) (q_mk n F r.2)) := by
  unfold f_X9_forget at h
  show q_V g mX9_forget q_T _ _ _ 0 [(0, q_r g 0)] [] (q_mk n F m)
  refine q_aload_n dX9_forget_0 rfl ?_
  refine u_getr dX9_forget_1 fX9_71 rfl rfl (Nat.lt_of_lt_of_le (Nat.le_of_ble_eq_true rfl) hn) (hF 0 11 38 rfl) ?_
  refine u_geti dX9_forget_4 fX9_294 rfl rfl (Nat.lt_of_lt_of_le (Nat.le_of_ble_eq_true rfl) hn) ?_
  refine q_istore_n (ls' := [(0, _), (1, _)]) [0, 1] dX9_forget_7 (Nat.le_of_ble_eq_true rfl) rfl ?_
  refine q_aload_n dX9_forget_8 rfl ?_
  refine u_getr dX9_forget_9 fX9_71 rfl rfl (Nat.lt_of_lt_of_le (Nat.le_of_ble_eq_true rfl) hn) (hF 0 11 38 rfl) ?_
  refine q_iconst (v := 0) dX9_forget_12 (by decide) ?_
  refine u_puti dX9_forget_13 fX9_294 rfl rfl (Nat.lt_of_lt_of_le (Nat.le_of_ble_eq_true rfl) hn) rfl rfl rfl ?_
  refine q_iload_n dX9_forget_16 rfl ?_
  subst h
  exact q_iret dX9_forget_17 rfl ⟨rfl, rfl⟩
def f_X9_told (x1 : Int32) (x2 : Int32) (x3 : Int32) (x4 : Int32) (m : q_Mm) : Option (Int64 × q_Mm) :=
  if (f_X9_isStart x1 x2 x3 m) = 0 then
    some (((-1000000000002), m))
  else
    if (f_X9_within x4 0 3 m) = 0 then
      some (((-1000000000002), m))
    else
      if (m.1 38 3) = 0 then
        some (((-1000000000003), m))
      else
        if q_in ((f_X7_set 42 x1 x2 x3 0 m).1 0 1) 4 = true then
        (f_X2_explain (46 + 3 * ((f_X7_set 42 x1 x2 x3 0 m).1 0 1).toNatClampNeg) (f_X7_set 42 x1 x2 x3 0 m)).bind fun r2 =>
        if x4 = 0 then
          some ((r2.2 38 7, r2))
        else
        if x4 = 1 then
          some (((r2.1 38 8).toInt64, r2))
        else
        if x4 = 2 then
          some (((r2.1 38 9).toInt64, r2))
        else
        some (((r2.1 38 10).toInt64, r2))
        else none
set_option maxRecDepth 100000 in
set_option maxHeartbeats 4000000 in
theorem t_X9_told {g : q_G} {n : Nat} {F : Nat → Nat → Option Nat} (hn : 89 ≤ n) (hF : q_FF F)  {x1 : Int32} {x2 : Int32} {x3 : Int32} {x4 : Int32} {m : q_Mm} {r : Int64 × q_Mm} (h : f_X9_told x1 x2 x3 x4 m = some r) : q_Cn g mX9_told [q_r g 0, .int x1, .int x2, .int x3, .int x4] (q_mk n F m) (q_Q (some (.long r.1)) (q_mk n F r.2)) := by
  unfold f_X9_told at h
  show q_V g mX9_told q_T _ _ _ 0 [(0, q_r g 0), (1, .int x1), (2, .int x2), (3, .int x3), (4, .int x4)] [] (q_mk n F m)
  refine q_iload_n dX9_told_0 rfl ?_
  refine q_iload_n dX9_told_1 rfl ?_
  refine q_iload_n dX9_told_2 rfl ?_
  refine c_S1 (as := [_, _, _]) (st := []) dX9_told_3 okX9_isStart lX9_113 ⟨rfl, rfl⟩ ⟨Nat.le_of_ble_eq_true rfl, Nat.le_of_ble_eq_true rfl⟩ rfl rfl (Nat.le_of_ble_eq_true rfl) (Nat.le_of_ble_eq_true rfl) (t_X9_isStart hn hF  rfl) ?_
  refine q_if_eq 19 dX9_told_6 (by decide) (fun hc => ?_) (fun hc => ?_)
  · have h := q_it hc h
    refine q_ldc2 dX9_told_19 kX9_107 ?_
    cases h
    exact q_lret dX9_told_22 rfl ⟨rfl, rfl⟩
  · have h := q_if hc h
    refine q_iload dX9_told_9 rfl ?_
    refine q_iconst (v := 0) dX9_told_11 (by decide) ?_
    refine q_iconst (v := 3) dX9_told_12 (by decide) ?_
    refine c_S1 (as := [_, _, _]) (st := []) dX9_told_13 okX9_within lX9_80 ⟨rfl, rfl⟩ ⟨Nat.le_of_ble_eq_true rfl, Nat.le_of_ble_eq_true rfl⟩ rfl rfl (Nat.le_of_ble_eq_true rfl) (Nat.le_of_ble_eq_true rfl) (t_X9_within hn hF  rfl) ?_
    refine q_if_ne 23 dX9_told_16 (by decide) (fun hc => ?_) (fun hc => ?_)
    · have h := q_if hc h
      refine q_aload_n dX9_told_23 rfl ?_
      refine u_getr dX9_told_24 fX9_71 rfl rfl (Nat.lt_of_lt_of_le (Nat.le_of_ble_eq_true rfl) hn) (hF 0 11 38 rfl) ?_
      refine u_geti dX9_told_27 fX9_294 rfl rfl (Nat.lt_of_lt_of_le (Nat.le_of_ble_eq_true rfl) hn) ?_
      refine q_if_ne 37 dX9_told_30 (by decide) (fun hc => ?_) (fun hc => ?_)
      · have h := q_if hc h
        refine q_aload_n dX9_told_37 rfl ?_
        refine u_getr dX9_told_38 fX9_71 rfl rfl (Nat.lt_of_lt_of_le (Nat.le_of_ble_eq_true rfl) hn) (hF 0 11 38 rfl) ?_
        refine u_getr dX9_told_41 fX9_296 rfl rfl (Nat.lt_of_lt_of_le (Nat.le_of_ble_eq_true rfl) hn) (hF 38 4 42 rfl) ?_
        refine q_iload_n dX9_told_44 rfl ?_
        refine q_iload_n dX9_told_45 rfl ?_
        refine q_iload_n dX9_told_46 rfl ?_
        refine q_iconst (v := 0) dX9_told_47 (by decide) ?_
        refine c_V0 (as := [_, _, _, _]) (st := []) (ci := 7) dX9_told_48 okX7_set lX9_121 ⟨rfl, rfl⟩ ⟨Nat.le_of_ble_eq_true rfl, Nat.le_of_ble_eq_true rfl⟩ (by decide) rfl rfl (Nat.lt_of_lt_of_le (Nat.le_of_ble_eq_true rfl) hn) rfl rfl (Nat.le_of_ble_eq_true rfl) (Nat.le_of_ble_eq_true rfl) (t_X7_set hn hF q_is42 rfl) ?_
        refine q_aload_n dX9_told_51 rfl ?_
        refine u_getr dX9_told_52 fX9_71 rfl rfl (Nat.lt_of_lt_of_le (Nat.le_of_ble_eq_true rfl) hn) (hF 0 11 38 rfl) ?_
        refine q_aload_n dX9_told_55 rfl ?_
        refine u_getr dX9_told_56 fX9_11 rfl rfl (Nat.lt_of_lt_of_le (Nat.le_of_ble_eq_true rfl) hn) (hF 0 0 1 rfl) ?_
        refine q_aload_n dX9_told_59 rfl ?_
        refine u_geti dX9_told_60 fX9_15 rfl rfl (Nat.lt_of_lt_of_le (Nat.le_of_ble_eq_true rfl) hn) ?_
        obtain ⟨hi1, h⟩ := q_is h
        refine u_aald dX9_told_63 (Or.inl rfl) (Nat.lt_of_lt_of_le (Nat.le_of_ble_eq_true rfl) hn) (q_in_vp hi1) (q_at_planF hF hi1) ?_
        refine q_aload_n dX9_told_64 rfl ?_
        refine u_getr dX9_told_65 fX9_22 rfl rfl (Nat.lt_of_lt_of_le (Nat.le_of_ble_eq_true rfl) hn) (hF 0 2 2 rfl) ?_
        obtain ⟨r2, hr3, h⟩ := q_bd h
        refine c_V0 (as := [_, _]) (st := []) (ci := 2) dX9_told_68 okX2_explain lX9_300 ⟨rfl, rfl⟩ ⟨Nat.le_of_ble_eq_true rfl, Nat.le_of_ble_eq_true rfl⟩ (by decide) rfl rfl (Nat.lt_of_lt_of_le (Nat.le_of_ble_eq_true rfl) hn) rfl rfl (Nat.le_of_ble_eq_true rfl) (Nat.le_of_ble_eq_true rfl) (t_X2_explain hn hF (q_at_plan hi1) hr3) ?_
        refine q_iload dX9_told_71 rfl ?_
        by_cases hs73_0 : x4 = 0
        · have h := q_it hs73_0 h
          rw [hs73_0]
          refine q_tblIn 100 dX9_told_73 (by decide) (by decide) rfl (by decide) ?_
          refine q_aload_n dX9_told_100 rfl ?_
          refine u_getr dX9_told_101 fX9_71 rfl rfl (Nat.lt_of_lt_of_le (Nat.le_of_ble_eq_true rfl) hn) (hF 0 11 38 rfl) ?_
          refine u_getl dX9_told_104 fX9_304 rfl rfl (Nat.lt_of_lt_of_le (Nat.le_of_ble_eq_true rfl) hn) ?_
          cases h
          exact q_lret dX9_told_107 rfl ⟨rfl, rfl⟩
        have h := q_if hs73_0 h
        by_cases hs73_1 : x4 = 1
        · have h := q_it hs73_1 h
          rw [hs73_1]
          refine q_tblIn 108 dX9_told_73 (by decide) (by decide) rfl (by decide) ?_
          refine q_aload_n dX9_told_108 rfl ?_
          refine u_getr dX9_told_109 fX9_71 rfl rfl (Nat.lt_of_lt_of_le (Nat.le_of_ble_eq_true rfl) hn) (hF 0 11 38 rfl) ?_
          refine u_geti dX9_told_112 fX9_307 rfl rfl (Nat.lt_of_lt_of_le (Nat.le_of_ble_eq_true rfl) hn) ?_
          refine q_i2l dX9_told_115 ?_
          cases h
          exact q_lret dX9_told_116 rfl ⟨rfl, rfl⟩
        have h := q_if hs73_1 h
        by_cases hs73_2 : x4 = 2
        · have h := q_it hs73_2 h
          rw [hs73_2]
          refine q_tblIn 117 dX9_told_73 (by decide) (by decide) rfl (by decide) ?_
          refine q_aload_n dX9_told_117 rfl ?_
          refine u_getr dX9_told_118 fX9_71 rfl rfl (Nat.lt_of_lt_of_le (Nat.le_of_ble_eq_true rfl) hn) (hF 0 11 38 rfl) ?_
          refine u_geti dX9_told_121 fX9_310 rfl rfl (Nat.lt_of_lt_of_le (Nat.le_of_ble_eq_true rfl) hn) ?_
          refine q_i2l dX9_told_124 ?_
          cases h
          exact q_lret dX9_told_125 rfl ⟨rfl, rfl⟩
        have h := q_if hs73_2 h
        refine q_tblOut 126 dX9_told_73 (q_out 3 (by decide) (fun k hk => ?_)) (by decide) ?_
        · match k, hk with
          | 0, _ => exact hs73_0
          | 1, _ => exact hs73_1
          | 2, _ => exact hs73_2
          | k + 3, hk => exact absurd hk (by omega)
        refine q_aload_n dX9_told_126 rfl ?_
        refine u_getr dX9_told_127 fX9_71 rfl rfl (Nat.lt_of_lt_of_le (Nat.le_of_ble_eq_true rfl) hn) (hF 0 11 38 rfl) ?_
        refine u_geti dX9_told_130 fX9_313 rfl rfl (Nat.lt_of_lt_of_le (Nat.le_of_ble_eq_true rfl) hn) ?_
        refine q_i2l dX9_told_133 ?_
        cases h
        exact q_lret dX9_told_134 rfl ⟨rfl, rfl⟩
      · have h := q_it hc h
        refine q_ldc2 dX9_told_33 kX9_156 ?_
        cases h
        exact q_lret dX9_told_36 rfl ⟨rfl, rfl⟩
    · have h := q_it hc h
      refine q_ldc2 dX9_told_19 kX9_107 ?_
      cases h
      exact q_lret dX9_told_22 rfl ⟨rfl, rfl⟩
def l_X9_landCells_4 : Nat → Int32 → Int32 → q_Mm → Option (Int32)
  | 0, _, _, _ => none
  | k + 1, y1, y2, m =>
    if 144 ≤ y2 then
      some (y1)
    else
      if q_in y2 144 = true then
      if (m.1 33 y2.toNatClampNeg) = (-1) then
        l_X9_landCells_4 k  (y1 + 1) (y2 + 1) m
      else
        l_X9_landCells_4 k  y1 (y2 + 1) m
      else none
set_option maxRecDepth 100000 in
set_option maxHeartbeats 4000000 in
theorem t_l_X9_landCells_4 {g : q_G} {n : Nat} {F : Nat → Nat → Option Nat} {Z : List Frame → Array Value → State → State → Prop} {kc ks : Nat} (hn : 89 ≤ n) (hF : q_FF F)  : ∀ (k : Nat) (y1 : Int32) (y2 : Int32) (m : q_Mm) {r : Int32}, l_X9_landCells_4 k y1 y2 m = some r → (q_V g mX9_landCells q_T Z kc ks 30 [(1, .int r)] [] (q_mk n F m)) → q_V g mX9_landCells q_T Z kc ks 4 [(0, q_r g 0), (1, .int y1), (2, .int y2)] [] (q_mk n F m) := by
  intro k
  induction k with
  | zero => intro y1 y2 m r h; cases h
  | succ k ih =>
    intro y1 y2 m r h hx0
    unfold l_X9_landCells_4 at h
    refine q_iload_n dX9_landCells_4 rfl ?_
    refine q_sipush (v := 144) dX9_landCells_5 (by decide) ?_
    refine q_icmp_ge 30 dX9_landCells_8 (by decide) (fun hc => ?_) (fun hc => ?_)
    · have h := q_it hc h
      refine q_drop [1] (ls' := [(1, _)]) rfl ?_
      cases h
      exact hx0
    · have h := q_if hc h
      refine q_aload_n dX9_landCells_11 rfl ?_
      refine u_getr dX9_landCells_12 fX9_50 rfl rfl (Nat.lt_of_lt_of_le (Nat.le_of_ble_eq_true rfl) hn) (hF 0 7 33 rfl) ?_
      refine q_iload_n dX9_landCells_15 rfl ?_
      obtain ⟨hi1, h⟩ := q_is h
      refine u_iald dX9_landCells_16 rfl (Nat.lt_of_lt_of_le (Nat.le_of_ble_eq_true rfl) hn) (q_in_vp hi1) ?_
      refine q_iconst (v := (-1)) dX9_landCells_17 (by decide) ?_
      refine q_icmp_ne 24 dX9_landCells_18 (by decide) (fun hc => ?_) (fun hc => ?_)
      · have h := q_if hc h
        refine q_iinc1 (w := 1) (ls' := [(0, _), (1, _), (2, _)]) [0, 1, 2] dX9_landCells_24 rfl (by decide) (Nat.le_of_ble_eq_true rfl) rfl ?_
        refine q_goto 4 dX9_landCells_27 (by decide) ?_
        exact ih _ _ _ h hx0
      · have h := q_it hc h
        refine q_iinc1 (w := 1) (ls' := [(0, _), (1, _), (2, _)]) [0, 1, 2] dX9_landCells_21 rfl (by decide) (Nat.le_of_ble_eq_true rfl) rfl ?_
        refine q_iinc1 (w := 1) (ls' := [(0, _), (1, _), (2, _)]) [0, 1, 2] dX9_landCells_24 rfl (by decide) (Nat.le_of_ble_eq_true rfl) rfl ?_
        refine q_goto 4 dX9_landCells_27 (by decide) ?_
        exact ih _ _ _ h hx0
def f_X9_landCells  (m : q_Mm) : Option (Int32) :=
  (l_X9_landCells_4 7000  0 0 m).bind fun r2 =>
  some (r2)
set_option maxRecDepth 100000 in
set_option maxHeartbeats 4000000 in
theorem t_X9_landCells {g : q_G} {n : Nat} {F : Nat → Nat → Option Nat} (hn : 89 ≤ n) (hF : q_FF F)   {m : q_Mm} {r : Int32} (h : f_X9_landCells  m = some r) : q_Cn g mX9_landCells [q_r g 0] (q_mk n F m) (q_Q (some (.int r)) (q_mk n F m)) := by
  unfold f_X9_landCells at h
  show q_V g mX9_landCells q_T _ _ _ 0 [(0, q_r g 0)] [] (q_mk n F m)
  refine q_iconst (v := 0) dX9_landCells_0 (by decide) ?_
  refine q_istore_n (ls' := [(0, _), (1, _)]) [0, 1] dX9_landCells_1 (Nat.le_of_ble_eq_true rfl) rfl ?_
  refine q_iconst (v := 0) dX9_landCells_2 (by decide) ?_
  refine q_istore_n (ls' := [(0, _), (1, _), (2, _)]) [0, 1, 2] dX9_landCells_3 (Nat.le_of_ble_eq_true rfl) rfl ?_
  obtain ⟨r2, hr3, h⟩ := q_bd h
  refine t_l_X9_landCells_4 hn hF  7000 _ _ _ hr3 ?_
  refine q_iload_n dX9_landCells_30 rfl ?_
  cases h
  exact q_iret dX9_landCells_31 rfl ⟨rfl, rfl⟩
def f_X9_about (x1 : Int32) (m : q_Mm) : Option (Int32) :=
  if x1 = 0 then
    some (m.1 0 1)
  else
  if x1 = 1 then
    some (m.1 3 1)
  else
  if x1 = 2 then
    some (m.1 3 2)
  else
  if x1 = 3 then
    some (m.1 2 0)
  else
  if x1 = 4 then
    some (m.1 2 1)
  else
  if x1 = 5 then
    some (m.1 28 3)
  else
  if x1 = 6 then
    (f_X9_landCells  m).bind fun r1 =>
    some (r1)
  else
  if x1 = 7 then
    some (m.1 38 3)
  else
  if (f_X9_isPlan (x1.toInt64 - 10) m) = 0 then
    some ((-2))
  else
    if q_in (x1 - 10) 4 = true then
    some (m.1 (46 + 3 * (x1 - 10).toNatClampNeg) 2)
    else none
set_option maxRecDepth 100000 in
set_option maxHeartbeats 4000000 in
theorem t_X9_about {g : q_G} {n : Nat} {F : Nat → Nat → Option Nat} (hn : 89 ≤ n) (hF : q_FF F)  {x1 : Int32} {m : q_Mm} {r : Int32} (h : f_X9_about x1 m = some r) : q_Cn g mX9_about [q_r g 0, .int x1] (q_mk n F m) (q_Q (some (.int r)) (q_mk n F m)) := by
  unfold f_X9_about at h
  show q_V g mX9_about q_T _ _ _ 0 [(0, q_r g 0), (1, .int x1)] [] (q_mk n F m)
  refine q_iload_n dX9_about_0 rfl ?_
  by_cases hs1_0 : x1 = 0
  · have h := q_it hs1_0 h
    rw [hs1_0]
    refine q_tblIn 48 dX9_about_1 (by decide) (by decide) rfl (by decide) ?_
    refine q_aload_n dX9_about_48 rfl ?_
    refine u_geti dX9_about_49 fX9_15 rfl rfl (Nat.lt_of_lt_of_le (Nat.le_of_ble_eq_true rfl) hn) ?_
    cases h
    exact q_iret dX9_about_52 rfl ⟨rfl, rfl⟩
  have h := q_if hs1_0 h
  by_cases hs1_1 : x1 = 1
  · have h := q_it hs1_1 h
    rw [hs1_1]
    refine q_tblIn 53 dX9_about_1 (by decide) (by decide) rfl (by decide) ?_
    refine q_aload_n dX9_about_53 rfl ?_
    refine u_getr dX9_about_54 fX9_29 rfl rfl (Nat.lt_of_lt_of_le (Nat.le_of_ble_eq_true rfl) hn) (hF 0 3 3 rfl) ?_
    refine u_geti dX9_about_57 fX9_116 rfl rfl (Nat.lt_of_lt_of_le (Nat.le_of_ble_eq_true rfl) hn) ?_
    cases h
    exact q_iret dX9_about_60 rfl ⟨rfl, rfl⟩
  have h := q_if hs1_1 h
  by_cases hs1_2 : x1 = 2
  · have h := q_it hs1_2 h
    rw [hs1_2]
    refine q_tblIn 61 dX9_about_1 (by decide) (by decide) rfl (by decide) ?_
    refine q_aload_n dX9_about_61 rfl ?_
    refine u_getr dX9_about_62 fX9_29 rfl rfl (Nat.lt_of_lt_of_le (Nat.le_of_ble_eq_true rfl) hn) (hF 0 3 3 rfl) ?_
    refine u_geti dX9_about_65 fX9_130 rfl rfl (Nat.lt_of_lt_of_le (Nat.le_of_ble_eq_true rfl) hn) ?_
    cases h
    exact q_iret dX9_about_68 rfl ⟨rfl, rfl⟩
  have h := q_if hs1_2 h
  by_cases hs1_3 : x1 = 3
  · have h := q_it hs1_3 h
    rw [hs1_3]
    refine q_tblIn 69 dX9_about_1 (by decide) (by decide) rfl (by decide) ?_
    refine q_aload_n dX9_about_69 rfl ?_
    refine u_getr dX9_about_70 fX9_22 rfl rfl (Nat.lt_of_lt_of_le (Nat.le_of_ble_eq_true rfl) hn) (hF 0 2 2 rfl) ?_
    refine u_geti dX9_about_73 fX9_136 rfl rfl (Nat.lt_of_lt_of_le (Nat.le_of_ble_eq_true rfl) hn) ?_
    cases h
    exact q_iret dX9_about_76 rfl ⟨rfl, rfl⟩
  have h := q_if hs1_3 h
  by_cases hs1_4 : x1 = 4
  · have h := q_it hs1_4 h
    rw [hs1_4]
    refine q_tblIn 77 dX9_about_1 (by decide) (by decide) rfl (by decide) ?_
    refine q_aload_n dX9_about_77 rfl ?_
    refine u_getr dX9_about_78 fX9_22 rfl rfl (Nat.lt_of_lt_of_le (Nat.le_of_ble_eq_true rfl) hn) (hF 0 2 2 rfl) ?_
    refine u_geti dX9_about_81 fX9_139 rfl rfl (Nat.lt_of_lt_of_le (Nat.le_of_ble_eq_true rfl) hn) ?_
    cases h
    exact q_iret dX9_about_84 rfl ⟨rfl, rfl⟩
  have h := q_if hs1_4 h
  by_cases hs1_5 : x1 = 5
  · have h := q_it hs1_5 h
    rw [hs1_5]
    refine q_tblIn 85 dX9_about_1 (by decide) (by decide) rfl (by decide) ?_
    refine q_aload_n dX9_about_85 rfl ?_
    refine u_getr dX9_about_86 fX9_46 rfl rfl (Nat.lt_of_lt_of_le (Nat.le_of_ble_eq_true rfl) hn) (hF 0 6 28 rfl) ?_
    refine u_geti dX9_about_89 fX9_226 rfl rfl (Nat.lt_of_lt_of_le (Nat.le_of_ble_eq_true rfl) hn) ?_
    cases h
    exact q_iret dX9_about_92 rfl ⟨rfl, rfl⟩
  have h := q_if hs1_5 h
  by_cases hs1_6 : x1 = 6
  · have h := q_it hs1_6 h
    rw [hs1_6]
    refine q_tblIn 93 dX9_about_1 (by decide) (by decide) rfl (by decide) ?_
    refine q_aload_n dX9_about_93 rfl ?_
    obtain ⟨r1, hr2, h⟩ := q_bd h
    refine c_V1 (as := []) (st := []) (ci := 9) dX9_about_94 okX9_landCells lX9_316 ⟨rfl, rfl⟩ ⟨Nat.le_of_ble_eq_true rfl, Nat.le_of_ble_eq_true rfl⟩ (by decide) rfl rfl (Nat.lt_of_lt_of_le (Nat.le_of_ble_eq_true rfl) hn) rfl rfl (Nat.le_of_ble_eq_true rfl) (Nat.le_of_ble_eq_true rfl) (t_X9_landCells hn hF  hr2) ?_
    cases h
    exact q_iret dX9_about_97 rfl ⟨rfl, rfl⟩
  have h := q_if hs1_6 h
  by_cases hs1_7 : x1 = 7
  · have h := q_it hs1_7 h
    rw [hs1_7]
    refine q_tblIn 98 dX9_about_1 (by decide) (by decide) rfl (by decide) ?_
    refine q_aload_n dX9_about_98 rfl ?_
    refine u_getr dX9_about_99 fX9_71 rfl rfl (Nat.lt_of_lt_of_le (Nat.le_of_ble_eq_true rfl) hn) (hF 0 11 38 rfl) ?_
    refine u_geti dX9_about_102 fX9_294 rfl rfl (Nat.lt_of_lt_of_le (Nat.le_of_ble_eq_true rfl) hn) ?_
    cases h
    exact q_iret dX9_about_105 rfl ⟨rfl, rfl⟩
  have h := q_if hs1_7 h
  refine q_tblOut 106 dX9_about_1 (q_out 8 (by decide) (fun k hk => ?_)) (by decide) ?_
  · match k, hk with
    | 0, _ => exact hs1_0
    | 1, _ => exact hs1_1
    | 2, _ => exact hs1_2
    | 3, _ => exact hs1_3
    | 4, _ => exact hs1_4
    | 5, _ => exact hs1_5
    | 6, _ => exact hs1_6
    | 7, _ => exact hs1_7
    | k + 8, hk => exact absurd hk (by omega)
  refine q_iload_n dX9_about_106 rfl ?_
  refine q_i2l dX9_about_107 ?_
  refine q_ldc2 dX9_about_108 kX9_319 ?_
  refine q_lsub dX9_about_111 ?_
  refine c_S1 (as := [_]) (st := []) dX9_about_112 okX9_isPlan lX9_76 ⟨rfl, rfl⟩ ⟨Nat.le_of_ble_eq_true rfl, Nat.le_of_ble_eq_true rfl⟩ rfl rfl (Nat.le_of_ble_eq_true rfl) (Nat.le_of_ble_eq_true rfl) (t_X9_isPlan hn hF  rfl) ?_
  refine q_if_eq 133 dX9_about_115 (by decide) (fun hc => ?_) (fun hc => ?_)
  · have h := q_it hc h
    refine q_bipush (v := (-2)) dX9_about_133 (by decide) ?_
    cases h
    exact q_iret dX9_about_135 rfl ⟨rfl, rfl⟩
  · have h := q_if hc h
    refine q_aload_n dX9_about_118 rfl ?_
    refine u_getr dX9_about_119 fX9_11 rfl rfl (Nat.lt_of_lt_of_le (Nat.le_of_ble_eq_true rfl) hn) (hF 0 0 1 rfl) ?_
    refine q_iload_n dX9_about_122 rfl ?_
    refine q_bipush (v := 10) dX9_about_123 (by decide) ?_
    refine q_isub dX9_about_125 ?_
    obtain ⟨hi3, h⟩ := q_is h
    refine u_aald dX9_about_126 (Or.inl rfl) (Nat.lt_of_lt_of_le (Nat.le_of_ble_eq_true rfl) hn) (q_in_vp hi3) (q_at_planF hF hi3) ?_
    refine u_geti dX9_about_127 fX9_84 rfl (q_plan_0 (q_at_plan hi3)) (q_lt0 (q_plan_n (q_at_plan hi3) hn)) ?_
    refine q_goto 135 dX9_about_130 (by decide) ?_
    cases h
    exact q_iret dX9_about_135 rfl ⟨rfl, rfl⟩
def f_X10_in (x0 : Int64) (x2 : Int64) (x4 : Int64) (m : q_Mm) : (Int32) :=
  if x0 < x2 then
    0
  else
    if x4 < x0 then
      0
    else
      1
set_option maxRecDepth 100000 in
set_option maxHeartbeats 4000000 in
theorem t_X10_in {g : q_G} {n : Nat} {F : Nat → Nat → Option Nat} (hn : 89 ≤ n) (hF : q_FF F)  {x0 : Int64} {x2 : Int64} {x4 : Int64} {m : q_Mm} {r : Int32} (h : f_X10_in x0 x2 x4 m = r) : q_Cn g mX10_in [.long x0, .long x2, .long x4] (q_mk n F m) (q_Q (some (.int r)) (q_mk n F m)) := by
  unfold f_X10_in at h
  show q_V g mX10_in q_T _ _ _ 0 [(0, .long x0), (2, .long x2), (4, .long x4)] [] (q_mk n F m)
  refine q_lload_n dX10_in_0 rfl ?_
  refine q_lload_n dX10_in_1 rfl ?_
  refine q_lcmp_lt 17 dX10_in_2 dX10_in_3 (by decide) (fun hc => ?_) (fun hc => ?_)
  · have h := q_it hc h
    refine q_iconst (v := 0) dX10_in_17 (by decide) ?_
    subst h
    exact q_zret dX10_in_18 rfl rfl ⟨rfl, rfl⟩
  · have h := q_if hc h
    refine q_lload_n dX10_in_6 rfl ?_
    refine q_lload dX10_in_7 rfl ?_
    refine q_lcmp_gt 17 dX10_in_9 dX10_in_10 (by decide) (fun hc => ?_) (fun hc => ?_)
    · have h := q_it hc h
      refine q_iconst (v := 0) dX10_in_17 (by decide) ?_
      subst h
      exact q_zret dX10_in_18 rfl rfl ⟨rfl, rfl⟩
    · have h := q_if hc h
      refine q_iconst (v := 1) dX10_in_13 (by decide) ?_
      refine q_goto 18 dX10_in_14 (by decide) ?_
      subst h
      exact q_zret dX10_in_18 rfl rfl ⟨rfl, rfl⟩
theorem b_X10_in {x0 : Int64} {x2 : Int64} {x4 : Int64} {m : q_Mm} : q_bo (f_X10_in x0 x2 x4 m) := by
  unfold f_X10_in
  repeat' split
  all_goals first | exact Or.inl rfl | exact Or.inr rfl
def f_X10_size (x0 : Int32) (m : q_Mm) : (Int32) :=
  if 0 ≤ x0 then
    x0
  else
    -x0
set_option maxRecDepth 100000 in
set_option maxHeartbeats 4000000 in
theorem t_X10_size {g : q_G} {n : Nat} {F : Nat → Nat → Option Nat} (hn : 89 ≤ n) (hF : q_FF F)  {x0 : Int32} {m : q_Mm} {r : Int32} (h : f_X10_size x0 m = r) : q_Cn g mX10_size [.int x0] (q_mk n F m) (q_Q (some (.int r)) (q_mk n F m)) := by
  unfold f_X10_size at h
  show q_V g mX10_size q_T _ _ _ 0 [(0, .int x0)] [] (q_mk n F m)
  refine q_iload_n dX10_size_0 rfl ?_
  refine q_if_ge 9 dX10_size_1 (by decide) (fun hc => ?_) (fun hc => ?_)
  · have h := q_it hc h
    refine q_iload_n dX10_size_9 rfl ?_
    subst h
    exact q_iret dX10_size_10 rfl ⟨rfl, rfl⟩
  · have h := q_if hc h
    refine q_iload_n dX10_size_4 rfl ?_
    refine q_ineg dX10_size_5 ?_
    refine q_goto 10 dX10_size_6 (by decide) ?_
    subst h
    exact q_iret dX10_size_10 rfl ⟨rfl, rfl⟩
def f_X10_isPlan (x0 : Int32) (m : q_Mm) : (Int32) :=
  (f_X10_in x0.toInt64 0 3 m)
set_option maxRecDepth 100000 in
set_option maxHeartbeats 4000000 in
theorem t_X10_isPlan {g : q_G} {n : Nat} {F : Nat → Nat → Option Nat} (hn : 89 ≤ n) (hF : q_FF F)  {x0 : Int32} {m : q_Mm} {r : Int32} (h : f_X10_isPlan x0 m = r) : q_Cn g mX10_isPlan [.int x0] (q_mk n F m) (q_Q (some (.int r)) (q_mk n F m)) := by
  unfold f_X10_isPlan at h
  show q_V g mX10_isPlan q_T _ _ _ 0 [(0, .int x0)] [] (q_mk n F m)
  refine q_iload_n dX10_isPlan_0 rfl ?_
  refine q_i2l dX10_isPlan_1 ?_
  refine q_lconst (v := 0) dX10_isPlan_2 (by decide) ?_
  refine q_ldc2 dX10_isPlan_3 kX10_120 ?_
  refine c_S1 (as := [_, _, _]) (st := []) dX10_isPlan_6 okX10_in lX10_122 ⟨rfl, rfl⟩ ⟨Nat.le_of_ble_eq_true rfl, Nat.le_of_ble_eq_true rfl⟩ rfl rfl (Nat.le_of_ble_eq_true rfl) (Nat.le_of_ble_eq_true rfl) (t_X10_in hn hF  rfl) ?_
  subst h
  exact q_zret dX10_isPlan_9 rfl (q_bo_n (b_X10_in ..)) ⟨rfl, rfl⟩
theorem b_X10_isPlan {x0 : Int32} {m : q_Mm} : q_bo (f_X10_isPlan x0 m) := by
  unfold f_X10_isPlan
  repeat' split
  all_goals first | exact Or.inl rfl | exact Or.inr rfl | exact b_X10_in
def l_X10_turn_63 : Nat → Int32 → Int32 → Int32 → Int32 → Int32 → Int32 → q_Mm → Option ((Unit) ⊕ (Unit))
  | 0, _, _, _, _, _, _, _ => none
  | k + 1, y1, y2, y3, y4, y5, y6, m =>
    if y4 ≤ y6 then
      some (.inr ())
    else
      if q_in ((12 * y1) + y6) 48 = true then
      if (m.1 59 ((12 * y1) + y6).toNatClampNeg) = y2 then
        some (.inl ())
      else
        l_X10_turn_63 k  y1 y2 y3 y4 y5 (y6 + 1) m
      else none
set_option maxRecDepth 100000 in
set_option maxHeartbeats 4000000 in
theorem t_l_X10_turn_63 {g : q_G} {n : Nat} {F : Nat → Nat → Option Nat} {Z : List Frame → Array Value → State → State → Prop} {kc ks : Nat} (hn : 89 ≤ n) (hF : q_FF F)  : ∀ (k : Nat) (y1 : Int32) (y2 : Int32) (y3 : Int32) (y4 : Int32) (y5 : Int32) (y6 : Int32) (m : q_Mm) {rr : (Unit) ⊕ (Unit)}, l_X10_turn_63 k y1 y2 y3 y4 y5 y6 m = some rr → (∀ r, rr = .inl r → q_V g mX10_turn q_T Z kc ks 86 [] [] (q_mk n F m)) → (∀ r, rr = .inr r → q_V g mX10_turn q_T Z kc ks 95 [(0, q_r g 58), (1, .int y1), (2, .int y2), (3, .int y3), (5, .int y5)] [] (q_mk n F m)) → q_V g mX10_turn q_T Z kc ks 63 [(0, q_r g 58), (1, .int y1), (2, .int y2), (3, .int y3), (4, .int y4), (5, .int y5), (6, .int y6)] [] (q_mk n F m) := by
  intro k
  induction k with
  | zero => intro y1 y2 y3 y4 y5 y6 m rr h; cases h
  | succ k ih =>
    intro y1 y2 y3 y4 y5 y6 m rr h hx0 hx1
    unfold l_X10_turn_63 at h
    refine q_iload dX10_turn_63 rfl ?_
    refine q_iload dX10_turn_65 rfl ?_
    refine q_icmp_ge 95 dX10_turn_67 (by decide) (fun hc => ?_) (fun hc => ?_)
    · have h := q_it hc h
      refine q_drop [0, 1, 2, 3, 5] (ls' := [(0, _), (1, _), (2, _), (3, _), (5, _)]) rfl ?_
      cases h
      exact hx1 _ rfl
    · have h := q_if hc h
      refine q_aload_n dX10_turn_70 rfl ?_
      refine u_getr dX10_turn_71 fX10_7 rfl rfl (Nat.lt_of_lt_of_le (Nat.le_of_ble_eq_true rfl) hn) (hF 58 0 59 rfl) ?_
      refine q_bipush (v := 12) dX10_turn_74 (by decide) ?_
      refine q_iload_n dX10_turn_76 rfl ?_
      refine q_imul dX10_turn_77 ?_
      refine q_iload dX10_turn_78 rfl ?_
      refine q_iadd dX10_turn_80 ?_
      obtain ⟨hi2, h⟩ := q_is h
      refine u_iald dX10_turn_81 rfl (Nat.lt_of_lt_of_le (Nat.le_of_ble_eq_true rfl) hn) (q_in_vp hi2) ?_
      refine q_iload_n dX10_turn_82 rfl ?_
      refine q_icmp_ne 89 dX10_turn_83 (by decide) (fun hc => ?_) (fun hc => ?_)
      · have h := q_if hc h
        refine q_iinc1 (w := 1) (ls' := [(0, _), (1, _), (2, _), (3, _), (4, _), (5, _), (6, _)]) [0, 1, 2, 3, 4, 5, 6] dX10_turn_89 rfl (by decide) (Nat.le_of_ble_eq_true rfl) rfl ?_
        refine q_goto 63 dX10_turn_92 (by decide) ?_
        exact ih _ _ _ _ _ _ _ h hx0 hx1
      · have h := q_it hc h
        refine q_drop [] (ls' := []) rfl ?_
        cases h
        exact hx0 _ rfl
def l_X10_turn_95 : Nat → Int32 → Int32 → Int32 → Int32 → q_Mm → Option (Int32 × q_Mm)
  | 0, _, _, _, _, _ => none
  | k + 1, y1, y2, y3, y5, m =>
    if y5 ≤ 0 then
      some (y5, m)
    else
      if q_in (((12 * y1) + y5) - 1) 48 = true then
      if (m.1 59 (((12 * y1) + y5) - 1).toNatClampNeg) ≤ y2 then
        some (y5, m)
      else
        if q_in (((12 * y1) + y5) - 1) 48 = true then
        if q_in ((12 * y1) + y5) 48 = true then
        if q_in (((12 * y1) + y5) - 1) 48 = true then
        if q_in ((12 * y1) + y5) 48 = true then
        l_X10_turn_95 k  y1 y2 y3 (y5 + (-1)) (q_wi (q_wi m 59 (((12 * y1) + y5).toNatClampNeg) (m.1 59 (((12 * y1) + y5) - 1).toNatClampNeg)) 60 (((12 * y1) + y5).toNatClampNeg) ((q_wi m 59 (((12 * y1) + y5).toNatClampNeg) (m.1 59 (((12 * y1) + y5) - 1).toNatClampNeg)).1 60 (((12 * y1) + y5) - 1).toNatClampNeg))
        else none
        else none
        else none
        else none
      else none
set_option maxRecDepth 100000 in
set_option maxHeartbeats 4000000 in
theorem t_l_X10_turn_95 {g : q_G} {n : Nat} {F : Nat → Nat → Option Nat} {Z : List Frame → Array Value → State → State → Prop} {kc ks : Nat} (hn : 89 ≤ n) (hF : q_FF F)  : ∀ (k : Nat) (y1 : Int32) (y2 : Int32) (y3 : Int32) (y5 : Int32) (m : q_Mm) {r : Int32 × q_Mm}, l_X10_turn_95 k y1 y2 y3 y5 m = some r → (q_V g mX10_turn q_T Z kc ks 176 [(0, q_r g 58), (1, .int y1), (2, .int y2), (3, .int y3), (5, .int r.1)] [] (q_mk n F r.2)) → q_V g mX10_turn q_T Z kc ks 95 [(0, q_r g 58), (1, .int y1), (2, .int y2), (3, .int y3), (5, .int y5)] [] (q_mk n F m) := by
  intro k
  induction k with
  | zero => intro y1 y2 y3 y5 m r h; cases h
  | succ k ih =>
    intro y1 y2 y3 y5 m r h hx0
    unfold l_X10_turn_95 at h
    refine q_iload dX10_turn_95 rfl ?_
    refine q_if_le 176 dX10_turn_97 (by decide) (fun hc => ?_) (fun hc => ?_)
    · have h := q_it hc h
      cases h
      exact hx0
    · have h := q_if hc h
      refine q_aload_n dX10_turn_100 rfl ?_
      refine u_getr dX10_turn_101 fX10_7 rfl rfl (Nat.lt_of_lt_of_le (Nat.le_of_ble_eq_true rfl) hn) (hF 58 0 59 rfl) ?_
      refine q_bipush (v := 12) dX10_turn_104 (by decide) ?_
      refine q_iload_n dX10_turn_106 rfl ?_
      refine q_imul dX10_turn_107 ?_
      refine q_iload dX10_turn_108 rfl ?_
      refine q_iadd dX10_turn_110 ?_
      refine q_iconst (v := 1) dX10_turn_111 (by decide) ?_
      refine q_isub dX10_turn_112 ?_
      obtain ⟨hi7, h⟩ := q_is h
      refine u_iald dX10_turn_113 rfl (Nat.lt_of_lt_of_le (Nat.le_of_ble_eq_true rfl) hn) (q_in_vp hi7) ?_
      refine q_iload_n dX10_turn_114 rfl ?_
      refine q_icmp_le 176 dX10_turn_115 (by decide) (fun hc => ?_) (fun hc => ?_)
      · have h := q_it hc h
        cases h
        exact hx0
      · have h := q_if hc h
        refine q_aload_n dX10_turn_118 rfl ?_
        refine u_getr dX10_turn_119 fX10_7 rfl rfl (Nat.lt_of_lt_of_le (Nat.le_of_ble_eq_true rfl) hn) (hF 58 0 59 rfl) ?_
        refine q_bipush (v := 12) dX10_turn_122 (by decide) ?_
        refine q_iload_n dX10_turn_124 rfl ?_
        refine q_imul dX10_turn_125 ?_
        refine q_iload dX10_turn_126 rfl ?_
        refine q_iadd dX10_turn_128 ?_
        refine q_aload_n dX10_turn_129 rfl ?_
        refine u_getr dX10_turn_130 fX10_7 rfl rfl (Nat.lt_of_lt_of_le (Nat.le_of_ble_eq_true rfl) hn) (hF 58 0 59 rfl) ?_
        refine q_bipush (v := 12) dX10_turn_133 (by decide) ?_
        refine q_iload_n dX10_turn_135 rfl ?_
        refine q_imul dX10_turn_136 ?_
        refine q_iload dX10_turn_137 rfl ?_
        refine q_iadd dX10_turn_139 ?_
        refine q_iconst (v := 1) dX10_turn_140 (by decide) ?_
        refine q_isub dX10_turn_141 ?_
        obtain ⟨hi8, h⟩ := q_is h
        refine u_iald dX10_turn_142 rfl (Nat.lt_of_lt_of_le (Nat.le_of_ble_eq_true rfl) hn) (q_in_vp hi8) ?_
        obtain ⟨hi9, h⟩ := q_is h
        refine u_iast dX10_turn_143 rfl (Nat.lt_of_lt_of_le (Nat.le_of_ble_eq_true rfl) hn) (q_in_vp hi9) ?_
        refine q_aload_n dX10_turn_144 rfl ?_
        refine u_getr dX10_turn_145 fX10_13 rfl rfl (Nat.lt_of_lt_of_le (Nat.le_of_ble_eq_true rfl) hn) (hF 58 1 60 rfl) ?_
        refine q_bipush (v := 12) dX10_turn_148 (by decide) ?_
        refine q_iload_n dX10_turn_150 rfl ?_
        refine q_imul dX10_turn_151 ?_
        refine q_iload dX10_turn_152 rfl ?_
        refine q_iadd dX10_turn_154 ?_
        refine q_aload_n dX10_turn_155 rfl ?_
        refine u_getr dX10_turn_156 fX10_13 rfl rfl (Nat.lt_of_lt_of_le (Nat.le_of_ble_eq_true rfl) hn) (hF 58 1 60 rfl) ?_
        refine q_bipush (v := 12) dX10_turn_159 (by decide) ?_
        refine q_iload_n dX10_turn_161 rfl ?_
        refine q_imul dX10_turn_162 ?_
        refine q_iload dX10_turn_163 rfl ?_
        refine q_iadd dX10_turn_165 ?_
        refine q_iconst (v := 1) dX10_turn_166 (by decide) ?_
        refine q_isub dX10_turn_167 ?_
        obtain ⟨hi10, h⟩ := q_is h
        refine u_iald dX10_turn_168 rfl (Nat.lt_of_lt_of_le (Nat.le_of_ble_eq_true rfl) hn) (q_in_vp hi10) ?_
        obtain ⟨hi11, h⟩ := q_is h
        refine u_iast dX10_turn_169 rfl (Nat.lt_of_lt_of_le (Nat.le_of_ble_eq_true rfl) hn) (q_in_vp hi11) ?_
        refine q_iinc1 (w := (-1)) (ls' := [(0, _), (1, _), (2, _), (3, _), (5, _)]) [0, 1, 2, 3, 5] dX10_turn_170 rfl (by decide) (Nat.le_of_ble_eq_true rfl) rfl ?_
        refine q_goto 95 dX10_turn_173 (by decide) ?_
        exact ih _ _ _ _ _ h hx0
def f_X10_turn (x1 : Int32) (x2 : Int32) (x3 : Int32) (m : q_Mm) : Option (Int32 × q_Mm) :=
  if (f_X10_isPlan x1 m) = 0 then
    some (((-1), m))
  else
    if (f_X10_in x2.toInt64 0 59 m) = 0 then
      some (((-2), m))
    else
      if (f_X10_in x3.toInt64 (-4) 4 m) = 0 then
        some (((-2), m))
      else
        if q_in x1 4 = true then
        if (m.1 61 x1.toNatClampNeg) = 12 then
          some (((-4), m))
        else
          (l_X10_turn_63 7000  x1 x2 x3 (m.1 61 x1.toNatClampNeg) (m.1 61 x1.toNatClampNeg) 0 m).bind fun r3 => match r3 with
          | .inl r5 =>
            some (((-5), m))
          | .inr r6 =>
            (l_X10_turn_95 7000  x1 x2 x3 (m.1 61 x1.toNatClampNeg) m).bind fun r12 =>
            if q_in ((12 * x1) + r12.1) 48 = true then
            if q_in ((12 * x1) + r12.1) 48 = true then
            if q_in x1 4 = true then
            if q_in x1 4 = true then
            if q_in x1 4 = true then
            some (((q_wi (q_wi (q_wi r12.2 59 (((12 * x1) + r12.1).toNatClampNeg) x2) 60 (((12 * x1) + r12.1).toNatClampNeg) x3) 61 x1.toNatClampNeg (((q_wi (q_wi r12.2 59 (((12 * x1) + r12.1).toNatClampNeg) x2) 60 (((12 * x1) + r12.1).toNatClampNeg) x3).1 61 x1.toNatClampNeg) + 1)).1 61 x1.toNatClampNeg, q_wi (q_wi (q_wi r12.2 59 (((12 * x1) + r12.1).toNatClampNeg) x2) 60 (((12 * x1) + r12.1).toNatClampNeg) x3) 61 x1.toNatClampNeg (((q_wi (q_wi r12.2 59 (((12 * x1) + r12.1).toNatClampNeg) x2) 60 (((12 * x1) + r12.1).toNatClampNeg) x3).1 61 x1.toNatClampNeg) + 1)))
            else none
            else none
            else none
            else none
            else none
        else none
set_option maxRecDepth 100000 in
set_option maxHeartbeats 4000000 in
theorem t_X10_turn {g : q_G} {n : Nat} {F : Nat → Nat → Option Nat} (hn : 89 ≤ n) (hF : q_FF F)  {x1 : Int32} {x2 : Int32} {x3 : Int32} {m : q_Mm} {r : Int32 × q_Mm} (h : f_X10_turn x1 x2 x3 m = some r) : q_Cn g mX10_turn [q_r g 58, .int x1, .int x2, .int x3] (q_mk n F m) (q_Q (some (.int r.1)) (q_mk n F r.2)) := by
  unfold f_X10_turn at h
  show q_V g mX10_turn q_T _ _ _ 0 [(0, q_r g 58), (1, .int x1), (2, .int x2), (3, .int x3)] [] (q_mk n F m)
  refine q_iload_n dX10_turn_0 rfl ?_
  refine c_S1 (as := [_]) (st := []) dX10_turn_1 okX10_isPlan lX10_126 ⟨rfl, rfl⟩ ⟨Nat.le_of_ble_eq_true rfl, Nat.le_of_ble_eq_true rfl⟩ rfl rfl (Nat.le_of_ble_eq_true rfl) (Nat.le_of_ble_eq_true rfl) (t_X10_isPlan hn hF  rfl) ?_
  refine q_if_ne 9 dX10_turn_4 (by decide) (fun hc => ?_) (fun hc => ?_)
  · have h := q_if hc h
    refine q_iload_n dX10_turn_9 rfl ?_
    refine q_i2l dX10_turn_10 ?_
    refine q_lconst (v := 0) dX10_turn_11 (by decide) ?_
    refine q_ldc2 dX10_turn_12 kX10_130 ?_
    refine c_S1 (as := [_, _, _]) (st := []) dX10_turn_15 okX10_in lX10_122 ⟨rfl, rfl⟩ ⟨Nat.le_of_ble_eq_true rfl, Nat.le_of_ble_eq_true rfl⟩ rfl rfl (Nat.le_of_ble_eq_true rfl) (Nat.le_of_ble_eq_true rfl) (t_X10_in hn hF  rfl) ?_
    refine q_if_eq 35 dX10_turn_18 (by decide) (fun hc => ?_) (fun hc => ?_)
    · have h := q_it hc h
      refine q_bipush (v := (-2)) dX10_turn_35 (by decide) ?_
      cases h
      exact q_iret dX10_turn_37 rfl ⟨rfl, rfl⟩
    · have h := q_if hc h
      refine q_iload_n dX10_turn_21 rfl ?_
      refine q_i2l dX10_turn_22 ?_
      refine q_ldc2 dX10_turn_23 kX10_132 ?_
      refine q_ldc2 dX10_turn_26 kX10_134 ?_
      refine c_S1 (as := [_, _, _]) (st := []) dX10_turn_29 okX10_in lX10_122 ⟨rfl, rfl⟩ ⟨Nat.le_of_ble_eq_true rfl, Nat.le_of_ble_eq_true rfl⟩ rfl rfl (Nat.le_of_ble_eq_true rfl) (Nat.le_of_ble_eq_true rfl) (t_X10_in hn hF  rfl) ?_
      refine q_if_ne 38 dX10_turn_32 (by decide) (fun hc => ?_) (fun hc => ?_)
      · have h := q_if hc h
        refine q_aload_n dX10_turn_38 rfl ?_
        refine u_getr dX10_turn_39 fX10_16 rfl rfl (Nat.lt_of_lt_of_le (Nat.le_of_ble_eq_true rfl) hn) (hF 58 2 61 rfl) ?_
        refine q_iload_n dX10_turn_42 rfl ?_
        obtain ⟨hi1, h⟩ := q_is h
        refine u_iald dX10_turn_43 rfl (Nat.lt_of_lt_of_le (Nat.le_of_ble_eq_true rfl) hn) (q_in_vp hi1) ?_
        refine q_istore (ls' := [(0, _), (1, _), (2, _), (3, _), (4, _)]) [0, 1, 2, 3, 4] dX10_turn_44 (Nat.le_of_ble_eq_true rfl) rfl ?_
        refine q_iload dX10_turn_46 rfl ?_
        refine q_bipush (v := 12) dX10_turn_48 (by decide) ?_
        refine q_icmp_ne 56 dX10_turn_50 (by decide) (fun hc => ?_) (fun hc => ?_)
        · have h := q_if hc h
          refine q_iload dX10_turn_56 rfl ?_
          refine q_istore (ls' := [(0, _), (1, _), (2, _), (3, _), (4, _), (5, _)]) [0, 1, 2, 3, 4, 5] dX10_turn_58 (Nat.le_of_ble_eq_true rfl) rfl ?_
          refine q_iconst (v := 0) dX10_turn_60 (by decide) ?_
          refine q_istore (ls' := [(0, _), (1, _), (2, _), (3, _), (4, _), (5, _), (6, _)]) [0, 1, 2, 3, 4, 5, 6] dX10_turn_61 (Nat.le_of_ble_eq_true rfl) rfl ?_
          obtain ⟨r3, hr4, h⟩ := q_bd h
          refine t_l_X10_turn_63 hn hF  7000 _ _ _ _ _ _ _ hr4 ?_ ?_
          · intro r5 er5
            subst er5
            dsimp only at h
            refine q_bipush (v := (-5)) dX10_turn_86 (by decide) ?_
            cases h
            exact q_iret dX10_turn_88 rfl ⟨rfl, rfl⟩
          · intro r6 er6
            subst er6
            dsimp only at h
            obtain ⟨r12, hr13, h⟩ := q_bd h
            refine t_l_X10_turn_95 hn hF  7000 _ _ _ _ _ hr13 ?_
            refine q_aload_n dX10_turn_176 rfl ?_
            refine u_getr dX10_turn_177 fX10_7 rfl rfl (Nat.lt_of_lt_of_le (Nat.le_of_ble_eq_true rfl) hn) (hF 58 0 59 rfl) ?_
            refine q_bipush (v := 12) dX10_turn_180 (by decide) ?_
            refine q_iload_n dX10_turn_182 rfl ?_
            refine q_imul dX10_turn_183 ?_
            refine q_iload dX10_turn_184 rfl ?_
            refine q_iadd dX10_turn_186 ?_
            refine q_iload_n dX10_turn_187 rfl ?_
            obtain ⟨hi14, h⟩ := q_is h
            refine u_iast dX10_turn_188 rfl (Nat.lt_of_lt_of_le (Nat.le_of_ble_eq_true rfl) hn) (q_in_vp hi14) ?_
            refine q_aload_n dX10_turn_189 rfl ?_
            refine u_getr dX10_turn_190 fX10_13 rfl rfl (Nat.lt_of_lt_of_le (Nat.le_of_ble_eq_true rfl) hn) (hF 58 1 60 rfl) ?_
            refine q_bipush (v := 12) dX10_turn_193 (by decide) ?_
            refine q_iload_n dX10_turn_195 rfl ?_
            refine q_imul dX10_turn_196 ?_
            refine q_iload dX10_turn_197 rfl ?_
            refine q_iadd dX10_turn_199 ?_
            refine q_iload_n dX10_turn_200 rfl ?_
            obtain ⟨hi15, h⟩ := q_is h
            refine u_iast dX10_turn_201 rfl (Nat.lt_of_lt_of_le (Nat.le_of_ble_eq_true rfl) hn) (q_in_vp hi15) ?_
            refine q_aload_n dX10_turn_202 rfl ?_
            refine u_getr dX10_turn_203 fX10_16 rfl rfl (Nat.lt_of_lt_of_le (Nat.le_of_ble_eq_true rfl) hn) (hF 58 2 61 rfl) ?_
            refine q_iload_n dX10_turn_206 rfl ?_
            refine q_dup2 dX10_turn_207 rfl rfl ?_
            obtain ⟨hi16, h⟩ := q_is h
            refine u_iald dX10_turn_208 rfl (Nat.lt_of_lt_of_le (Nat.le_of_ble_eq_true rfl) hn) (q_in_vp hi16) ?_
            refine q_iconst (v := 1) dX10_turn_209 (by decide) ?_
            refine q_iadd dX10_turn_210 ?_
            obtain ⟨hi17, h⟩ := q_is h
            refine u_iast dX10_turn_211 rfl (Nat.lt_of_lt_of_le (Nat.le_of_ble_eq_true rfl) hn) (q_in_vp hi17) ?_
            refine q_aload_n dX10_turn_212 rfl ?_
            refine u_getr dX10_turn_213 fX10_16 rfl rfl (Nat.lt_of_lt_of_le (Nat.le_of_ble_eq_true rfl) hn) (hF 58 2 61 rfl) ?_
            refine q_iload_n dX10_turn_216 rfl ?_
            obtain ⟨hi18, h⟩ := q_is h
            refine u_iald dX10_turn_217 rfl (Nat.lt_of_lt_of_le (Nat.le_of_ble_eq_true rfl) hn) (q_in_vp hi18) ?_
            cases h
            exact q_iret dX10_turn_218 rfl ⟨rfl, rfl⟩
        · have h := q_it hc h
          refine q_bipush (v := (-4)) dX10_turn_53 (by decide) ?_
          cases h
          exact q_iret dX10_turn_55 rfl ⟨rfl, rfl⟩
      · have h := q_it hc h
        refine q_bipush (v := (-2)) dX10_turn_35 (by decide) ?_
        cases h
        exact q_iret dX10_turn_37 rfl ⟨rfl, rfl⟩
  · have h := q_it hc h
    refine q_iconst (v := (-1)) dX10_turn_7 (by decide) ?_
    cases h
    exact q_iret dX10_turn_8 rfl ⟨rfl, rfl⟩
