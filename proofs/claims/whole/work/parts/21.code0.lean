def f_X10_post (x1 : Int32) (x2 : Int32) (x3 : Int32) (m : q_Mm) : Option (Int32 × q_Mm) :=
  if (f_X10_in x1.toInt64 (-50) 50 m) = 0 then
    some (((-2), m))
  else
    if (f_X10_in x2.toInt64 (-50) 50 m) = 0 then
      some (((-2), m))
    else
      if (f_X10_in x3.toInt64 1 40 m) = 0 then
        some (((-2), m))
      else
        if (m.1 58 34) = 10 then
          some (((-4), m))
        else
          if q_in (m.1 58 34) 10 = true then
          if q_in ((q_wi m 77 ((m.1 58 34).toNatClampNeg) x1).1 58 34) 10 = true then
          if q_in ((q_wi (q_wi m 77 ((m.1 58 34).toNatClampNeg) x1) 78 (((q_wi m 77 ((m.1 58 34).toNatClampNeg) x1).1 58 34).toNatClampNeg) x2).1 58 34) 10 = true then
          some ((((q_wi (q_wi (q_wi (q_wi m 77 ((m.1 58 34).toNatClampNeg) x1) 78 (((q_wi m 77 ((m.1 58 34).toNatClampNeg) x1).1 58 34).toNatClampNeg) x2) 79 (((q_wi (q_wi m 77 ((m.1 58 34).toNatClampNeg) x1) 78 (((q_wi m 77 ((m.1 58 34).toNatClampNeg) x1).1 58 34).toNatClampNeg) x2).1 58 34).toNatClampNeg) x3) 58 34 (((q_wi (q_wi (q_wi m 77 ((m.1 58 34).toNatClampNeg) x1) 78 (((q_wi m 77 ((m.1 58 34).toNatClampNeg) x1).1 58 34).toNatClampNeg) x2) 79 (((q_wi (q_wi m 77 ((m.1 58 34).toNatClampNeg) x1) 78 (((q_wi m 77 ((m.1 58 34).toNatClampNeg) x1).1 58 34).toNatClampNeg) x2).1 58 34).toNatClampNeg) x3).1 58 34) + 1)).1 58 34) - 1, q_wi (q_wi (q_wi (q_wi m 77 ((m.1 58 34).toNatClampNeg) x1) 78 (((q_wi m 77 ((m.1 58 34).toNatClampNeg) x1).1 58 34).toNatClampNeg) x2) 79 (((q_wi (q_wi m 77 ((m.1 58 34).toNatClampNeg) x1) 78 (((q_wi m 77 ((m.1 58 34).toNatClampNeg) x1).1 58 34).toNatClampNeg) x2).1 58 34).toNatClampNeg) x3) 58 34 (((q_wi (q_wi (q_wi m 77 ((m.1 58 34).toNatClampNeg) x1) 78 (((q_wi m 77 ((m.1 58 34).toNatClampNeg) x1).1 58 34).toNatClampNeg) x2) 79 (((q_wi (q_wi m 77 ((m.1 58 34).toNatClampNeg) x1) 78 (((q_wi m 77 ((m.1 58 34).toNatClampNeg) x1).1 58 34).toNatClampNeg) x2).1 58 34).toNatClampNeg) x3).1 58 34) + 1)))
          else none
          else none
          else none
set_option maxRecDepth 100000 in
set_option maxHeartbeats 4000000 in
theorem t_X10_post {g : q_G} {n : Nat} {F : Nat → Nat → Option Nat} (hn : 89 ≤ n) (hF : q_FF F)  {x1 : Int32} {x2 : Int32} {x3 : Int32} {m : q_Mm} {r : Int32 × q_Mm} (h : f_X10_post x1 x2 x3 m = some r) : q_Cn g mX10_post [q_r g 58, .int x1, .int x2, .int x3] (q_mk n F m) (q_Q (some (.int r.1)) (q_mk n F r.2)) := by
  unfold f_X10_post at h
  show q_V g mX10_post q_T _ _ _ 0 [(0, q_r g 58), (1, .int x1), (2, .int x2), (3, .int x3)] [] (q_mk n F m)
  refine q_iload_n dX10_post_0 rfl ?_
  refine q_i2l dX10_post_1 ?_
  refine q_ldc2 dX10_post_2 kX10_269 ?_
  refine q_ldc2 dX10_post_5 kX10_271 ?_
  refine c_S1 (as := [_, _, _]) (st := []) dX10_post_8 okX10_in lX10_122 ⟨rfl, rfl⟩ ⟨Nat.le_of_ble_eq_true rfl, Nat.le_of_ble_eq_true rfl⟩ rfl rfl (Nat.le_of_ble_eq_true rfl) (Nat.le_of_ble_eq_true rfl) (t_X10_in hn hF  rfl) ?_
  refine q_if_eq 40 dX10_post_11 (by decide) (fun hc => ?_) (fun hc => ?_)
  · have h := q_it hc h
    refine q_bipush (v := (-2)) dX10_post_40 (by decide) ?_
    cases h
    exact q_iret dX10_post_42 rfl ⟨rfl, rfl⟩
  · have h := q_if hc h
    refine q_iload_n dX10_post_14 rfl ?_
    refine q_i2l dX10_post_15 ?_
    refine q_ldc2 dX10_post_16 kX10_269 ?_
    refine q_ldc2 dX10_post_19 kX10_271 ?_
    refine c_S1 (as := [_, _, _]) (st := []) dX10_post_22 okX10_in lX10_122 ⟨rfl, rfl⟩ ⟨Nat.le_of_ble_eq_true rfl, Nat.le_of_ble_eq_true rfl⟩ rfl rfl (Nat.le_of_ble_eq_true rfl) (Nat.le_of_ble_eq_true rfl) (t_X10_in hn hF  rfl) ?_
    refine q_if_eq 40 dX10_post_25 (by decide) (fun hc => ?_) (fun hc => ?_)
    · have h := q_it hc h
      refine q_bipush (v := (-2)) dX10_post_40 (by decide) ?_
      cases h
      exact q_iret dX10_post_42 rfl ⟨rfl, rfl⟩
    · have h := q_if hc h
      refine q_iload_n dX10_post_28 rfl ?_
      refine q_i2l dX10_post_29 ?_
      refine q_lconst (v := 1) dX10_post_30 (by decide) ?_
      refine q_ldc2 dX10_post_31 kX10_273 ?_
      refine c_S1 (as := [_, _, _]) (st := []) dX10_post_34 okX10_in lX10_122 ⟨rfl, rfl⟩ ⟨Nat.le_of_ble_eq_true rfl, Nat.le_of_ble_eq_true rfl⟩ rfl rfl (Nat.le_of_ble_eq_true rfl) (Nat.le_of_ble_eq_true rfl) (t_X10_in hn hF  rfl) ?_
      refine q_if_ne 43 dX10_post_37 (by decide) (fun hc => ?_) (fun hc => ?_)
      · have h := q_if hc h
        refine q_aload_n dX10_post_43 rfl ?_
        refine u_geti dX10_post_44 fX10_275 rfl rfl (Nat.lt_of_lt_of_le (Nat.le_of_ble_eq_true rfl) hn) ?_
        refine q_bipush (v := 10) dX10_post_47 (by decide) ?_
        refine q_icmp_ne 55 dX10_post_49 (by decide) (fun hc => ?_) (fun hc => ?_)
        · have h := q_if hc h
          refine q_aload_n dX10_post_55 rfl ?_
          refine u_getr dX10_post_56 fX10_79 rfl rfl (Nat.lt_of_lt_of_le (Nat.le_of_ble_eq_true rfl) hn) (hF 58 31 77 rfl) ?_
          refine q_aload_n dX10_post_59 rfl ?_
          refine u_geti dX10_post_60 fX10_275 rfl rfl (Nat.lt_of_lt_of_le (Nat.le_of_ble_eq_true rfl) hn) ?_
          refine q_iload_n dX10_post_63 rfl ?_
          obtain ⟨hi1, h⟩ := q_is h
          refine u_iast dX10_post_64 rfl (Nat.lt_of_lt_of_le (Nat.le_of_ble_eq_true rfl) hn) (q_in_vp hi1) ?_
          refine q_aload_n dX10_post_65 rfl ?_
          refine u_getr dX10_post_66 fX10_82 rfl rfl (Nat.lt_of_lt_of_le (Nat.le_of_ble_eq_true rfl) hn) (hF 58 32 78 rfl) ?_
          refine q_aload_n dX10_post_69 rfl ?_
          refine u_geti dX10_post_70 fX10_275 rfl rfl (Nat.lt_of_lt_of_le (Nat.le_of_ble_eq_true rfl) hn) ?_
          refine q_iload_n dX10_post_73 rfl ?_
          obtain ⟨hi2, h⟩ := q_is h
          refine u_iast dX10_post_74 rfl (Nat.lt_of_lt_of_le (Nat.le_of_ble_eq_true rfl) hn) (q_in_vp hi2) ?_
          refine q_aload_n dX10_post_75 rfl ?_
          refine u_getr dX10_post_76 fX10_85 rfl rfl (Nat.lt_of_lt_of_le (Nat.le_of_ble_eq_true rfl) hn) (hF 58 33 79 rfl) ?_
          refine q_aload_n dX10_post_79 rfl ?_
          refine u_geti dX10_post_80 fX10_275 rfl rfl (Nat.lt_of_lt_of_le (Nat.le_of_ble_eq_true rfl) hn) ?_
          refine q_iload_n dX10_post_83 rfl ?_
          obtain ⟨hi3, h⟩ := q_is h
          refine u_iast dX10_post_84 rfl (Nat.lt_of_lt_of_le (Nat.le_of_ble_eq_true rfl) hn) (q_in_vp hi3) ?_
          refine q_aload_n dX10_post_85 rfl ?_
          refine q_dup dX10_post_86 rfl ?_
          refine u_geti dX10_post_87 fX10_275 rfl rfl (Nat.lt_of_lt_of_le (Nat.le_of_ble_eq_true rfl) hn) ?_
          refine q_iconst (v := 1) dX10_post_90 (by decide) ?_
          refine q_iadd dX10_post_91 ?_
          refine u_puti dX10_post_92 fX10_275 rfl rfl (Nat.lt_of_lt_of_le (Nat.le_of_ble_eq_true rfl) hn) rfl rfl rfl ?_
          refine q_aload_n dX10_post_95 rfl ?_
          refine u_geti dX10_post_96 fX10_275 rfl rfl (Nat.lt_of_lt_of_le (Nat.le_of_ble_eq_true rfl) hn) ?_
          refine q_iconst (v := 1) dX10_post_99 (by decide) ?_
          refine q_isub dX10_post_100 ?_
          cases h
          exact q_iret dX10_post_101 rfl ⟨rfl, rfl⟩
        · have h := q_it hc h
          refine q_bipush (v := (-4)) dX10_post_52 (by decide) ?_
          cases h
          exact q_iret dX10_post_54 rfl ⟨rfl, rfl⟩
      · have h := q_it hc h
        refine q_bipush (v := (-2)) dX10_post_40 (by decide) ?_
        cases h
        exact q_iret dX10_post_42 rfl ⟨rfl, rfl⟩
def l_X10_findSeers_47 : Nat → Int32 → Int32 → Int32 → Int32 → Int32 → q_Mm → Option (q_Mm)
  | 0, _, _, _, _, _, _ => none
  | k + 1, y1, y2, y3, y4, y5, m =>
    if (m.1 58 34) ≤ y5 then
      some (m)
    else
      if q_in y2 400 = true then
      if q_in y5 10 = true then
      if q_in y5 10 = true then
      if q_in y5 10 = true then
      if (f_X10_isWithin ((y3 - (m.1 77 y5.toNatClampNeg)).toInt64) ((y4 - (m.1 78 y5.toNatClampNeg)).toInt64) ((m.1 79 y5.toNatClampNeg).toInt64) m) = 0 then
        if q_in y2 400 = true then
        l_X10_findSeers_47 k  y1 y2 y3 y4 (y5 + 1) (q_wi m 80 y2.toNatClampNeg ((m.1 80 y2.toNatClampNeg) ||| 0))
        else none
      else
        if q_in y2 400 = true then
        l_X10_findSeers_47 k  y1 y2 y3 y4 (y5 + 1) (q_wi m 80 y2.toNatClampNeg ((m.1 80 y2.toNatClampNeg) ||| ((1 : Int32) <<< (y5 &&& 31))))
        else none
      else none
      else none
      else none
      else none
set_option maxRecDepth 100000 in
set_option maxHeartbeats 4000000 in
theorem t_l_X10_findSeers_47 {g : q_G} {n : Nat} {F : Nat → Nat → Option Nat} {Z : List Frame → Array Value → State → State → Prop} {kc ks : Nat} (hn : 89 ≤ n) (hF : q_FF F)  : ∀ (k : Nat) (y1 : Int32) (y2 : Int32) (y3 : Int32) (y4 : Int32) (y5 : Int32) (m : q_Mm) {r : q_Mm}, l_X10_findSeers_47 k y1 y2 y3 y4 y5 m = some r → (q_V g mX10_findSeers q_T Z kc ks 114 [(0, q_r g 58), (1, .int y1), (2, .int y2), (3, .int y3), (4, .int y4)] [] (q_mk n F r)) → q_V g mX10_findSeers q_T Z kc ks 47 [(0, q_r g 58), (1, .int y1), (2, .int y2), (3, .int y3), (4, .int y4), (5, .int y5)] [] (q_mk n F m) := by
  intro k
  induction k with
  | zero => intro y1 y2 y3 y4 y5 m r h; cases h
  | succ k ih =>
    intro y1 y2 y3 y4 y5 m r h hx0
    unfold l_X10_findSeers_47 at h
    refine q_iload dX10_findSeers_47 rfl ?_
    refine q_aload_n dX10_findSeers_49 rfl ?_
    refine u_geti dX10_findSeers_50 fX10_275 rfl rfl (Nat.lt_of_lt_of_le (Nat.le_of_ble_eq_true rfl) hn) ?_
    refine q_icmp_ge 114 dX10_findSeers_53 (by decide) (fun hc => ?_) (fun hc => ?_)
    · have h := q_it hc h
      refine q_drop [0, 1, 2, 3, 4] (ls' := [(0, _), (1, _), (2, _), (3, _), (4, _)]) rfl ?_
      cases h
      exact hx0
    · have h := q_if hc h
      refine q_aload_n dX10_findSeers_56 rfl ?_
      refine u_getr dX10_findSeers_57 fX10_88 rfl rfl (Nat.lt_of_lt_of_le (Nat.le_of_ble_eq_true rfl) hn) (hF 58 35 80 rfl) ?_
      refine q_iload_n dX10_findSeers_60 rfl ?_
      refine q_dup2 dX10_findSeers_61 rfl rfl ?_
      obtain ⟨hi2, h⟩ := q_is h
      refine u_iald dX10_findSeers_62 rfl (Nat.lt_of_lt_of_le (Nat.le_of_ble_eq_true rfl) hn) (q_in_vp hi2) ?_
      refine q_iload_n dX10_findSeers_63 rfl ?_
      refine q_aload_n dX10_findSeers_64 rfl ?_
      refine u_getr dX10_findSeers_65 fX10_79 rfl rfl (Nat.lt_of_lt_of_le (Nat.le_of_ble_eq_true rfl) hn) (hF 58 31 77 rfl) ?_
      refine q_iload dX10_findSeers_68 rfl ?_
      obtain ⟨hi3, h⟩ := q_is h
      refine u_iald dX10_findSeers_70 rfl (Nat.lt_of_lt_of_le (Nat.le_of_ble_eq_true rfl) hn) (q_in_vp hi3) ?_
      refine q_isub dX10_findSeers_71 ?_
      refine q_i2l dX10_findSeers_72 ?_
      refine q_iload dX10_findSeers_73 rfl ?_
      refine q_aload_n dX10_findSeers_75 rfl ?_
      refine u_getr dX10_findSeers_76 fX10_82 rfl rfl (Nat.lt_of_lt_of_le (Nat.le_of_ble_eq_true rfl) hn) (hF 58 32 78 rfl) ?_
      refine q_iload dX10_findSeers_79 rfl ?_
      obtain ⟨hi4, h⟩ := q_is h
      refine u_iald dX10_findSeers_81 rfl (Nat.lt_of_lt_of_le (Nat.le_of_ble_eq_true rfl) hn) (q_in_vp hi4) ?_
      refine q_isub dX10_findSeers_82 ?_
      refine q_i2l dX10_findSeers_83 ?_
      refine q_aload_n dX10_findSeers_84 rfl ?_
      refine u_getr dX10_findSeers_85 fX10_85 rfl rfl (Nat.lt_of_lt_of_le (Nat.le_of_ble_eq_true rfl) hn) (hF 58 33 79 rfl) ?_
      refine q_iload dX10_findSeers_88 rfl ?_
      obtain ⟨hi5, h⟩ := q_is h
      refine u_iald dX10_findSeers_90 rfl (Nat.lt_of_lt_of_le (Nat.le_of_ble_eq_true rfl) hn) (q_in_vp hi5) ?_
      refine q_i2l dX10_findSeers_91 ?_
      refine c_S1 (as := [_, _, _]) (st := [_, _, _]) dX10_findSeers_92 okX10_isWithin lX10_244 ⟨rfl, rfl⟩ ⟨Nat.le_of_ble_eq_true rfl, Nat.le_of_ble_eq_true rfl⟩ rfl rfl (Nat.le_of_ble_eq_true rfl) (Nat.le_of_ble_eq_true rfl) (t_X10_isWithin hn hF  rfl) ?_
      refine q_if_eq 105 dX10_findSeers_95 (by decide) (fun hc => ?_) (fun hc => ?_)
      · have h := q_it hc h
        refine q_iconst (v := 0) dX10_findSeers_105 (by decide) ?_
        refine q_ior dX10_findSeers_106 ?_
        obtain ⟨hi6, h⟩ := q_is h
        refine u_iast dX10_findSeers_107 rfl (Nat.lt_of_lt_of_le (Nat.le_of_ble_eq_true rfl) hn) (q_in_vp hi6) ?_
        refine q_iinc1 (w := 1) (ls' := [(0, _), (1, _), (2, _), (3, _), (4, _), (5, _)]) [0, 1, 2, 3, 4, 5] dX10_findSeers_108 rfl (by decide) (Nat.le_of_ble_eq_true rfl) rfl ?_
        refine q_goto 47 dX10_findSeers_111 (by decide) ?_
        exact ih _ _ _ _ _ _ h hx0
      · have h := q_if hc h
        refine q_iconst (v := 1) dX10_findSeers_98 (by decide) ?_
        refine q_iload dX10_findSeers_99 rfl ?_
        refine q_ishl dX10_findSeers_101 ?_
        refine q_goto 106 dX10_findSeers_102 (by decide) ?_
        refine q_ior dX10_findSeers_106 ?_
        obtain ⟨hi7, h⟩ := q_is h
        refine u_iast dX10_findSeers_107 rfl (Nat.lt_of_lt_of_le (Nat.le_of_ble_eq_true rfl) hn) (q_in_vp hi7) ?_
        refine q_iinc1 (w := 1) (ls' := [(0, _), (1, _), (2, _), (3, _), (4, _), (5, _)]) [0, 1, 2, 3, 4, 5] dX10_findSeers_108 rfl (by decide) (Nat.le_of_ble_eq_true rfl) rfl ?_
        refine q_goto 47 dX10_findSeers_111 (by decide) ?_
        exact ih _ _ _ _ _ _ h hx0
def l_X10_findSeers_14 : Nat → Int32 → Int32 → Int32 → Int32 → q_Mm → Option (Int32 × q_Mm)
  | 0, _, _, _, _, _ => none
  | k + 1, y1, y2, y3, y4, m =>
    if y1 < y4 then
      some (y2, m)
    else
      if (f_X10_size y3 m) = y1 then
        if q_in y2 400 = true then
        (l_X10_findSeers_47 7000  y1 y2 y3 y4 0 (q_wi m 80 y2.toNatClampNeg 0)).bind fun r8 =>
        l_X10_findSeers_14 k  y1 (y2 + 1) y3 (y4 + 1) r8
        else none
      else
        if (f_X10_size y4 m) = y1 then
          if q_in y2 400 = true then
          (l_X10_findSeers_47 7000  y1 y2 y3 y4 0 (q_wi m 80 y2.toNatClampNeg 0)).bind fun r11 =>
          l_X10_findSeers_14 k  y1 (y2 + 1) y3 (y4 + 1) r11
          else none
        else
          l_X10_findSeers_14 k  y1 y2 y3 (y4 + 1) m
set_option maxRecDepth 100000 in
set_option maxHeartbeats 4000000 in
theorem t_l_X10_findSeers_14 {g : q_G} {n : Nat} {F : Nat → Nat → Option Nat} {Z : List Frame → Array Value → State → State → Prop} {kc ks : Nat} (hn : 89 ≤ n) (hF : q_FF F)  : ∀ (k : Nat) (y1 : Int32) (y2 : Int32) (y3 : Int32) (y4 : Int32) (m : q_Mm) {r : Int32 × q_Mm}, l_X10_findSeers_14 k y1 y2 y3 y4 m = some r → (q_V g mX10_findSeers q_T Z kc ks 123 [(0, q_r g 58), (1, .int y1), (2, .int r.1), (3, .int y3)] [] (q_mk n F r.2)) → q_V g mX10_findSeers q_T Z kc ks 14 [(0, q_r g 58), (1, .int y1), (2, .int y2), (3, .int y3), (4, .int y4)] [] (q_mk n F m) := by
  intro k
  induction k with
  | zero => intro y1 y2 y3 y4 m r h; cases h
  | succ k ih =>
    intro y1 y2 y3 y4 m r h hx0
    unfold l_X10_findSeers_14 at h
    refine q_iload dX10_findSeers_14 rfl ?_
    refine q_iload_n dX10_findSeers_16 rfl ?_
    refine q_icmp_gt 123 dX10_findSeers_17 (by decide) (fun hc => ?_) (fun hc => ?_)
    · have h := q_it hc h
      refine q_drop [0, 1, 2, 3] (ls' := [(0, _), (1, _), (2, _), (3, _)]) rfl ?_
      cases h
      exact hx0
    · have h := q_if hc h
      refine q_iload_n dX10_findSeers_20 rfl ?_
      refine c_S1 (as := [_]) (st := []) dX10_findSeers_21 okX10_size lX10_145 ⟨rfl, rfl⟩ ⟨Nat.le_of_ble_eq_true rfl, Nat.le_of_ble_eq_true rfl⟩ rfl rfl (Nat.le_of_ble_eq_true rfl) (Nat.le_of_ble_eq_true rfl) (t_X10_size hn hF  rfl) ?_
      refine q_iload_n dX10_findSeers_24 rfl ?_
      refine q_icmp_eq 37 dX10_findSeers_25 (by decide) (fun hc => ?_) (fun hc => ?_)
      · have h := q_it hc h
        refine q_aload_n dX10_findSeers_37 rfl ?_
        refine u_getr dX10_findSeers_38 fX10_88 rfl rfl (Nat.lt_of_lt_of_le (Nat.le_of_ble_eq_true rfl) hn) (hF 58 35 80 rfl) ?_
        refine q_iload_n dX10_findSeers_41 rfl ?_
        refine q_iconst (v := 0) dX10_findSeers_42 (by decide) ?_
        obtain ⟨hi1, h⟩ := q_is h
        refine u_iast dX10_findSeers_43 rfl (Nat.lt_of_lt_of_le (Nat.le_of_ble_eq_true rfl) hn) (q_in_vp hi1) ?_
        refine q_iconst (v := 0) dX10_findSeers_44 (by decide) ?_
        refine q_istore (ls' := [(0, _), (1, _), (2, _), (3, _), (4, _), (5, _)]) [0, 1, 2, 3, 4, 5] dX10_findSeers_45 (Nat.le_of_ble_eq_true rfl) rfl ?_
        obtain ⟨r8, hr9, h⟩ := q_bd h
        refine t_l_X10_findSeers_47 hn hF  7000 _ _ _ _ _ _ hr9 ?_
        refine q_iinc1 (w := 1) (ls' := [(0, _), (1, _), (2, _), (3, _), (4, _)]) [0, 1, 2, 3, 4] dX10_findSeers_114 rfl (by decide) (Nat.le_of_ble_eq_true rfl) rfl ?_
        refine q_iinc1 (w := 1) (ls' := [(0, _), (1, _), (2, _), (3, _), (4, _)]) [0, 1, 2, 3, 4] dX10_findSeers_117 rfl (by decide) (Nat.le_of_ble_eq_true rfl) rfl ?_
        refine q_goto 14 dX10_findSeers_120 (by decide) ?_
        exact ih _ _ _ _ _ h hx0
      · have h := q_if hc h
        refine q_iload dX10_findSeers_28 rfl ?_
        refine c_S1 (as := [_]) (st := []) dX10_findSeers_30 okX10_size lX10_145 ⟨rfl, rfl⟩ ⟨Nat.le_of_ble_eq_true rfl, Nat.le_of_ble_eq_true rfl⟩ rfl rfl (Nat.le_of_ble_eq_true rfl) (Nat.le_of_ble_eq_true rfl) (t_X10_size hn hF  rfl) ?_
        refine q_iload_n dX10_findSeers_33 rfl ?_
        refine q_icmp_ne 117 dX10_findSeers_34 (by decide) (fun hc => ?_) (fun hc => ?_)
        · have h := q_if hc h
          refine q_iinc1 (w := 1) (ls' := [(0, _), (1, _), (2, _), (3, _), (4, _)]) [0, 1, 2, 3, 4] dX10_findSeers_117 rfl (by decide) (Nat.le_of_ble_eq_true rfl) rfl ?_
          refine q_goto 14 dX10_findSeers_120 (by decide) ?_
          exact ih _ _ _ _ _ h hx0
        · have h := q_it hc h
          refine q_aload_n dX10_findSeers_37 rfl ?_
          refine u_getr dX10_findSeers_38 fX10_88 rfl rfl (Nat.lt_of_lt_of_le (Nat.le_of_ble_eq_true rfl) hn) (hF 58 35 80 rfl) ?_
          refine q_iload_n dX10_findSeers_41 rfl ?_
          refine q_iconst (v := 0) dX10_findSeers_42 (by decide) ?_
          obtain ⟨hi10, h⟩ := q_is h
          refine u_iast dX10_findSeers_43 rfl (Nat.lt_of_lt_of_le (Nat.le_of_ble_eq_true rfl) hn) (q_in_vp hi10) ?_
          refine q_iconst (v := 0) dX10_findSeers_44 (by decide) ?_
          refine q_istore (ls' := [(0, _), (1, _), (2, _), (3, _), (4, _), (5, _)]) [0, 1, 2, 3, 4, 5] dX10_findSeers_45 (Nat.le_of_ble_eq_true rfl) rfl ?_
          obtain ⟨r11, hr12, h⟩ := q_bd h
          refine t_l_X10_findSeers_47 hn hF  7000 _ _ _ _ _ _ hr12 ?_
          refine q_iinc1 (w := 1) (ls' := [(0, _), (1, _), (2, _), (3, _), (4, _)]) [0, 1, 2, 3, 4] dX10_findSeers_114 rfl (by decide) (Nat.le_of_ble_eq_true rfl) rfl ?_
          refine q_iinc1 (w := 1) (ls' := [(0, _), (1, _), (2, _), (3, _), (4, _)]) [0, 1, 2, 3, 4] dX10_findSeers_117 rfl (by decide) (Nat.le_of_ble_eq_true rfl) rfl ?_
          refine q_goto 14 dX10_findSeers_120 (by decide) ?_
          exact ih _ _ _ _ _ h hx0
def l_X10_findSeers_5 : Nat → Int32 → Int32 → Int32 → q_Mm → Option (q_Mm)
  | 0, _, _, _, _ => none
  | k + 1, y1, y2, y3, m =>
    if y1 < y3 then
      some (m)
    else
      (l_X10_findSeers_14 7000  y1 y2 y3 (-y1) m).bind fun r13 =>
      l_X10_findSeers_5 k  y1 r13.1 (y3 + 1) r13.2
set_option maxRecDepth 100000 in
set_option maxHeartbeats 4000000 in
theorem t_l_X10_findSeers_5 {g : q_G} {n : Nat} {F : Nat → Nat → Option Nat} {Z : List Frame → Array Value → State → State → Prop} {kc ks : Nat} (hn : 89 ≤ n) (hF : q_FF F)  : ∀ (k : Nat) (y1 : Int32) (y2 : Int32) (y3 : Int32) (m : q_Mm) {r : q_Mm}, l_X10_findSeers_5 k y1 y2 y3 m = some r → (q_V g mX10_findSeers q_T Z kc ks 129 [] [] (q_mk n F r)) → q_V g mX10_findSeers q_T Z kc ks 5 [(0, q_r g 58), (1, .int y1), (2, .int y2), (3, .int y3)] [] (q_mk n F m) := by
  intro k
  induction k with
  | zero => intro y1 y2 y3 m r h; cases h
  | succ k ih =>
    intro y1 y2 y3 m r h hx0
    unfold l_X10_findSeers_5 at h
    refine q_iload_n dX10_findSeers_5 rfl ?_
    refine q_iload_n dX10_findSeers_6 rfl ?_
    refine q_icmp_gt 129 dX10_findSeers_7 (by decide) (fun hc => ?_) (fun hc => ?_)
    · have h := q_it hc h
      refine q_drop [] (ls' := []) rfl ?_
      cases h
      exact hx0
    · have h := q_if hc h
      refine q_iload_n dX10_findSeers_10 rfl ?_
      refine q_ineg dX10_findSeers_11 ?_
      refine q_istore (ls' := [(0, _), (1, _), (2, _), (3, _), (4, _)]) [0, 1, 2, 3, 4] dX10_findSeers_12 (Nat.le_of_ble_eq_true rfl) rfl ?_
      obtain ⟨r13, hr14, h⟩ := q_bd h
      refine t_l_X10_findSeers_14 hn hF  7000 _ _ _ _ _ hr14 ?_
      refine q_iinc1 (w := 1) (ls' := [(0, _), (1, _), (2, _), (3, _)]) [0, 1, 2, 3] dX10_findSeers_123 rfl (by decide) (Nat.le_of_ble_eq_true rfl) rfl ?_
      refine q_goto 5 dX10_findSeers_126 (by decide) ?_
      exact ih _ _ _ _ h hx0
def f_X10_findSeers (x1 : Int32) (m : q_Mm) : Option (q_Mm) :=
  (l_X10_findSeers_5 7000  x1 0 (-x1) m).bind fun r15 =>
  some (r15)
set_option maxRecDepth 100000 in
set_option maxHeartbeats 4000000 in
theorem t_X10_findSeers {g : q_G} {n : Nat} {F : Nat → Nat → Option Nat} (hn : 89 ≤ n) (hF : q_FF F)  {x1 : Int32} {m : q_Mm} {r : q_Mm} (h : f_X10_findSeers x1 m = some r) : q_Cn g mX10_findSeers [q_r g 58, .int x1] (q_mk n F m) (q_Q none (q_mk n F r)) := by
  unfold f_X10_findSeers at h
  show q_V g mX10_findSeers q_T _ _ _ 0 [(0, q_r g 58), (1, .int x1)] [] (q_mk n F m)
  refine q_iconst (v := 0) dX10_findSeers_0 (by decide) ?_
  refine q_istore_n (ls' := [(0, _), (1, _), (2, _)]) [0, 1, 2] dX10_findSeers_1 (Nat.le_of_ble_eq_true rfl) rfl ?_
  refine q_iload_n dX10_findSeers_2 rfl ?_
  refine q_ineg dX10_findSeers_3 ?_
  refine q_istore_n (ls' := [(0, _), (1, _), (2, _), (3, _)]) [0, 1, 2, 3] dX10_findSeers_4 (Nat.le_of_ble_eq_true rfl) rfl ?_
  obtain ⟨r15, hr16, h⟩ := q_bd h
  refine t_l_X10_findSeers_5 hn hF  7000 _ _ _ _ hr16 ?_
  cases h
  exact q_vret dX10_findSeers_129 rfl ⟨rfl, rfl⟩
def l_X10_seenBy_5 : Nat → Int32 → Int32 → Int32 → Int32 → q_Mm → Option (Int32)
  | 0, _, _, _, _, _ => none
  | k + 1, y1, y2, y3, y4, m =>
    if (8 * y2) ≤ y4 then
      some (y3)
    else
      if q_in y4 400 = true then
      if ((m.1 80 y4.toNatClampNeg) &&& y1) = 0 then
        l_X10_seenBy_5 k  y1 y2 (y3 + 0) (y4 + 1) m
      else
        l_X10_seenBy_5 k  y1 y2 (y3 + 1) (y4 + 1) m
      else none
set_option maxRecDepth 100000 in
set_option maxHeartbeats 4000000 in
theorem t_l_X10_seenBy_5 {g : q_G} {n : Nat} {F : Nat → Nat → Option Nat} {Z : List Frame → Array Value → State → State → Prop} {kc ks : Nat} (hn : 89 ≤ n) (hF : q_FF F)  : ∀ (k : Nat) (y1 : Int32) (y2 : Int32) (y3 : Int32) (y4 : Int32) (m : q_Mm) {r : Int32}, l_X10_seenBy_5 k y1 y2 y3 y4 m = some r → (q_V g mX10_seenBy q_T Z kc ks 40 [(3, .int r)] [] (q_mk n F m)) → q_V g mX10_seenBy q_T Z kc ks 5 [(0, q_r g 58), (1, .int y1), (2, .int y2), (3, .int y3), (4, .int y4)] [] (q_mk n F m) := by
  intro k
  induction k with
  | zero => intro y1 y2 y3 y4 m r h; cases h
  | succ k ih =>
    intro y1 y2 y3 y4 m r h hx0
    unfold l_X10_seenBy_5 at h
    refine q_iload dX10_seenBy_5 rfl ?_
    refine q_bipush (v := 8) dX10_seenBy_7 (by decide) ?_
    refine q_iload_n dX10_seenBy_9 rfl ?_
    refine q_imul dX10_seenBy_10 ?_
    refine q_icmp_ge 40 dX10_seenBy_11 (by decide) (fun hc => ?_) (fun hc => ?_)
    · have h := q_it hc h
      refine q_drop [3] (ls' := [(3, _)]) rfl ?_
      cases h
      exact hx0
    · have h := q_if hc h
      refine q_iload_n dX10_seenBy_14 rfl ?_
      refine q_aload_n dX10_seenBy_15 rfl ?_
      refine u_getr dX10_seenBy_16 fX10_88 rfl rfl (Nat.lt_of_lt_of_le (Nat.le_of_ble_eq_true rfl) hn) (hF 58 35 80 rfl) ?_
      refine q_iload dX10_seenBy_19 rfl ?_
      obtain ⟨hi1, h⟩ := q_is h
      refine u_iald dX10_seenBy_21 rfl (Nat.lt_of_lt_of_le (Nat.le_of_ble_eq_true rfl) hn) (q_in_vp hi1) ?_
      refine q_iload_n dX10_seenBy_22 rfl ?_
      refine q_iand dX10_seenBy_23 ?_
      refine q_if_eq 31 dX10_seenBy_24 (by decide) (fun hc => ?_) (fun hc => ?_)
      · have h := q_it hc h
        refine q_iconst (v := 0) dX10_seenBy_31 (by decide) ?_
        refine q_iadd dX10_seenBy_32 ?_
        refine q_istore_n (ls' := [(0, _), (1, _), (2, _), (3, _), (4, _)]) [0, 1, 2, 3, 4] dX10_seenBy_33 (Nat.le_of_ble_eq_true rfl) rfl ?_
        refine q_iinc1 (w := 1) (ls' := [(0, _), (1, _), (2, _), (3, _), (4, _)]) [0, 1, 2, 3, 4] dX10_seenBy_34 rfl (by decide) (Nat.le_of_ble_eq_true rfl) rfl ?_
        refine q_goto 5 dX10_seenBy_37 (by decide) ?_
        exact ih _ _ _ _ _ h hx0
      · have h := q_if hc h
        refine q_iconst (v := 1) dX10_seenBy_27 (by decide) ?_
        refine q_goto 32 dX10_seenBy_28 (by decide) ?_
        refine q_iadd dX10_seenBy_32 ?_
        refine q_istore_n (ls' := [(0, _), (1, _), (2, _), (3, _), (4, _)]) [0, 1, 2, 3, 4] dX10_seenBy_33 (Nat.le_of_ble_eq_true rfl) rfl ?_
        refine q_iinc1 (w := 1) (ls' := [(0, _), (1, _), (2, _), (3, _), (4, _)]) [0, 1, 2, 3, 4] dX10_seenBy_34 rfl (by decide) (Nat.le_of_ble_eq_true rfl) rfl ?_
        refine q_goto 5 dX10_seenBy_37 (by decide) ?_
        exact ih _ _ _ _ _ h hx0
def f_X10_seenBy (x1 : Int32) (x2 : Int32) (m : q_Mm) : Option (Int32) :=
  (l_X10_seenBy_5 7000  x1 x2 0 0 m).bind fun r2 =>
  some (r2)
set_option maxRecDepth 100000 in
set_option maxHeartbeats 4000000 in
theorem t_X10_seenBy {g : q_G} {n : Nat} {F : Nat → Nat → Option Nat} (hn : 89 ≤ n) (hF : q_FF F)  {x1 : Int32} {x2 : Int32} {m : q_Mm} {r : Int32} (h : f_X10_seenBy x1 x2 m = some r) : q_Cn g mX10_seenBy [q_r g 58, .int x1, .int x2] (q_mk n F m) (q_Q (some (.int r)) (q_mk n F m)) := by
  unfold f_X10_seenBy at h
  show q_V g mX10_seenBy q_T _ _ _ 0 [(0, q_r g 58), (1, .int x1), (2, .int x2)] [] (q_mk n F m)
  refine q_iconst (v := 0) dX10_seenBy_0 (by decide) ?_
  refine q_istore_n (ls' := [(0, _), (1, _), (2, _), (3, _)]) [0, 1, 2, 3] dX10_seenBy_1 (Nat.le_of_ble_eq_true rfl) rfl ?_
  refine q_iconst (v := 0) dX10_seenBy_2 (by decide) ?_
  refine q_istore (ls' := [(0, _), (1, _), (2, _), (3, _), (4, _)]) [0, 1, 2, 3, 4] dX10_seenBy_3 (Nat.le_of_ble_eq_true rfl) rfl ?_
  obtain ⟨r2, hr3, h⟩ := q_bd h
  refine t_l_X10_seenBy_5 hn hF  7000 _ _ _ _ _ hr3 ?_
  refine q_iload_n dX10_seenBy_40 rfl ?_
  cases h
  exact q_iret dX10_seenBy_41 rfl ⟨rfl, rfl⟩
def f_X10_seen (x1 : Int32) (x2 : Int32) (m : q_Mm) : Option (Int32 × q_Mm) :=
  if (f_X10_in x1.toInt64 0 ((((1 : Int32) <<< ((m.1 58 34) &&& 31)) - 1).toInt64) m) = 0 then
    some (((-2), m))
  else
    if (f_X10_in x2.toInt64 1 50 m) = 0 then
      some (((-2), m))
    else
      (f_X10_findSeers x2 m).bind fun r1 =>
      (f_X10_seenBy x1 x2 r1).bind fun r3 =>
      some ((r3, r1))
set_option maxRecDepth 100000 in
set_option maxHeartbeats 4000000 in
theorem t_X10_seen {g : q_G} {n : Nat} {F : Nat → Nat → Option Nat} (hn : 89 ≤ n) (hF : q_FF F)  {x1 : Int32} {x2 : Int32} {m : q_Mm} {r : Int32 × q_Mm} (h : f_X10_seen x1 x2 m = some r) : q_Cn g mX10_seen [q_r g 58, .int x1, .int x2] (q_mk n F m) (q_Q (some (.int r.1)) (q_mk n F r.2)) := by
  unfold f_X10_seen at h
  show q_V g mX10_seen q_T _ _ _ 0 [(0, q_r g 58), (1, .int x1), (2, .int x2)] [] (q_mk n F m)
  refine q_iload_n dX10_seen_0 rfl ?_
  refine q_i2l dX10_seen_1 ?_
  refine q_lconst (v := 0) dX10_seen_2 (by decide) ?_
  refine q_iconst (v := 1) dX10_seen_3 (by decide) ?_
  refine q_aload_n dX10_seen_4 rfl ?_
  refine u_geti dX10_seen_5 fX10_275 rfl rfl (Nat.lt_of_lt_of_le (Nat.le_of_ble_eq_true rfl) hn) ?_
  refine q_ishl dX10_seen_8 ?_
  refine q_iconst (v := 1) dX10_seen_9 (by decide) ?_
  refine q_isub dX10_seen_10 ?_
  refine q_i2l dX10_seen_11 ?_
  refine c_S1 (as := [_, _, _]) (st := []) dX10_seen_12 okX10_in lX10_122 ⟨rfl, rfl⟩ ⟨Nat.le_of_ble_eq_true rfl, Nat.le_of_ble_eq_true rfl⟩ rfl rfl (Nat.le_of_ble_eq_true rfl) (Nat.le_of_ble_eq_true rfl) (t_X10_in hn hF  rfl) ?_
  refine q_if_eq 30 dX10_seen_15 (by decide) (fun hc => ?_) (fun hc => ?_)
  · have h := q_it hc h
    refine q_bipush (v := (-2)) dX10_seen_30 (by decide) ?_
    cases h
    exact q_iret dX10_seen_32 rfl ⟨rfl, rfl⟩
  · have h := q_if hc h
    refine q_iload_n dX10_seen_18 rfl ?_
    refine q_i2l dX10_seen_19 ?_
    refine q_lconst (v := 1) dX10_seen_20 (by decide) ?_
    refine q_ldc2 dX10_seen_21 kX10_271 ?_
    refine c_S1 (as := [_, _, _]) (st := []) dX10_seen_24 okX10_in lX10_122 ⟨rfl, rfl⟩ ⟨Nat.le_of_ble_eq_true rfl, Nat.le_of_ble_eq_true rfl⟩ rfl rfl (Nat.le_of_ble_eq_true rfl) (Nat.le_of_ble_eq_true rfl) (t_X10_in hn hF  rfl) ?_
    refine q_if_ne 33 dX10_seen_27 (by decide) (fun hc => ?_) (fun hc => ?_)
    · have h := q_if hc h
      refine q_aload_n dX10_seen_33 rfl ?_
      refine q_iload_n dX10_seen_34 rfl ?_
      obtain ⟨r1, hr2, h⟩ := q_bd h
      refine c_V0 (as := [_]) (st := []) (ci := 10) dX10_seen_35 okX10_findSeers lX10_278 ⟨rfl, rfl⟩ ⟨Nat.le_of_ble_eq_true rfl, Nat.le_of_ble_eq_true rfl⟩ (by decide) rfl rfl (Nat.lt_of_lt_of_le (Nat.le_of_ble_eq_true rfl) hn) rfl rfl (Nat.le_of_ble_eq_true rfl) (Nat.le_of_ble_eq_true rfl) (t_X10_findSeers hn hF  hr2) ?_
      refine q_aload_n dX10_seen_38 rfl ?_
      refine q_iload_n dX10_seen_39 rfl ?_
      refine q_iload_n dX10_seen_40 rfl ?_
      obtain ⟨r3, hr4, h⟩ := q_bd h
      refine c_V1 (as := [_, _]) (st := []) (ci := 10) dX10_seen_41 okX10_seenBy lX10_281 ⟨rfl, rfl⟩ ⟨Nat.le_of_ble_eq_true rfl, Nat.le_of_ble_eq_true rfl⟩ (by decide) rfl rfl (Nat.lt_of_lt_of_le (Nat.le_of_ble_eq_true rfl) hn) rfl rfl (Nat.le_of_ble_eq_true rfl) (Nat.le_of_ble_eq_true rfl) (t_X10_seenBy hn hF  hr4) ?_
      cases h
      exact q_iret dX10_seen_44 rfl ⟨rfl, rfl⟩
    · have h := q_it hc h
      refine q_bipush (v := (-2)) dX10_seen_30 (by decide) ?_
      cases h
      exact q_iret dX10_seen_32 rfl ⟨rfl, rfl⟩
def l_X10_ones_4 : Nat → Int32 → Int32 → Int32 → q_Mm → Option (Int32)
  | 0, _, _, _, _ => none
  | k + 1, y0, y1, y2, m =>
    if 10 ≤ y2 then
      some (y1)
    else
      l_X10_ones_4 k  y0 (y1 + ((y0 >>> (y2 &&& 31)) &&& 1)) (y2 + 1) m
set_option maxRecDepth 100000 in
set_option maxHeartbeats 4000000 in
theorem t_l_X10_ones_4 {g : q_G} {n : Nat} {F : Nat → Nat → Option Nat} {Z : List Frame → Array Value → State → State → Prop} {kc ks : Nat} (hn : 89 ≤ n) (hF : q_FF F)  : ∀ (k : Nat) (y0 : Int32) (y1 : Int32) (y2 : Int32) (m : q_Mm) {r : Int32}, l_X10_ones_4 k y0 y1 y2 m = some r → (q_V g mX10_ones q_T Z kc ks 24 [(1, .int r)] [] (q_mk n F m)) → q_V g mX10_ones q_T Z kc ks 4 [(0, .int y0), (1, .int y1), (2, .int y2)] [] (q_mk n F m) := by
  intro k
  induction k with
  | zero => intro y0 y1 y2 m r h; cases h
  | succ k ih =>
    intro y0 y1 y2 m r h hx0
    unfold l_X10_ones_4 at h
    refine q_iload_n dX10_ones_4 rfl ?_
    refine q_bipush (v := 10) dX10_ones_5 (by decide) ?_
    refine q_icmp_ge 24 dX10_ones_7 (by decide) (fun hc => ?_) (fun hc => ?_)
    · have h := q_it hc h
      refine q_drop [1] (ls' := [(1, _)]) rfl ?_
      cases h
      exact hx0
    · have h := q_if hc h
      refine q_iload_n dX10_ones_10 rfl ?_
      refine q_iload_n dX10_ones_11 rfl ?_
      refine q_iload_n dX10_ones_12 rfl ?_
      refine q_ishr dX10_ones_13 ?_
      refine q_iconst (v := 1) dX10_ones_14 (by decide) ?_
      refine q_iand dX10_ones_15 ?_
      refine q_iadd dX10_ones_16 ?_
      refine q_istore_n (ls' := [(0, _), (1, _), (2, _)]) [0, 1, 2] dX10_ones_17 (Nat.le_of_ble_eq_true rfl) rfl ?_
      refine q_iinc1 (w := 1) (ls' := [(0, _), (1, _), (2, _)]) [0, 1, 2] dX10_ones_18 rfl (by decide) (Nat.le_of_ble_eq_true rfl) rfl ?_
      refine q_goto 4 dX10_ones_21 (by decide) ?_
      exact ih _ _ _ _ h hx0
def f_X10_ones (x0 : Int32) (m : q_Mm) : Option (Int32) :=
  (l_X10_ones_4 7000  x0 0 0 m).bind fun r1 =>
  some (r1)
set_option maxRecDepth 100000 in
set_option maxHeartbeats 4000000 in
theorem t_X10_ones {g : q_G} {n : Nat} {F : Nat → Nat → Option Nat} (hn : 89 ≤ n) (hF : q_FF F)  {x0 : Int32} {m : q_Mm} {r : Int32} (h : f_X10_ones x0 m = some r) : q_Cn g mX10_ones [.int x0] (q_mk n F m) (q_Q (some (.int r)) (q_mk n F m)) := by
  unfold f_X10_ones at h
  show q_V g mX10_ones q_T _ _ _ 0 [(0, .int x0)] [] (q_mk n F m)
  refine q_iconst (v := 0) dX10_ones_0 (by decide) ?_
  refine q_istore_n (ls' := [(0, _), (1, _)]) [0, 1] dX10_ones_1 (Nat.le_of_ble_eq_true rfl) rfl ?_
  refine q_iconst (v := 0) dX10_ones_2 (by decide) ?_
  refine q_istore_n (ls' := [(0, _), (1, _), (2, _)]) [0, 1, 2] dX10_ones_3 (Nat.le_of_ble_eq_true rfl) rfl ?_
  obtain ⟨r1, hr2, h⟩ := q_bd h
  refine t_l_X10_ones_4 hn hF  7000 _ _ _ _ hr2 ?_
  refine q_iload_n dX10_ones_24 rfl ?_
  cases h
  exact q_iret dX10_ones_25 rfl ⟨rfl, rfl⟩
def l_X10_best_42 : Nat → Int32 → Int32 → Int32 → Int32 → Int32 → q_Mm → Option (Int32)
  | 0, _, _, _, _, _, _ => none
  | k + 1, y1, y2, y3, y4, y5, m =>
    if ((1 : Int32) <<< ((m.1 58 34) &&& 31)) ≤ y5 then
      some (y3)
    else
      (f_X10_ones y5 m).bind fun r3 =>
      if r3 = y1 then
        (f_X10_seenBy y5 y2 m).bind fun r5 =>
        if r5 ≤ y4 then
          l_X10_best_42 k  y1 y2 y3 y4 (y5 + 1) m
        else
          (f_X10_seenBy y5 y2 m).bind fun r7 =>
          l_X10_best_42 k  y1 y2 y5 r7 (y5 + 1) m
      else
        l_X10_best_42 k  y1 y2 y3 y4 (y5 + 1) m
set_option maxRecDepth 100000 in
set_option maxHeartbeats 4000000 in
theorem t_l_X10_best_42 {g : q_G} {n : Nat} {F : Nat → Nat → Option Nat} {Z : List Frame → Array Value → State → State → Prop} {kc ks : Nat} (hn : 89 ≤ n) (hF : q_FF F)  : ∀ (k : Nat) (y1 : Int32) (y2 : Int32) (y3 : Int32) (y4 : Int32) (y5 : Int32) (m : q_Mm) {r : Int32}, l_X10_best_42 k y1 y2 y3 y4 y5 m = some r → (q_V g mX10_best q_T Z kc ks 92 [(3, .int r)] [] (q_mk n F m)) → q_V g mX10_best q_T Z kc ks 42 [(0, q_r g 58), (1, .int y1), (2, .int y2), (3, .int y3), (4, .int y4), (5, .int y5)] [] (q_mk n F m) := by
  intro k
  induction k with
  | zero => intro y1 y2 y3 y4 y5 m r h; cases h
  | succ k ih =>
    intro y1 y2 y3 y4 y5 m r h hx0
    unfold l_X10_best_42 at h
    refine q_iload dX10_best_42 rfl ?_
    refine q_iconst (v := 1) dX10_best_44 (by decide) ?_
    refine q_aload_n dX10_best_45 rfl ?_
    refine u_geti dX10_best_46 fX10_275 rfl rfl (Nat.lt_of_lt_of_le (Nat.le_of_ble_eq_true rfl) hn) ?_
    refine q_ishl dX10_best_49 ?_
    refine q_icmp_ge 92 dX10_best_50 (by decide) (fun hc => ?_) (fun hc => ?_)
    · have h := q_it hc h
      refine q_drop [3] (ls' := [(3, _)]) rfl ?_
      cases h
      exact hx0
    · have h := q_if hc h
      refine q_iload dX10_best_53 rfl ?_
      obtain ⟨r3, hr4, h⟩ := q_bd h
      refine c_S1 (as := [_]) (st := []) dX10_best_55 okX10_ones lX10_284 ⟨rfl, rfl⟩ ⟨Nat.le_of_ble_eq_true rfl, Nat.le_of_ble_eq_true rfl⟩ rfl rfl (Nat.le_of_ble_eq_true rfl) (Nat.le_of_ble_eq_true rfl) (t_X10_ones hn hF  hr4) ?_
      refine q_iload_n dX10_best_58 rfl ?_
      refine q_icmp_ne 86 dX10_best_59 (by decide) (fun hc => ?_) (fun hc => ?_)
      · have h := q_if hc h
        refine q_iinc1 (w := 1) (ls' := [(0, _), (1, _), (2, _), (3, _), (4, _), (5, _)]) [0, 1, 2, 3, 4, 5] dX10_best_86 rfl (by decide) (Nat.le_of_ble_eq_true rfl) rfl ?_
        refine q_goto 42 dX10_best_89 (by decide) ?_
        exact ih _ _ _ _ _ _ h hx0
      · have h := q_it hc h
        refine q_aload_n dX10_best_62 rfl ?_
        refine q_iload dX10_best_63 rfl ?_
        refine q_iload_n dX10_best_65 rfl ?_
        obtain ⟨r5, hr6, h⟩ := q_bd h
        refine c_V1 (as := [_, _]) (st := []) (ci := 10) dX10_best_66 okX10_seenBy lX10_281 ⟨rfl, rfl⟩ ⟨Nat.le_of_ble_eq_true rfl, Nat.le_of_ble_eq_true rfl⟩ (by decide) rfl rfl (Nat.lt_of_lt_of_le (Nat.le_of_ble_eq_true rfl) hn) rfl rfl (Nat.le_of_ble_eq_true rfl) (Nat.le_of_ble_eq_true rfl) (t_X10_seenBy hn hF  hr6) ?_
        refine q_iload dX10_best_69 rfl ?_
        refine q_icmp_le 86 dX10_best_71 (by decide) (fun hc => ?_) (fun hc => ?_)
        · have h := q_it hc h
          refine q_iinc1 (w := 1) (ls' := [(0, _), (1, _), (2, _), (3, _), (4, _), (5, _)]) [0, 1, 2, 3, 4, 5] dX10_best_86 rfl (by decide) (Nat.le_of_ble_eq_true rfl) rfl ?_
          refine q_goto 42 dX10_best_89 (by decide) ?_
          exact ih _ _ _ _ _ _ h hx0
        · have h := q_if hc h
          refine q_aload_n dX10_best_74 rfl ?_
          refine q_iload dX10_best_75 rfl ?_
          refine q_iload_n dX10_best_77 rfl ?_
          obtain ⟨r7, hr8, h⟩ := q_bd h
          refine c_V1 (as := [_, _]) (st := []) (ci := 10) dX10_best_78 okX10_seenBy lX10_281 ⟨rfl, rfl⟩ ⟨Nat.le_of_ble_eq_true rfl, Nat.le_of_ble_eq_true rfl⟩ (by decide) rfl rfl (Nat.lt_of_lt_of_le (Nat.le_of_ble_eq_true rfl) hn) rfl rfl (Nat.le_of_ble_eq_true rfl) (Nat.le_of_ble_eq_true rfl) (t_X10_seenBy hn hF  hr8) ?_
          refine q_istore (ls' := [(0, _), (1, _), (2, _), (4, _), (5, _)]) [0, 1, 2, 4, 5] dX10_best_81 (Nat.le_of_ble_eq_true rfl) rfl ?_
          refine q_iload dX10_best_83 rfl ?_
          refine q_istore_n (ls' := [(0, _), (1, _), (2, _), (3, _), (4, _), (5, _)]) [0, 1, 2, 3, 4, 5] dX10_best_85 (Nat.le_of_ble_eq_true rfl) rfl ?_
          refine q_iinc1 (w := 1) (ls' := [(0, _), (1, _), (2, _), (3, _), (4, _), (5, _)]) [0, 1, 2, 3, 4, 5] dX10_best_86 rfl (by decide) (Nat.le_of_ble_eq_true rfl) rfl ?_
          refine q_goto 42 dX10_best_89 (by decide) ?_
          exact ih _ _ _ _ _ _ h hx0
def f_X10_best (x1 : Int32) (x2 : Int32) (m : q_Mm) : Option (Int32 × q_Mm) :=
  if (f_X10_in x1.toInt64 0 ((m.1 58 34).toInt64) m) = 0 then
    some (((-2), m))
  else
    if (f_X10_in x2.toInt64 1 50 m) = 0 then
      some (((-2), m))
    else
      (f_X10_findSeers x2 m).bind fun r1 =>
      (l_X10_best_42 7000  x1 x2 0 (-1) 0 r1).bind fun r9 =>
      some ((r9, r1))
set_option maxRecDepth 100000 in
set_option maxHeartbeats 4000000 in
theorem t_X10_best {g : q_G} {n : Nat} {F : Nat → Nat → Option Nat} (hn : 89 ≤ n) (hF : q_FF F)  {x1 : Int32} {x2 : Int32} {m : q_Mm} {r : Int32 × q_Mm} (h : f_X10_best x1 x2 m = some r) : q_Cn g mX10_best [q_r g 58, .int x1, .int x2] (q_mk n F m) (q_Q (some (.int r.1)) (q_mk n F r.2)) := by
  unfold f_X10_best at h
  show q_V g mX10_best q_T _ _ _ 0 [(0, q_r g 58), (1, .int x1), (2, .int x2)] [] (q_mk n F m)
  refine q_iload_n dX10_best_0 rfl ?_
  refine q_i2l dX10_best_1 ?_
  refine q_lconst (v := 0) dX10_best_2 (by decide) ?_
  refine q_aload_n dX10_best_3 rfl ?_
  refine u_geti dX10_best_4 fX10_275 rfl rfl (Nat.lt_of_lt_of_le (Nat.le_of_ble_eq_true rfl) hn) ?_
  refine q_i2l dX10_best_7 ?_
  refine c_S1 (as := [_, _, _]) (st := []) dX10_best_8 okX10_in lX10_122 ⟨rfl, rfl⟩ ⟨Nat.le_of_ble_eq_true rfl, Nat.le_of_ble_eq_true rfl⟩ rfl rfl (Nat.le_of_ble_eq_true rfl) (Nat.le_of_ble_eq_true rfl) (t_X10_in hn hF  rfl) ?_
  refine q_if_eq 26 dX10_best_11 (by decide) (fun hc => ?_) (fun hc => ?_)
  · have h := q_it hc h
    refine q_bipush (v := (-2)) dX10_best_26 (by decide) ?_
    cases h
    exact q_iret dX10_best_28 rfl ⟨rfl, rfl⟩
  · have h := q_if hc h
    refine q_iload_n dX10_best_14 rfl ?_
    refine q_i2l dX10_best_15 ?_
    refine q_lconst (v := 1) dX10_best_16 (by decide) ?_
    refine q_ldc2 dX10_best_17 kX10_271 ?_
    refine c_S1 (as := [_, _, _]) (st := []) dX10_best_20 okX10_in lX10_122 ⟨rfl, rfl⟩ ⟨Nat.le_of_ble_eq_true rfl, Nat.le_of_ble_eq_true rfl⟩ rfl rfl (Nat.le_of_ble_eq_true rfl) (Nat.le_of_ble_eq_true rfl) (t_X10_in hn hF  rfl) ?_
    refine q_if_ne 29 dX10_best_23 (by decide) (fun hc => ?_) (fun hc => ?_)
    · have h := q_if hc h
      refine q_aload_n dX10_best_29 rfl ?_
      refine q_iload_n dX10_best_30 rfl ?_
      obtain ⟨r1, hr2, h⟩ := q_bd h
      refine c_V0 (as := [_]) (st := []) (ci := 10) dX10_best_31 okX10_findSeers lX10_278 ⟨rfl, rfl⟩ ⟨Nat.le_of_ble_eq_true rfl, Nat.le_of_ble_eq_true rfl⟩ (by decide) rfl rfl (Nat.lt_of_lt_of_le (Nat.le_of_ble_eq_true rfl) hn) rfl rfl (Nat.le_of_ble_eq_true rfl) (Nat.le_of_ble_eq_true rfl) (t_X10_findSeers hn hF  hr2) ?_
      refine q_iconst (v := 0) dX10_best_34 (by decide) ?_
      refine q_istore_n (ls' := [(0, _), (1, _), (2, _), (3, _)]) [0, 1, 2, 3] dX10_best_35 (Nat.le_of_ble_eq_true rfl) rfl ?_
      refine q_iconst (v := (-1)) dX10_best_36 (by decide) ?_
      refine q_istore (ls' := [(0, _), (1, _), (2, _), (3, _), (4, _)]) [0, 1, 2, 3, 4] dX10_best_37 (Nat.le_of_ble_eq_true rfl) rfl ?_
      refine q_iconst (v := 0) dX10_best_39 (by decide) ?_
      refine q_istore (ls' := [(0, _), (1, _), (2, _), (3, _), (4, _), (5, _)]) [0, 1, 2, 3, 4, 5] dX10_best_40 (Nat.le_of_ble_eq_true rfl) rfl ?_
      obtain ⟨r9, hr10, h⟩ := q_bd h
      refine t_l_X10_best_42 hn hF  7000 _ _ _ _ _ _ hr10 ?_
      refine q_iload_n dX10_best_92 rfl ?_
      cases h
      exact q_iret dX10_best_93 rfl ⟨rfl, rfl⟩
    · have h := q_it hc h
      refine q_bipush (v := (-2)) dX10_best_26 (by decide) ?_
      cases h
      exact q_iret dX10_best_28 rfl ⟨rfl, rfl⟩
def f_X10_danger (x1 : Int32) (x2 : Int32) (x3 : Int32) (m : q_Mm) : Option (Int32 × q_Mm) :=
  if (f_X10_in x1.toInt64 0 11 m) = 0 then
    some (((-101), m))
  else
    if (f_X10_in x2.toInt64 0 11 m) = 0 then
      some (((-101), m))
    else
      if (f_X10_in x3.toInt64 (-1) 99 m) = 0 then
        some (((-102), m))
      else
        if q_in ((12 * x2) + x1) 144 = true then
        if q_in ((12 * x2) + x1) 144 = true then
        some ((m.1 81 ((12 * x2) + x1).toNatClampNeg, q_wi m 81 (((12 * x2) + x1).toNatClampNeg) x3))
        else none
        else none
set_option maxRecDepth 100000 in
set_option maxHeartbeats 4000000 in
theorem t_X10_danger {g : q_G} {n : Nat} {F : Nat → Nat → Option Nat} (hn : 89 ≤ n) (hF : q_FF F)  {x1 : Int32} {x2 : Int32} {x3 : Int32} {m : q_Mm} {r : Int32 × q_Mm} (h : f_X10_danger x1 x2 x3 m = some r) : q_Cn g mX10_danger [q_r g 58, .int x1, .int x2, .int x3] (q_mk n F m) (q_Q (some (.int r.1)) (q_mk n F r.2)) := by
  unfold f_X10_danger at h
  show q_V g mX10_danger q_T _ _ _ 0 [(0, q_r g 58), (1, .int x1), (2, .int x2), (3, .int x3)] [] (q_mk n F m)
  refine q_iload_n dX10_danger_0 rfl ?_
  refine q_i2l dX10_danger_1 ?_
  refine q_lconst (v := 0) dX10_danger_2 (by decide) ?_
  refine q_ldc2 dX10_danger_3 kX10_199 ?_
  refine c_S1 (as := [_, _, _]) (st := []) dX10_danger_6 okX10_in lX10_122 ⟨rfl, rfl⟩ ⟨Nat.le_of_ble_eq_true rfl, Nat.le_of_ble_eq_true rfl⟩ rfl rfl (Nat.le_of_ble_eq_true rfl) (Nat.le_of_ble_eq_true rfl) (t_X10_in hn hF  rfl) ?_
  refine q_if_eq 24 dX10_danger_9 (by decide) (fun hc => ?_) (fun hc => ?_)
  · have h := q_it hc h
    refine q_bipush (v := (-101)) dX10_danger_24 (by decide) ?_
    cases h
    exact q_iret dX10_danger_26 rfl ⟨rfl, rfl⟩
  · have h := q_if hc h
    refine q_iload_n dX10_danger_12 rfl ?_
    refine q_i2l dX10_danger_13 ?_
    refine q_lconst (v := 0) dX10_danger_14 (by decide) ?_
    refine q_ldc2 dX10_danger_15 kX10_199 ?_
    refine c_S1 (as := [_, _, _]) (st := []) dX10_danger_18 okX10_in lX10_122 ⟨rfl, rfl⟩ ⟨Nat.le_of_ble_eq_true rfl, Nat.le_of_ble_eq_true rfl⟩ rfl rfl (Nat.le_of_ble_eq_true rfl) (Nat.le_of_ble_eq_true rfl) (t_X10_in hn hF  rfl) ?_
    refine q_if_ne 27 dX10_danger_21 (by decide) (fun hc => ?_) (fun hc => ?_)
    · have h := q_if hc h
      refine q_iload_n dX10_danger_27 rfl ?_
      refine q_i2l dX10_danger_28 ?_
      refine q_ldc2 dX10_danger_29 kX10_219 ?_
      refine q_ldc2 dX10_danger_32 kX10_287 ?_
      refine c_S1 (as := [_, _, _]) (st := []) dX10_danger_35 okX10_in lX10_122 ⟨rfl, rfl⟩ ⟨Nat.le_of_ble_eq_true rfl, Nat.le_of_ble_eq_true rfl⟩ rfl rfl (Nat.le_of_ble_eq_true rfl) (Nat.le_of_ble_eq_true rfl) (t_X10_in hn hF  rfl) ?_
      refine q_if_ne 44 dX10_danger_38 (by decide) (fun hc => ?_) (fun hc => ?_)
      · have h := q_if hc h
        refine q_aload_n dX10_danger_44 rfl ?_
        refine u_getr dX10_danger_45 fX10_91 rfl rfl (Nat.lt_of_lt_of_le (Nat.le_of_ble_eq_true rfl) hn) (hF 58 36 81 rfl) ?_
        refine q_bipush (v := 12) dX10_danger_48 (by decide) ?_
        refine q_iload_n dX10_danger_50 rfl ?_
        refine q_imul dX10_danger_51 ?_
        refine q_iload_n dX10_danger_52 rfl ?_
        refine q_iadd dX10_danger_53 ?_
        obtain ⟨hi1, h⟩ := q_is h
        refine u_iald dX10_danger_54 rfl (Nat.lt_of_lt_of_le (Nat.le_of_ble_eq_true rfl) hn) (q_in_vp hi1) ?_
        refine q_istore (ls' := [(0, _), (1, _), (2, _), (3, _), (4, _)]) [0, 1, 2, 3, 4] dX10_danger_55 (Nat.le_of_ble_eq_true rfl) rfl ?_
        refine q_aload_n dX10_danger_57 rfl ?_
        refine u_getr dX10_danger_58 fX10_91 rfl rfl (Nat.lt_of_lt_of_le (Nat.le_of_ble_eq_true rfl) hn) (hF 58 36 81 rfl) ?_
        refine q_bipush (v := 12) dX10_danger_61 (by decide) ?_
        refine q_iload_n dX10_danger_63 rfl ?_
        refine q_imul dX10_danger_64 ?_
        refine q_iload_n dX10_danger_65 rfl ?_
        refine q_iadd dX10_danger_66 ?_
        refine q_iload_n dX10_danger_67 rfl ?_
        obtain ⟨hi2, h⟩ := q_is h
        refine u_iast dX10_danger_68 rfl (Nat.lt_of_lt_of_le (Nat.le_of_ble_eq_true rfl) hn) (q_in_vp hi2) ?_
        refine q_iload dX10_danger_69 rfl ?_
        cases h
        exact q_iret dX10_danger_71 rfl ⟨rfl, rfl⟩
      · have h := q_it hc h
        refine q_bipush (v := (-102)) dX10_danger_41 (by decide) ?_
        cases h
        exact q_iret dX10_danger_43 rfl ⟨rfl, rfl⟩
    · have h := q_it hc h
      refine q_bipush (v := (-101)) dX10_danger_24 (by decide) ?_
      cases h
      exact q_iret dX10_danger_26 rfl ⟨rfl, rfl⟩
def f_X10_isCell (x0 : Int32) (m : q_Mm) : (Int32) :=
  (f_X10_in x0.toInt64 0 143 m)
set_option maxRecDepth 100000 in
set_option maxHeartbeats 4000000 in
theorem t_X10_isCell {g : q_G} {n : Nat} {F : Nat → Nat → Option Nat} (hn : 89 ≤ n) (hF : q_FF F)  {x0 : Int32} {m : q_Mm} {r : Int32} (h : f_X10_isCell x0 m = r) : q_Cn g mX10_isCell [.int x0] (q_mk n F m) (q_Q (some (.int r)) (q_mk n F m)) := by
  unfold f_X10_isCell at h
  show q_V g mX10_isCell q_T _ _ _ 0 [(0, .int x0)] [] (q_mk n F m)
  refine q_iload_n dX10_isCell_0 rfl ?_
  refine q_i2l dX10_isCell_1 ?_
  refine q_lconst (v := 0) dX10_isCell_2 (by decide) ?_
  refine q_ldc2 dX10_isCell_3 kX10_289 ?_
  refine c_S1 (as := [_, _, _]) (st := []) dX10_isCell_6 okX10_in lX10_122 ⟨rfl, rfl⟩ ⟨Nat.le_of_ble_eq_true rfl, Nat.le_of_ble_eq_true rfl⟩ rfl rfl (Nat.le_of_ble_eq_true rfl) (Nat.le_of_ble_eq_true rfl) (t_X10_in hn hF  rfl) ?_
  subst h
  exact q_zret dX10_isCell_9 rfl (q_bo_n (b_X10_in ..)) ⟨rfl, rfl⟩
theorem b_X10_isCell {x0 : Int32} {m : q_Mm} : q_bo (f_X10_isCell x0 m) := by
  unfold f_X10_isCell
  repeat' split
  all_goals first | exact Or.inl rfl | exact Or.inr rfl | exact b_X10_in
def f_X10_areBeside (x0 : Int32) (x1 : Int32) (m : q_Mm) : (Int32) :=
  if 2 ≤ (f_X10_size ((q_rm x0 12) - (q_rm x1 12)) m) then
    0
  else
    if 2 ≤ (f_X10_size ((x0 / 12) - (x1 / 12)) m) then
      0
    else
      1
set_option maxRecDepth 100000 in
set_option maxHeartbeats 4000000 in
theorem t_X10_areBeside {g : q_G} {n : Nat} {F : Nat → Nat → Option Nat} (hn : 89 ≤ n) (hF : q_FF F)  {x0 : Int32} {x1 : Int32} {m : q_Mm} {r : Int32} (h : f_X10_areBeside x0 x1 m = r) : q_Cn g mX10_areBeside [.int x0, .int x1] (q_mk n F m) (q_Q (some (.int r)) (q_mk n F m)) := by
  unfold f_X10_areBeside at h
  show q_V g mX10_areBeside q_T _ _ _ 0 [(0, .int x0), (1, .int x1)] [] (q_mk n F m)
  refine q_iload_n dX10_areBeside_0 rfl ?_
  refine q_bipush (v := 12) dX10_areBeside_1 (by decide) ?_
  refine q_irm dX10_areBeside_3 (by decide) ?_
  refine q_iload_n dX10_areBeside_4 rfl ?_
  refine q_bipush (v := 12) dX10_areBeside_5 (by decide) ?_
  refine q_irm dX10_areBeside_7 (by decide) ?_
  refine q_isub dX10_areBeside_8 ?_
  refine c_S1 (as := [_]) (st := []) dX10_areBeside_9 okX10_size lX10_145 ⟨rfl, rfl⟩ ⟨Nat.le_of_ble_eq_true rfl, Nat.le_of_ble_eq_true rfl⟩ rfl rfl (Nat.le_of_ble_eq_true rfl) (Nat.le_of_ble_eq_true rfl) (t_X10_size hn hF  rfl) ?_
  refine q_iconst (v := 2) dX10_areBeside_12 (by decide) ?_
  refine q_icmp_ge 36 dX10_areBeside_13 (by decide) (fun hc => ?_) (fun hc => ?_)
  · have h := q_it hc h
    refine q_iconst (v := 0) dX10_areBeside_36 (by decide) ?_
    subst h
    exact q_zret dX10_areBeside_37 rfl rfl ⟨rfl, rfl⟩
  · have h := q_if hc h
    refine q_iload_n dX10_areBeside_16 rfl ?_
    refine q_bipush (v := 12) dX10_areBeside_17 (by decide) ?_
    refine q_idiv dX10_areBeside_19 (by decide) ?_
    refine q_iload_n dX10_areBeside_20 rfl ?_
    refine q_bipush (v := 12) dX10_areBeside_21 (by decide) ?_
    refine q_idiv dX10_areBeside_23 (by decide) ?_
    refine q_isub dX10_areBeside_24 ?_
    refine c_S1 (as := [_]) (st := []) dX10_areBeside_25 okX10_size lX10_145 ⟨rfl, rfl⟩ ⟨Nat.le_of_ble_eq_true rfl, Nat.le_of_ble_eq_true rfl⟩ rfl rfl (Nat.le_of_ble_eq_true rfl) (Nat.le_of_ble_eq_true rfl) (t_X10_size hn hF  rfl) ?_
    refine q_iconst (v := 2) dX10_areBeside_28 (by decide) ?_
    refine q_icmp_ge 36 dX10_areBeside_29 (by decide) (fun hc => ?_) (fun hc => ?_)
    · have h := q_it hc h
      refine q_iconst (v := 0) dX10_areBeside_36 (by decide) ?_
      subst h
      exact q_zret dX10_areBeside_37 rfl rfl ⟨rfl, rfl⟩
    · have h := q_if hc h
      refine q_iconst (v := 1) dX10_areBeside_32 (by decide) ?_
      refine q_goto 37 dX10_areBeside_33 (by decide) ?_
      subst h
      exact q_zret dX10_areBeside_37 rfl rfl ⟨rfl, rfl⟩
theorem b_X10_areBeside {x0 : Int32} {x1 : Int32} {m : q_Mm} : q_bo (f_X10_areBeside x0 x1 m) := by
  unfold f_X10_areBeside
  repeat' split
  all_goals first | exact Or.inl rfl | exact Or.inr rfl
def f_X10_cellOf (x1 : Int32) (x2 : Int32) (m : q_Mm) : Option (Int32) :=
  if q_in x1 2 = true then
  if x2 ≤ (m.1 83 x1.toNatClampNeg) then
    if q_in ((41 * x1) + x2) 82 = true then
    some (m.1 82 ((41 * x1) + x2).toNatClampNeg)
    else none
  else
    if q_in x1 2 = true then
    if q_in ((41 * x1) + (m.1 83 x1.toNatClampNeg)) 82 = true then
    some (m.1 82 ((41 * x1) + (m.1 83 x1.toNatClampNeg)).toNatClampNeg)
    else none
    else none
  else none
set_option maxRecDepth 100000 in
set_option maxHeartbeats 4000000 in
theorem t_X10_cellOf {g : q_G} {n : Nat} {F : Nat → Nat → Option Nat} (hn : 89 ≤ n) (hF : q_FF F)  {x1 : Int32} {x2 : Int32} {m : q_Mm} {r : Int32} (h : f_X10_cellOf x1 x2 m = some r) : q_Cn g mX10_cellOf [q_r g 58, .int x1, .int x2] (q_mk n F m) (q_Q (some (.int r)) (q_mk n F m)) := by
  unfold f_X10_cellOf at h
  show q_V g mX10_cellOf q_T _ _ _ 0 [(0, q_r g 58), (1, .int x1), (2, .int x2)] [] (q_mk n F m)
  refine q_aload_n dX10_cellOf_0 rfl ?_
  refine u_getr dX10_cellOf_1 fX10_94 rfl rfl (Nat.lt_of_lt_of_le (Nat.le_of_ble_eq_true rfl) hn) (hF 58 37 82 rfl) ?_
  refine q_bipush (v := 41) dX10_cellOf_4 (by decide) ?_
  refine q_iload_n dX10_cellOf_6 rfl ?_
  refine q_imul dX10_cellOf_7 ?_
  refine q_iload_n dX10_cellOf_8 rfl ?_
  refine q_aload_n dX10_cellOf_9 rfl ?_
  refine u_getr dX10_cellOf_10 fX10_97 rfl rfl (Nat.lt_of_lt_of_le (Nat.le_of_ble_eq_true rfl) hn) (hF 58 38 83 rfl) ?_
  refine q_iload_n dX10_cellOf_13 rfl ?_
  obtain ⟨hi1, h⟩ := q_is h
  refine u_iald dX10_cellOf_14 rfl (Nat.lt_of_lt_of_le (Nat.le_of_ble_eq_true rfl) hn) (q_in_vp hi1) ?_
  refine q_icmp_le 27 dX10_cellOf_15 (by decide) (fun hc => ?_) (fun hc => ?_)
  · have h := q_it hc h
    refine q_iload_n dX10_cellOf_27 rfl ?_
    refine q_iadd dX10_cellOf_28 ?_
    obtain ⟨hi2, h⟩ := q_is h
    refine u_iald dX10_cellOf_29 rfl (Nat.lt_of_lt_of_le (Nat.le_of_ble_eq_true rfl) hn) (q_in_vp hi2) ?_
    cases h
    exact q_iret dX10_cellOf_30 rfl ⟨rfl, rfl⟩
  · have h := q_if hc h
    refine q_aload_n dX10_cellOf_18 rfl ?_
    refine u_getr dX10_cellOf_19 fX10_97 rfl rfl (Nat.lt_of_lt_of_le (Nat.le_of_ble_eq_true rfl) hn) (hF 58 38 83 rfl) ?_
    refine q_iload_n dX10_cellOf_22 rfl ?_
    obtain ⟨hi3, h⟩ := q_is h
    refine u_iald dX10_cellOf_23 rfl (Nat.lt_of_lt_of_le (Nat.le_of_ble_eq_true rfl) hn) (q_in_vp hi3) ?_
    refine q_goto 28 dX10_cellOf_24 (by decide) ?_
    refine q_iadd dX10_cellOf_28 ?_
    obtain ⟨hi4, h⟩ := q_is h
    refine u_iald dX10_cellOf_29 rfl (Nat.lt_of_lt_of_le (Nat.le_of_ble_eq_true rfl) hn) (q_in_vp hi4) ?_
    cases h
    exact q_iret dX10_cellOf_30 rfl ⟨rfl, rfl⟩
def f_X10_isNear (x1 : Int32) (x2 : Int32) (m : q_Mm) : Option (Int32) :=
  if 0 ≤ x2 then
    (f_X10_cellOf 0 x2 m).bind fun r1 =>
    if (m.1 58 42) < (f_X10_size ((q_rm x1 12) - (q_rm r1 12)) m) then
      some (0)
    else
      if (m.1 58 42) < (f_X10_size ((x1 / 12) - (r1 / 12)) m) then
        some (0)
      else
        some (1)
  else
    some (0)
set_option maxRecDepth 100000 in
set_option maxHeartbeats 4000000 in
theorem t_X10_isNear {g : q_G} {n : Nat} {F : Nat → Nat → Option Nat} (hn : 89 ≤ n) (hF : q_FF F)  {x1 : Int32} {x2 : Int32} {m : q_Mm} {r : Int32} (h : f_X10_isNear x1 x2 m = some r) : q_Cn g mX10_isNear [q_r g 58, .int x1, .int x2] (q_mk n F m) (q_Q (some (.int r)) (q_mk n F m)) := by
  unfold f_X10_isNear at h
  show q_V g mX10_isNear q_T _ _ _ 0 [(0, q_r g 58), (1, .int x1), (2, .int x2)] [] (q_mk n F m)
  refine q_iload_n dX10_isNear_0 rfl ?_
  refine q_if_ge 6 dX10_isNear_1 (by decide) (fun hc => ?_) (fun hc => ?_)
  · have h := q_it hc h
    refine q_aload_n dX10_isNear_6 rfl ?_
    refine q_iconst (v := 0) dX10_isNear_7 (by decide) ?_
    refine q_iload_n dX10_isNear_8 rfl ?_
    obtain ⟨r1, hr2, h⟩ := q_bd h
    refine c_V1 (as := [_, _]) (st := []) (ci := 10) dX10_isNear_9 okX10_cellOf lX10_291 ⟨rfl, rfl⟩ ⟨Nat.le_of_ble_eq_true rfl, Nat.le_of_ble_eq_true rfl⟩ (by decide) rfl rfl (Nat.lt_of_lt_of_le (Nat.le_of_ble_eq_true rfl) hn) rfl rfl (Nat.le_of_ble_eq_true rfl) (Nat.le_of_ble_eq_true rfl) (t_X10_cellOf hn hF  hr2) ?_
    refine q_istore_n (ls' := [(0, _), (1, _), (3, _)]) [0, 1, 3] dX10_isNear_12 (Nat.le_of_ble_eq_true rfl) rfl ?_
    refine q_iload_n dX10_isNear_13 rfl ?_
    refine q_bipush (v := 12) dX10_isNear_14 (by decide) ?_
    refine q_irm dX10_isNear_16 (by decide) ?_
    refine q_iload_n dX10_isNear_17 rfl ?_
    refine q_bipush (v := 12) dX10_isNear_18 (by decide) ?_
    refine q_irm dX10_isNear_20 (by decide) ?_
    refine q_isub dX10_isNear_21 ?_
    refine c_S1 (as := [_]) (st := []) dX10_isNear_22 okX10_size lX10_145 ⟨rfl, rfl⟩ ⟨Nat.le_of_ble_eq_true rfl, Nat.le_of_ble_eq_true rfl⟩ rfl rfl (Nat.le_of_ble_eq_true rfl) (Nat.le_of_ble_eq_true rfl) (t_X10_size hn hF  rfl) ?_
    refine q_aload_n dX10_isNear_25 rfl ?_
    refine u_geti dX10_isNear_26 fX10_104 rfl rfl (Nat.lt_of_lt_of_le (Nat.le_of_ble_eq_true rfl) hn) ?_
    refine q_icmp_gt 55 dX10_isNear_29 (by decide) (fun hc => ?_) (fun hc => ?_)
    · have h := q_it hc h
      refine q_iconst (v := 0) dX10_isNear_55 (by decide) ?_
      cases h
      exact q_zret dX10_isNear_56 rfl rfl ⟨rfl, rfl⟩
    · have h := q_if hc h
      refine q_iload_n dX10_isNear_32 rfl ?_
      refine q_bipush (v := 12) dX10_isNear_33 (by decide) ?_
      refine q_idiv dX10_isNear_35 (by decide) ?_
      refine q_iload_n dX10_isNear_36 rfl ?_
      refine q_bipush (v := 12) dX10_isNear_37 (by decide) ?_
      refine q_idiv dX10_isNear_39 (by decide) ?_
      refine q_isub dX10_isNear_40 ?_
      refine c_S1 (as := [_]) (st := []) dX10_isNear_41 okX10_size lX10_145 ⟨rfl, rfl⟩ ⟨Nat.le_of_ble_eq_true rfl, Nat.le_of_ble_eq_true rfl⟩ rfl rfl (Nat.le_of_ble_eq_true rfl) (Nat.le_of_ble_eq_true rfl) (t_X10_size hn hF  rfl) ?_
      refine q_aload_n dX10_isNear_44 rfl ?_
      refine u_geti dX10_isNear_45 fX10_104 rfl rfl (Nat.lt_of_lt_of_le (Nat.le_of_ble_eq_true rfl) hn) ?_
      refine q_icmp_gt 55 dX10_isNear_48 (by decide) (fun hc => ?_) (fun hc => ?_)
      · have h := q_it hc h
        refine q_iconst (v := 0) dX10_isNear_55 (by decide) ?_
        cases h
        exact q_zret dX10_isNear_56 rfl rfl ⟨rfl, rfl⟩
      · have h := q_if hc h
        refine q_iconst (v := 1) dX10_isNear_51 (by decide) ?_
        refine q_goto 56 dX10_isNear_52 (by decide) ?_
        cases h
        exact q_zret dX10_isNear_56 rfl rfl ⟨rfl, rfl⟩
  · have h := q_if hc h
    refine q_iconst (v := 0) dX10_isNear_4 (by decide) ?_
    cases h
    exact q_zret dX10_isNear_5 rfl rfl ⟨rfl, rfl⟩
def f_X10_isFree (x1 : Int32) (x2 : Int32) (m : q_Mm) : Option (Int32) :=
  if q_in x1 144 = true then
  if 0 ≤ (m.1 81 x1.toNatClampNeg) then
    if (m.1 58 42) < 0 then
      some (1)
    else
      (f_X10_isNear x1 (x2 - 1) m).bind fun r2 =>
      if r2 = 0 then
        (f_X10_isNear x1 x2 m).bind fun r4 =>
        if r4 = 0 then
          (f_X10_isNear x1 (x2 + 1) m).bind fun r6 =>
          if r6 = 0 then
            some (1)
          else
            some (0)
        else
          some (0)
      else
        some (0)
  else
    some (0)
  else none
set_option maxRecDepth 100000 in
set_option maxHeartbeats 4000000 in
theorem t_X10_isFree {g : q_G} {n : Nat} {F : Nat → Nat → Option Nat} (hn : 89 ≤ n) (hF : q_FF F)  {x1 : Int32} {x2 : Int32} {m : q_Mm} {r : Int32} (h : f_X10_isFree x1 x2 m = some r) : q_Cn g mX10_isFree [q_r g 58, .int x1, .int x2] (q_mk n F m) (q_Q (some (.int r)) (q_mk n F m)) := by
  unfold f_X10_isFree at h
  show q_V g mX10_isFree q_T _ _ _ 0 [(0, q_r g 58), (1, .int x1), (2, .int x2)] [] (q_mk n F m)
  refine q_aload_n dX10_isFree_0 rfl ?_
  refine u_getr dX10_isFree_1 fX10_91 rfl rfl (Nat.lt_of_lt_of_le (Nat.le_of_ble_eq_true rfl) hn) (hF 58 36 81 rfl) ?_
  refine q_iload_n dX10_isFree_4 rfl ?_
  obtain ⟨hi1, h⟩ := q_is h
  refine u_iald dX10_isFree_5 rfl (Nat.lt_of_lt_of_le (Nat.le_of_ble_eq_true rfl) hn) (q_in_vp hi1) ?_
  refine q_if_ge 11 dX10_isFree_6 (by decide) (fun hc => ?_) (fun hc => ?_)
  · have h := q_it hc h
    refine q_aload_n dX10_isFree_11 rfl ?_
    refine u_geti dX10_isFree_12 fX10_104 rfl rfl (Nat.lt_of_lt_of_le (Nat.le_of_ble_eq_true rfl) hn) ?_
    refine q_if_lt 49 dX10_isFree_15 (by decide) (fun hc => ?_) (fun hc => ?_)
    · have h := q_it hc h
      refine q_iconst (v := 1) dX10_isFree_49 (by decide) ?_
      refine q_goto 54 dX10_isFree_50 (by decide) ?_
      cases h
      exact q_zret dX10_isFree_54 rfl rfl ⟨rfl, rfl⟩
    · have h := q_if hc h
      refine q_aload_n dX10_isFree_18 rfl ?_
      refine q_iload_n dX10_isFree_19 rfl ?_
      refine q_iload_n dX10_isFree_20 rfl ?_
      refine q_iconst (v := 1) dX10_isFree_21 (by decide) ?_
      refine q_isub dX10_isFree_22 ?_
      obtain ⟨r2, hr3, h⟩ := q_bd h
      refine c_V1 (as := [_, _]) (st := []) (ci := 10) dX10_isFree_23 okX10_isNear lX10_294 ⟨rfl, rfl⟩ ⟨Nat.le_of_ble_eq_true rfl, Nat.le_of_ble_eq_true rfl⟩ (by decide) rfl rfl (Nat.lt_of_lt_of_le (Nat.le_of_ble_eq_true rfl) hn) rfl rfl (Nat.le_of_ble_eq_true rfl) (Nat.le_of_ble_eq_true rfl) (t_X10_isNear hn hF  hr3) ?_
      refine q_if_ne 53 dX10_isFree_26 (by decide) (fun hc => ?_) (fun hc => ?_)
      · have h := q_if hc h
        refine q_iconst (v := 0) dX10_isFree_53 (by decide) ?_
        cases h
        exact q_zret dX10_isFree_54 rfl rfl ⟨rfl, rfl⟩
      · have h := q_it hc h
        refine q_aload_n dX10_isFree_29 rfl ?_
        refine q_iload_n dX10_isFree_30 rfl ?_
        refine q_iload_n dX10_isFree_31 rfl ?_
        obtain ⟨r4, hr5, h⟩ := q_bd h
        refine c_V1 (as := [_, _]) (st := []) (ci := 10) dX10_isFree_32 okX10_isNear lX10_294 ⟨rfl, rfl⟩ ⟨Nat.le_of_ble_eq_true rfl, Nat.le_of_ble_eq_true rfl⟩ (by decide) rfl rfl (Nat.lt_of_lt_of_le (Nat.le_of_ble_eq_true rfl) hn) rfl rfl (Nat.le_of_ble_eq_true rfl) (Nat.le_of_ble_eq_true rfl) (t_X10_isNear hn hF  hr5) ?_
        refine q_if_ne 53 dX10_isFree_35 (by decide) (fun hc => ?_) (fun hc => ?_)
        · have h := q_if hc h
          refine q_iconst (v := 0) dX10_isFree_53 (by decide) ?_
          cases h
          exact q_zret dX10_isFree_54 rfl rfl ⟨rfl, rfl⟩
        · have h := q_it hc h
          refine q_aload_n dX10_isFree_38 rfl ?_
          refine q_iload_n dX10_isFree_39 rfl ?_
          refine q_iload_n dX10_isFree_40 rfl ?_
          refine q_iconst (v := 1) dX10_isFree_41 (by decide) ?_
          refine q_iadd dX10_isFree_42 ?_
          obtain ⟨r6, hr7, h⟩ := q_bd h
          refine c_V1 (as := [_, _]) (st := []) (ci := 10) dX10_isFree_43 okX10_isNear lX10_294 ⟨rfl, rfl⟩ ⟨Nat.le_of_ble_eq_true rfl, Nat.le_of_ble_eq_true rfl⟩ (by decide) rfl rfl (Nat.lt_of_lt_of_le (Nat.le_of_ble_eq_true rfl) hn) rfl rfl (Nat.le_of_ble_eq_true rfl) (Nat.le_of_ble_eq_true rfl) (t_X10_isNear hn hF  hr7) ?_
          refine q_if_ne 53 dX10_isFree_46 (by decide) (fun hc => ?_) (fun hc => ?_)
          · have h := q_if hc h
            refine q_iconst (v := 0) dX10_isFree_53 (by decide) ?_
            cases h
            exact q_zret dX10_isFree_54 rfl rfl ⟨rfl, rfl⟩
          · have h := q_it hc h
            refine q_iconst (v := 1) dX10_isFree_49 (by decide) ?_
            refine q_goto 54 dX10_isFree_50 (by decide) ?_
            cases h
            exact q_zret dX10_isFree_54 rfl rfl ⟨rfl, rfl⟩
  · have h := q_if hc h
    refine q_iconst (v := 0) dX10_isFree_9 (by decide) ?_
    cases h
    exact q_zret dX10_isFree_10 rfl rfl ⟨rfl, rfl⟩
