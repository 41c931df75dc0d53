def l_X10_firstMove_31 : Nat → Int32 → Int32 → Int32 → Int32 → Int32 → q_Mm → Option ((Int32) ⊕ (Unit))
  | 0, _, _, _, _, _, _ => none
  | k + 1, y1, y2, y3, y4, y5, m =>
    if 144 ≤ y5 then
      some (.inr ())
    else
      if y5 = y3 then
        l_X10_firstMove_31 k  y1 y2 y3 y4 (y5 + 1) m
      else
        if (f_X10_areBeside y3 y5 m) = 0 then
          l_X10_firstMove_31 k  y1 y2 y3 y4 (y5 + 1) m
        else
          (f_X10_byMove y1 y2 y3 y5 m).bind fun r4 =>
          if r4 = y4 then
            some (.inl y5)
          else
            l_X10_firstMove_31 k  y1 y2 y3 y4 (y5 + 1) m
set_option maxRecDepth 100000 in
set_option maxHeartbeats 4000000 in
theorem t_l_X10_firstMove_31 {g : q_G} {n : Nat} {F : Nat → Nat → Option Nat} {Z : List Frame → Array Value → State → State → Prop} {kc ks : Nat} (hn : 89 ≤ n) (hF : q_FF F)  : ∀ (k : Nat) (y1 : Int32) (y2 : Int32) (y3 : Int32) (y4 : Int32) (y5 : Int32) (m : q_Mm) {rr : (Int32) ⊕ (Unit)}, l_X10_firstMove_31 k y1 y2 y3 y4 y5 m = some rr → (∀ r, rr = .inl r → q_V g mX10_firstMove q_T Z kc ks 68 [(5, .int r)] [] (q_mk n F m)) → (∀ r, rr = .inr r → q_V g mX10_firstMove q_T Z kc ks 77 [(3, .int y3)] [] (q_mk n F m)) → q_V g mX10_firstMove q_T Z kc ks 31 [(0, q_r g 58), (1, .int y1), (2, .int y2), (3, .int y3), (4, .int y4), (5, .int y5)] [] (q_mk n F m) := by
  intro k
  induction k with
  | zero => intro y1 y2 y3 y4 y5 m rr h; cases h
  | succ k ih =>
    intro y1 y2 y3 y4 y5 m rr h hx0 hx1
    unfold l_X10_firstMove_31 at h
    refine q_iload dX10_firstMove_31 rfl ?_
    refine q_sipush (v := 144) dX10_firstMove_33 (by decide) ?_
    refine q_icmp_ge 77 dX10_firstMove_36 (by decide) (fun hc => ?_) (fun hc => ?_)
    · have h := q_it hc h
      refine q_drop [3] (ls' := [(3, _)]) rfl ?_
      cases h
      exact hx1 _ rfl
    · have h := q_if hc h
      refine q_iload dX10_firstMove_39 rfl ?_
      refine q_iload_n dX10_firstMove_41 rfl ?_
      refine q_icmp_eq 71 dX10_firstMove_42 (by decide) (fun hc => ?_) (fun hc => ?_)
      · have h := q_it hc h
        refine q_iinc1 (w := 1) (ls' := [(0, _), (1, _), (2, _), (3, _), (4, _), (5, _)]) [0, 1, 2, 3, 4, 5] dX10_firstMove_71 rfl (by decide) (Nat.le_of_ble_eq_true rfl) rfl ?_
        refine q_goto 31 dX10_firstMove_74 (by decide) ?_
        exact ih _ _ _ _ _ _ h hx0 hx1
      · have h := q_if hc h
        refine q_iload_n dX10_firstMove_45 rfl ?_
        refine q_iload dX10_firstMove_46 rfl ?_
        refine c_S1 (as := [_, _]) (st := []) dX10_firstMove_48 okX10_areBeside lX10_315 ⟨rfl, rfl⟩ ⟨Nat.le_of_ble_eq_true rfl, Nat.le_of_ble_eq_true rfl⟩ rfl rfl (Nat.le_of_ble_eq_true rfl) (Nat.le_of_ble_eq_true rfl) (t_X10_areBeside hn hF  rfl) ?_
        refine q_if_eq 71 dX10_firstMove_51 (by decide) (fun hc => ?_) (fun hc => ?_)
        · have h := q_it hc h
          refine q_iinc1 (w := 1) (ls' := [(0, _), (1, _), (2, _), (3, _), (4, _), (5, _)]) [0, 1, 2, 3, 4, 5] dX10_firstMove_71 rfl (by decide) (Nat.le_of_ble_eq_true rfl) rfl ?_
          refine q_goto 31 dX10_firstMove_74 (by decide) ?_
          exact ih _ _ _ _ _ _ h hx0 hx1
        · have h := q_if hc h
          refine q_aload_n dX10_firstMove_54 rfl ?_
          refine q_iload_n dX10_firstMove_55 rfl ?_
          refine q_iload_n dX10_firstMove_56 rfl ?_
          refine q_iload_n dX10_firstMove_57 rfl ?_
          refine q_iload dX10_firstMove_58 rfl ?_
          obtain ⟨r4, hr5, h⟩ := q_bd h
          refine c_V1 (as := [_, _, _, _]) (st := []) (ci := 10) dX10_firstMove_60 okX10_byMove lX10_311 ⟨rfl, rfl⟩ ⟨Nat.le_of_ble_eq_true rfl, Nat.le_of_ble_eq_true rfl⟩ (by decide) rfl rfl (Nat.lt_of_lt_of_le (Nat.le_of_ble_eq_true rfl) hn) rfl rfl (Nat.le_of_ble_eq_true rfl) (Nat.le_of_ble_eq_true rfl) (t_X10_byMove hn hF  hr5) ?_
          refine q_iload dX10_firstMove_63 rfl ?_
          refine q_icmp_ne 71 dX10_firstMove_65 (by decide) (fun hc => ?_) (fun hc => ?_)
          · have h := q_if hc h
            refine q_iinc1 (w := 1) (ls' := [(0, _), (1, _), (2, _), (3, _), (4, _), (5, _)]) [0, 1, 2, 3, 4, 5] dX10_firstMove_71 rfl (by decide) (Nat.le_of_ble_eq_true rfl) rfl ?_
            refine q_goto 31 dX10_firstMove_74 (by decide) ?_
            exact ih _ _ _ _ _ _ h hx0 hx1
          · have h := q_it hc h
            refine q_drop [5] (ls' := [(5, _)]) rfl ?_
            cases h
            exact hx0 _ rfl
def f_X10_firstMove (x1 : Int32) (x2 : Int32) (x3 : Int32) (m : q_Mm) : Option (Int32) :=
  if q_in (f_X10_placeOf x1 x2 x3 m) 242064 = true then
  (f_X10_byMove x1 x2 x3 x3 m).bind fun r2 =>
  if r2 = (m.1 85 (f_X10_placeOf x1 x2 x3 m).toNatClampNeg) then
    some (x3)
  else
    (l_X10_firstMove_31 7000  x1 x2 x3 (m.1 85 (f_X10_placeOf x1 x2 x3 m).toNatClampNeg) 0 m).bind fun r6 => match r6 with
    | .inl r8 =>
      some (r8)
    | .inr r9 =>
      some (x3)
  else none
set_option maxRecDepth 100000 in
set_option maxHeartbeats 4000000 in
theorem t_X10_firstMove {g : q_G} {n : Nat} {F : Nat → Nat → Option Nat} (hn : 89 ≤ n) (hF : q_FF F)  {x1 : Int32} {x2 : Int32} {x3 : Int32} {m : q_Mm} {r : Int32} (h : f_X10_firstMove x1 x2 x3 m = some r) : q_Cn g mX10_firstMove [q_r g 58, .int x1, .int x2, .int x3] (q_mk n F m) (q_Q (some (.int r)) (q_mk n F m)) := by
  unfold f_X10_firstMove at h
  show q_V g mX10_firstMove q_T _ _ _ 0 [(0, q_r g 58), (1, .int x1), (2, .int x2), (3, .int x3)] [] (q_mk n F m)
  refine q_aload_n dX10_firstMove_0 rfl ?_
  refine u_getr dX10_firstMove_1 fX10_108 rfl rfl (Nat.lt_of_lt_of_le (Nat.le_of_ble_eq_true rfl) hn) (hF 58 43 85 rfl) ?_
  refine q_iload_n dX10_firstMove_4 rfl ?_
  refine q_iload_n dX10_firstMove_5 rfl ?_
  refine q_iload_n dX10_firstMove_6 rfl ?_
  refine c_S1 (as := [_, _, _]) (st := [_]) dX10_firstMove_7 okX10_placeOf lX10_301 ⟨rfl, rfl⟩ ⟨Nat.le_of_ble_eq_true rfl, Nat.le_of_ble_eq_true rfl⟩ rfl rfl (Nat.le_of_ble_eq_true rfl) (Nat.le_of_ble_eq_true rfl) (t_X10_placeOf hn hF  rfl) ?_
  obtain ⟨hi1, h⟩ := q_is h
  refine u_iald dX10_firstMove_10 rfl (Nat.lt_of_lt_of_le (Nat.le_of_ble_eq_true rfl) hn) (q_in_vp hi1) ?_
  refine q_istore (ls' := [(0, _), (1, _), (2, _), (3, _), (4, _)]) [0, 1, 2, 3, 4] dX10_firstMove_11 (Nat.le_of_ble_eq_true rfl) rfl ?_
  refine q_aload_n dX10_firstMove_13 rfl ?_
  refine q_iload_n dX10_firstMove_14 rfl ?_
  refine q_iload_n dX10_firstMove_15 rfl ?_
  refine q_iload_n dX10_firstMove_16 rfl ?_
  refine q_iload_n dX10_firstMove_17 rfl ?_
  obtain ⟨r2, hr3, h⟩ := q_bd h
  refine c_V1 (as := [_, _, _, _]) (st := []) (ci := 10) dX10_firstMove_18 okX10_byMove lX10_311 ⟨rfl, rfl⟩ ⟨Nat.le_of_ble_eq_true rfl, Nat.le_of_ble_eq_true rfl⟩ (by decide) rfl rfl (Nat.lt_of_lt_of_le (Nat.le_of_ble_eq_true rfl) hn) rfl rfl (Nat.le_of_ble_eq_true rfl) (Nat.le_of_ble_eq_true rfl) (t_X10_byMove hn hF  hr3) ?_
  refine q_iload dX10_firstMove_21 rfl ?_
  refine q_icmp_ne 28 dX10_firstMove_23 (by decide) (fun hc => ?_) (fun hc => ?_)
  · have h := q_if hc h
    refine q_iconst (v := 0) dX10_firstMove_28 (by decide) ?_
    refine q_istore (ls' := [(0, _), (1, _), (2, _), (3, _), (4, _), (5, _)]) [0, 1, 2, 3, 4, 5] dX10_firstMove_29 (Nat.le_of_ble_eq_true rfl) rfl ?_
    obtain ⟨r6, hr7, h⟩ := q_bd h
    refine t_l_X10_firstMove_31 hn hF  7000 _ _ _ _ _ _ hr7 ?_ ?_
    · intro r8 er8
      subst er8
      dsimp only at h
      refine q_iload dX10_firstMove_68 rfl ?_
      cases h
      exact q_iret dX10_firstMove_70 rfl ⟨rfl, rfl⟩
    · intro r9 er9
      subst er9
      dsimp only at h
      refine q_iload_n dX10_firstMove_77 rfl ?_
      cases h
      exact q_iret dX10_firstMove_78 rfl ⟨rfl, rfl⟩
  · have h := q_it hc h
    refine q_iload_n dX10_firstMove_26 rfl ?_
    cases h
    exact q_iret dX10_firstMove_27 rfl ⟨rfl, rfl⟩
def l_X10_find_71 : Nat → Int32 → Int32 → Int32 → Int32 → Int32 → Int32 → q_Mm → Option (Int32 × q_Mm)
  | 0, _, _, _, _, _, _, _ => none
  | k + 1, y1, y6, y7, y8, y9, y10, m =>
    if q_in (f_X10_placeOf y10 y9 y8 m) 242064 = true then
    if (m.1 85 (f_X10_placeOf y10 y9 y8 m).toNatClampNeg) ≤ 0 then
      some (y10, m)
    else
      (f_X10_firstMove y10 y9 y8 m).bind fun r8 =>
      if r8 = y8 then
        if q_in (((41 * y1) + y6) + (y10 + 1)) 82 = true then
        l_X10_find_71 k  y1 y6 y7 r8 (y9 - 0) (y10 + 1) (q_wi m 82 ((((41 * y1) + y6) + (y10 + 1)).toNatClampNeg) r8)
        else none
      else
        if q_in (((41 * y1) + y6) + (y10 + 1)) 82 = true then
        l_X10_find_71 k  y1 y6 y7 r8 (y9 - 1) (y10 + 1) (q_wi m 82 ((((41 * y1) + y6) + (y10 + 1)).toNatClampNeg) r8)
        else none
    else none
set_option maxRecDepth 100000 in
set_option maxHeartbeats 4000000 in
theorem t_l_X10_find_71 {g : q_G} {n : Nat} {F : Nat → Nat → Option Nat} {Z : List Frame → Array Value → State → State → Prop} {kc ks : Nat} (hn : 89 ≤ n) (hF : q_FF F)  : ∀ (k : Nat) (y1 : Int32) (y6 : Int32) (y7 : Int32) (y8 : Int32) (y9 : Int32) (y10 : Int32) (m : q_Mm) {r : Int32 × q_Mm}, l_X10_find_71 k y1 y6 y7 y8 y9 y10 m = some r → (q_V g mX10_find q_T Z kc ks 144 [(0, q_r g 58), (1, .int y1), (6, .int y6), (7, .int y7), (10, .int r.1)] [] (q_mk n F r.2)) → q_V g mX10_find q_T Z kc ks 71 [(0, q_r g 58), (1, .int y1), (6, .int y6), (7, .int y7), (8, .int y8), (9, .int y9), (10, .int y10)] [] (q_mk n F m) := by
  intro k
  induction k with
  | zero => intro y1 y6 y7 y8 y9 y10 m r h; cases h
  | succ k ih =>
    intro y1 y6 y7 y8 y9 y10 m r h hx0
    unfold l_X10_find_71 at h
    refine q_aload_n dX10_find_71 rfl ?_
    refine u_getr dX10_find_72 fX10_108 rfl rfl (Nat.lt_of_lt_of_le (Nat.le_of_ble_eq_true rfl) hn) (hF 58 43 85 rfl) ?_
    refine q_iload dX10_find_75 rfl ?_
    refine q_iload dX10_find_77 rfl ?_
    refine q_iload dX10_find_79 rfl ?_
    refine c_S1 (as := [_, _, _]) (st := [_]) dX10_find_81 okX10_placeOf lX10_301 ⟨rfl, rfl⟩ ⟨Nat.le_of_ble_eq_true rfl, Nat.le_of_ble_eq_true rfl⟩ rfl rfl (Nat.le_of_ble_eq_true rfl) (Nat.le_of_ble_eq_true rfl) (t_X10_placeOf hn hF  rfl) ?_
    obtain ⟨hi7, h⟩ := q_is h
    refine u_iald dX10_find_84 rfl (Nat.lt_of_lt_of_le (Nat.le_of_ble_eq_true rfl) hn) (q_in_vp hi7) ?_
    refine q_if_le 144 dX10_find_85 (by decide) (fun hc => ?_) (fun hc => ?_)
    · have h := q_it hc h
      refine q_drop [0, 1, 6, 7, 10] (ls' := [(0, _), (1, _), (6, _), (7, _), (10, _)]) rfl ?_
      cases h
      exact hx0
    · have h := q_if hc h
      refine q_aload_n dX10_find_88 rfl ?_
      refine q_iload dX10_find_89 rfl ?_
      refine q_iload dX10_find_91 rfl ?_
      refine q_iload dX10_find_93 rfl ?_
      obtain ⟨r8, hr9, h⟩ := q_bd h
      refine c_V1 (as := [_, _, _]) (st := []) (ci := 10) dX10_find_95 okX10_firstMove lX10_321 ⟨rfl, rfl⟩ ⟨Nat.le_of_ble_eq_true rfl, Nat.le_of_ble_eq_true rfl⟩ (by decide) rfl rfl (Nat.lt_of_lt_of_le (Nat.le_of_ble_eq_true rfl) hn) rfl rfl (Nat.le_of_ble_eq_true rfl) (Nat.le_of_ble_eq_true rfl) (t_X10_firstMove hn hF  hr9) ?_
      refine q_istore (ls' := [(0, _), (1, _), (6, _), (7, _), (8, _), (9, _), (10, _), (11, _)]) [0, 1, 6, 7, 8, 9, 10, 11] dX10_find_98 (Nat.le_of_ble_eq_true rfl) rfl ?_
      refine q_iload dX10_find_100 rfl ?_
      refine q_iload dX10_find_102 rfl ?_
      refine q_iload dX10_find_104 rfl ?_
      refine q_icmp_ne 113 dX10_find_106 (by decide) (fun hc => ?_) (fun hc => ?_)
      · have h := q_if hc h
        refine q_iconst (v := 1) dX10_find_113 (by decide) ?_
        refine q_isub dX10_find_114 ?_
        refine q_istore (ls' := [(0, _), (1, _), (6, _), (7, _), (9, _), (10, _), (11, _)]) [0, 1, 6, 7, 9, 10, 11] dX10_find_115 (Nat.le_of_ble_eq_true rfl) rfl ?_
        refine q_iload dX10_find_117 rfl ?_
        refine q_istore (ls' := [(0, _), (1, _), (6, _), (7, _), (8, _), (9, _), (10, _)]) [0, 1, 6, 7, 8, 9, 10] dX10_find_119 (Nat.le_of_ble_eq_true rfl) rfl ?_
        refine q_iinc1 (w := 1) (ls' := [(0, _), (1, _), (6, _), (7, _), (8, _), (9, _), (10, _)]) [0, 1, 6, 7, 8, 9, 10] dX10_find_121 rfl (by decide) (Nat.le_of_ble_eq_true rfl) rfl ?_
        refine q_aload_n dX10_find_124 rfl ?_
        refine u_getr dX10_find_125 fX10_94 rfl rfl (Nat.lt_of_lt_of_le (Nat.le_of_ble_eq_true rfl) hn) (hF 58 37 82 rfl) ?_
        refine q_bipush (v := 41) dX10_find_128 (by decide) ?_
        refine q_iload_n dX10_find_130 rfl ?_
        refine q_imul dX10_find_131 ?_
        refine q_iload dX10_find_132 rfl ?_
        refine q_iadd dX10_find_134 ?_
        refine q_iload dX10_find_135 rfl ?_
        refine q_iadd dX10_find_137 ?_
        refine q_iload dX10_find_138 rfl ?_
        obtain ⟨hi10, h⟩ := q_is h
        refine u_iast dX10_find_140 rfl (Nat.lt_of_lt_of_le (Nat.le_of_ble_eq_true rfl) hn) (q_in_vp hi10) ?_
        refine q_goto 71 dX10_find_141 (by decide) ?_
        exact ih _ _ _ _ _ _ _ h hx0
      · have h := q_it hc h
        refine q_iconst (v := 0) dX10_find_109 (by decide) ?_
        refine q_goto 114 dX10_find_110 (by decide) ?_
        refine q_isub dX10_find_114 ?_
        refine q_istore (ls' := [(0, _), (1, _), (6, _), (7, _), (9, _), (10, _), (11, _)]) [0, 1, 6, 7, 9, 10, 11] dX10_find_115 (Nat.le_of_ble_eq_true rfl) rfl ?_
        refine q_iload dX10_find_117 rfl ?_
        refine q_istore (ls' := [(0, _), (1, _), (6, _), (7, _), (8, _), (9, _), (10, _)]) [0, 1, 6, 7, 8, 9, 10] dX10_find_119 (Nat.le_of_ble_eq_true rfl) rfl ?_
        refine q_iinc1 (w := 1) (ls' := [(0, _), (1, _), (6, _), (7, _), (8, _), (9, _), (10, _)]) [0, 1, 6, 7, 8, 9, 10] dX10_find_121 rfl (by decide) (Nat.le_of_ble_eq_true rfl) rfl ?_
        refine q_aload_n dX10_find_124 rfl ?_
        refine u_getr dX10_find_125 fX10_94 rfl rfl (Nat.lt_of_lt_of_le (Nat.le_of_ble_eq_true rfl) hn) (hF 58 37 82 rfl) ?_
        refine q_bipush (v := 41) dX10_find_128 (by decide) ?_
        refine q_iload_n dX10_find_130 rfl ?_
        refine q_imul dX10_find_131 ?_
        refine q_iload dX10_find_132 rfl ?_
        refine q_iadd dX10_find_134 ?_
        refine q_iload dX10_find_135 rfl ?_
        refine q_iadd dX10_find_137 ?_
        refine q_iload dX10_find_138 rfl ?_
        obtain ⟨hi11, h⟩ := q_is h
        refine u_iast dX10_find_140 rfl (Nat.lt_of_lt_of_le (Nat.le_of_ble_eq_true rfl) hn) (q_in_vp hi11) ?_
        refine q_goto 71 dX10_find_141 (by decide) ?_
        exact ih _ _ _ _ _ _ _ h hx0
def f_X10_find (x1 : Int32) (x2 : Int32) (x3 : Int32) (x4 : Int32) (x5 : Int32) (x6 : Int32) (m : q_Mm) : Option (Int32 × q_Mm) :=
  (f_X10_isFree x2 0 m).bind fun r1 =>
  if r1 = 0 then
    some ((1000000000, m))
  else
    (f_X10_findCosts x3 x4 x5 m).bind fun r3 =>
    if q_in (f_X10_placeOf 0 x5 x2 r3) 242064 = true then
    if (r3.1 85 (f_X10_placeOf 0 x5 x2 r3).toNatClampNeg) = 1000000000 then
      some ((1000000000, r3))
    else
      if q_in ((41 * x1) + x6) 82 = true then
      (l_X10_find_71 7000  x1 x6 (r3.1 85 (f_X10_placeOf 0 x5 x2 r3).toNatClampNeg) x2 x5 0 (q_wi r3 82 (((41 * x1) + x6).toNatClampNeg) x2)).bind fun r12 =>
      if q_in x1 2 = true then
      if q_in x1 2 = true then
      some ((r3.1 85 (f_X10_placeOf 0 x5 x2 r3).toNatClampNeg, q_wi (q_wi r12.2 83 x1.toNatClampNeg (x6 + r12.1)) 84 x1.toNatClampNeg 1))
      else none
      else none
      else none
    else none
set_option maxRecDepth 100000 in
set_option maxHeartbeats 4000000 in
theorem t_X10_find {g : q_G} {n : Nat} {F : Nat → Nat → Option Nat} (hn : 89 ≤ n) (hF : q_FF F)  {x1 : Int32} {x2 : Int32} {x3 : Int32} {x4 : Int32} {x5 : Int32} {x6 : Int32} {m : q_Mm} {r : Int32 × q_Mm} (h : f_X10_find x1 x2 x3 x4 x5 x6 m = some r) : q_Cn g mX10_find [q_r g 58, .int x1, .int x2, .int x3, .int x4, .int x5, .int x6] (q_mk n F m) (q_Q (some (.int r.1)) (q_mk n F r.2)) := by
  unfold f_X10_find at h
  show q_V g mX10_find q_T _ _ _ 0 [(0, q_r g 58), (1, .int x1), (2, .int x2), (3, .int x3), (4, .int x4), (5, .int x5), (6, .int x6)] [] (q_mk n F m)
  refine q_aload_n dX10_find_0 rfl ?_
  refine q_iload_n dX10_find_1 rfl ?_
  refine q_iconst (v := 0) dX10_find_2 (by decide) ?_
  obtain ⟨r1, hr2, h⟩ := q_bd h
  refine c_V1 (as := [_, _]) (st := []) (ci := 10) dX10_find_3 okX10_isFree lX10_297 ⟨rfl, rfl⟩ ⟨Nat.le_of_ble_eq_true rfl, Nat.le_of_ble_eq_true rfl⟩ (by decide) rfl rfl (Nat.lt_of_lt_of_le (Nat.le_of_ble_eq_true rfl) hn) rfl rfl (Nat.le_of_ble_eq_true rfl) (Nat.le_of_ble_eq_true rfl) (t_X10_isFree hn hF  hr2) ?_
  refine q_if_ne 13 dX10_find_6 (by decide) (fun hc => ?_) (fun hc => ?_)
  · have h := q_if hc h
    refine q_aload_n dX10_find_13 rfl ?_
    refine q_iload_n dX10_find_14 rfl ?_
    refine q_iload dX10_find_15 rfl ?_
    refine q_iload dX10_find_17 rfl ?_
    obtain ⟨r3, hr4, h⟩ := q_bd h
    refine c_V0 (as := [_, _, _]) (st := []) (ci := 10) dX10_find_19 okX10_findCosts lX10_318 ⟨rfl, rfl⟩ ⟨Nat.le_of_ble_eq_true rfl, Nat.le_of_ble_eq_true rfl⟩ (by decide) rfl rfl (Nat.lt_of_lt_of_le (Nat.le_of_ble_eq_true rfl) hn) rfl rfl (Nat.le_of_ble_eq_true rfl) (Nat.le_of_ble_eq_true rfl) (t_X10_findCosts hn hF  hr4) ?_
    refine q_aload_n dX10_find_22 rfl ?_
    refine u_getr dX10_find_23 fX10_108 rfl rfl (Nat.lt_of_lt_of_le (Nat.le_of_ble_eq_true rfl) hn) (hF 58 43 85 rfl) ?_
    refine q_iconst (v := 0) dX10_find_26 (by decide) ?_
    refine q_iload dX10_find_27 rfl ?_
    refine q_iload_n dX10_find_29 rfl ?_
    refine c_S1 (as := [_, _, _]) (st := [_]) dX10_find_30 okX10_placeOf lX10_301 ⟨rfl, rfl⟩ ⟨Nat.le_of_ble_eq_true rfl, Nat.le_of_ble_eq_true rfl⟩ rfl rfl (Nat.le_of_ble_eq_true rfl) (Nat.le_of_ble_eq_true rfl) (t_X10_placeOf hn hF  rfl) ?_
    obtain ⟨hi5, h⟩ := q_is h
    refine u_iald dX10_find_33 rfl (Nat.lt_of_lt_of_le (Nat.le_of_ble_eq_true rfl) hn) (q_in_vp hi5) ?_
    refine q_istore (ls' := [(0, _), (1, _), (2, _), (5, _), (6, _), (7, _)]) [0, 1, 2, 5, 6, 7] dX10_find_34 (Nat.le_of_ble_eq_true rfl) rfl ?_
    refine q_iload dX10_find_36 rfl ?_
    refine q_ldcw dX10_find_38 kX10_300 ?_
    refine q_icmp_ne 48 dX10_find_41 (by decide) (fun hc => ?_) (fun hc => ?_)
    · have h := q_if hc h
      refine q_iload_n dX10_find_48 rfl ?_
      refine q_istore (ls' := [(0, _), (1, _), (2, _), (5, _), (6, _), (7, _), (8, _)]) [0, 1, 2, 5, 6, 7, 8] dX10_find_49 (Nat.le_of_ble_eq_true rfl) rfl ?_
      refine q_iload dX10_find_51 rfl ?_
      refine q_istore (ls' := [(0, _), (1, _), (2, _), (6, _), (7, _), (8, _), (9, _)]) [0, 1, 2, 6, 7, 8, 9] dX10_find_53 (Nat.le_of_ble_eq_true rfl) rfl ?_
      refine q_iconst (v := 0) dX10_find_55 (by decide) ?_
      refine q_istore (ls' := [(0, _), (1, _), (2, _), (6, _), (7, _), (8, _), (9, _), (10, _)]) [0, 1, 2, 6, 7, 8, 9, 10] dX10_find_56 (Nat.le_of_ble_eq_true rfl) rfl ?_
      refine q_aload_n dX10_find_58 rfl ?_
      refine u_getr dX10_find_59 fX10_94 rfl rfl (Nat.lt_of_lt_of_le (Nat.le_of_ble_eq_true rfl) hn) (hF 58 37 82 rfl) ?_
      refine q_bipush (v := 41) dX10_find_62 (by decide) ?_
      refine q_iload_n dX10_find_64 rfl ?_
      refine q_imul dX10_find_65 ?_
      refine q_iload dX10_find_66 rfl ?_
      refine q_iadd dX10_find_68 ?_
      refine q_iload_n dX10_find_69 rfl ?_
      obtain ⟨hi6, h⟩ := q_is h
      refine u_iast dX10_find_70 rfl (Nat.lt_of_lt_of_le (Nat.le_of_ble_eq_true rfl) hn) (q_in_vp hi6) ?_
      refine q_drop [0, 1, 6, 7, 8, 9, 10] (ls' := [(0, _), (1, _), (6, _), (7, _), (8, _), (9, _), (10, _)]) rfl ?_
      obtain ⟨r12, hr13, h⟩ := q_bd h
      refine t_l_X10_find_71 hn hF  7000 _ _ _ _ _ _ _ hr13 ?_
      refine q_aload_n dX10_find_144 rfl ?_
      refine u_getr dX10_find_145 fX10_97 rfl rfl (Nat.lt_of_lt_of_le (Nat.le_of_ble_eq_true rfl) hn) (hF 58 38 83 rfl) ?_
      refine q_iload_n dX10_find_148 rfl ?_
      refine q_iload dX10_find_149 rfl ?_
      refine q_iload dX10_find_151 rfl ?_
      refine q_iadd dX10_find_153 ?_
      obtain ⟨hi14, h⟩ := q_is h
      refine u_iast dX10_find_154 rfl (Nat.lt_of_lt_of_le (Nat.le_of_ble_eq_true rfl) hn) (q_in_vp hi14) ?_
      refine q_aload_n dX10_find_155 rfl ?_
      refine u_getr dX10_find_156 fX10_100 rfl rfl (Nat.lt_of_lt_of_le (Nat.le_of_ble_eq_true rfl) hn) (hF 58 39 84 rfl) ?_
      refine q_iload_n dX10_find_159 rfl ?_
      refine q_iconst (v := 1) dX10_find_160 (by decide) ?_
      obtain ⟨hi15, h⟩ := q_is h
      refine u_zast dX10_find_161 rfl (Nat.lt_of_lt_of_le (Nat.le_of_ble_eq_true rfl) hn) (q_in_vp hi15) rfl ?_
      refine q_iload dX10_find_162 rfl ?_
      cases h
      exact q_iret dX10_find_164 rfl ⟨rfl, rfl⟩
    · have h := q_it hc h
      refine q_ldcw dX10_find_44 kX10_300 ?_
      cases h
      exact q_iret dX10_find_47 rfl ⟨rfl, rfl⟩
  · have h := q_it hc h
    refine q_ldcw dX10_find_9 kX10_300 ?_
    cases h
    exact q_iret dX10_find_12 rfl ⟨rfl, rfl⟩
def f_X10_isAllowed (x0 : Int32) (x1 : Int32) (m : q_Mm) : (Int32) :=
  if (f_X10_in x0.toInt64 0 40 m) = 0 then
    0
  else
    if (f_X10_in x1.toInt64 0 40 m) = 0 then
      0
    else
      1
set_option maxRecDepth 100000 in
set_option maxHeartbeats 4000000 in
theorem t_X10_isAllowed {g : q_G} {n : Nat} {F : Nat → Nat → Option Nat} (hn : 89 ≤ n) (hF : q_FF F)  {x0 : Int32} {x1 : Int32} {m : q_Mm} {r : Int32} (h : f_X10_isAllowed x0 x1 m = r) : q_Cn g mX10_isAllowed [.int x0, .int x1] (q_mk n F m) (q_Q (some (.int r)) (q_mk n F m)) := by
  unfold f_X10_isAllowed at h
  show q_V g mX10_isAllowed q_T _ _ _ 0 [(0, .int x0), (1, .int x1)] [] (q_mk n F m)
  refine q_iload_n dX10_isAllowed_0 rfl ?_
  refine q_i2l dX10_isAllowed_1 ?_
  refine q_lconst (v := 0) dX10_isAllowed_2 (by decide) ?_
  refine q_ldc2 dX10_isAllowed_3 kX10_273 ?_
  refine c_S1 (as := [_, _, _]) (st := []) dX10_isAllowed_6 okX10_in lX10_122 ⟨rfl, rfl⟩ ⟨Nat.le_of_ble_eq_true rfl, Nat.le_of_ble_eq_true rfl⟩ rfl rfl (Nat.le_of_ble_eq_true rfl) (Nat.le_of_ble_eq_true rfl) (t_X10_in hn hF  rfl) ?_
  refine q_if_eq 28 dX10_isAllowed_9 (by decide) (fun hc => ?_) (fun hc => ?_)
  · have h := q_it hc h
    refine q_iconst (v := 0) dX10_isAllowed_28 (by decide) ?_
    subst h
    exact q_zret dX10_isAllowed_29 rfl rfl ⟨rfl, rfl⟩
  · have h := q_if hc h
    refine q_iload_n dX10_isAllowed_12 rfl ?_
    refine q_i2l dX10_isAllowed_13 ?_
    refine q_lconst (v := 0) dX10_isAllowed_14 (by decide) ?_
    refine q_ldc2 dX10_isAllowed_15 kX10_273 ?_
    refine c_S1 (as := [_, _, _]) (st := []) dX10_isAllowed_18 okX10_in lX10_122 ⟨rfl, rfl⟩ ⟨Nat.le_of_ble_eq_true rfl, Nat.le_of_ble_eq_true rfl⟩ rfl rfl (Nat.le_of_ble_eq_true rfl) (Nat.le_of_ble_eq_true rfl) (t_X10_in hn hF  rfl) ?_
    refine q_if_eq 28 dX10_isAllowed_21 (by decide) (fun hc => ?_) (fun hc => ?_)
    · have h := q_it hc h
      refine q_iconst (v := 0) dX10_isAllowed_28 (by decide) ?_
      subst h
      exact q_zret dX10_isAllowed_29 rfl rfl ⟨rfl, rfl⟩
    · have h := q_if hc h
      refine q_iconst (v := 1) dX10_isAllowed_24 (by decide) ?_
      refine q_goto 29 dX10_isAllowed_25 (by decide) ?_
      subst h
      exact q_zret dX10_isAllowed_29 rfl rfl ⟨rfl, rfl⟩
theorem b_X10_isAllowed {x0 : Int32} {x1 : Int32} {m : q_Mm} : q_bo (f_X10_isAllowed x0 x1 m) := by
  unfold f_X10_isAllowed
  repeat' split
  all_goals first | exact Or.inl rfl | exact Or.inr rfl | exact b_X10_in
def f_X10_route (x1 : Int32) (x2 : Int32) (x3 : Int32) (x4 : Int32) (m : q_Mm) : Option (Int32 × q_Mm) :=
  if (f_X10_isCell x1 m) = 0 then
    some (((-1), m))
  else
    if (f_X10_isCell x2 m) = 0 then
      some (((-1), m))
    else
      if (f_X10_isAllowed x3 x4 m) = 0 then
        some (((-2), m))
      else
        (f_X10_find 0 x1 x2 x3 x4 0 (q_wi m 58 42 (-1))).bind fun r1 =>
        if r1.1 = 1000000000 then
          some (((-5), r1.2))
        else
          some ((r1.1 / 10000, q_wi (q_wi r1.2 58 40 x3) 58 41 x4))
set_option maxRecDepth 100000 in
set_option maxHeartbeats 4000000 in
theorem t_X10_route {g : q_G} {n : Nat} {F : Nat → Nat → Option Nat} (hn : 89 ≤ n) (hF : q_FF F)  {x1 : Int32} {x2 : Int32} {x3 : Int32} {x4 : Int32} {m : q_Mm} {r : Int32 × q_Mm} (h : f_X10_route x1 x2 x3 x4 m = some r) : q_Cn g mX10_route [q_r g 58, .int x1, .int x2, .int x3, .int x4] (q_mk n F m) (q_Q (some (.int r.1)) (q_mk n F r.2)) := by
  unfold f_X10_route at h
  show q_V g mX10_route q_T _ _ _ 0 [(0, q_r g 58), (1, .int x1), (2, .int x2), (3, .int x3), (4, .int x4)] [] (q_mk n F m)
  refine q_iload_n dX10_route_0 rfl ?_
  refine c_S1 (as := [_]) (st := []) dX10_route_1 okX10_isCell lX10_324 ⟨rfl, rfl⟩ ⟨Nat.le_of_ble_eq_true rfl, Nat.le_of_ble_eq_true rfl⟩ rfl rfl (Nat.le_of_ble_eq_true rfl) (Nat.le_of_ble_eq_true rfl) (t_X10_isCell hn hF  rfl) ?_
  refine q_if_eq 14 dX10_route_4 (by decide) (fun hc => ?_) (fun hc => ?_)
  · have h := q_it hc h
    refine q_iconst (v := (-1)) dX10_route_14 (by decide) ?_
    cases h
    exact q_iret dX10_route_15 rfl ⟨rfl, rfl⟩
  · have h := q_if hc h
    refine q_iload_n dX10_route_7 rfl ?_
    refine c_S1 (as := [_]) (st := []) dX10_route_8 okX10_isCell lX10_324 ⟨rfl, rfl⟩ ⟨Nat.le_of_ble_eq_true rfl, Nat.le_of_ble_eq_true rfl⟩ rfl rfl (Nat.le_of_ble_eq_true rfl) (Nat.le_of_ble_eq_true rfl) (t_X10_isCell hn hF  rfl) ?_
    refine q_if_ne 16 dX10_route_11 (by decide) (fun hc => ?_) (fun hc => ?_)
    · have h := q_if hc h
      refine q_iload_n dX10_route_16 rfl ?_
      refine q_iload dX10_route_17 rfl ?_
      refine c_S1 (as := [_, _]) (st := []) dX10_route_19 okX10_isAllowed lX10_327 ⟨rfl, rfl⟩ ⟨Nat.le_of_ble_eq_true rfl, Nat.le_of_ble_eq_true rfl⟩ rfl rfl (Nat.le_of_ble_eq_true rfl) (Nat.le_of_ble_eq_true rfl) (t_X10_isAllowed hn hF  rfl) ?_
      refine q_if_ne 28 dX10_route_22 (by decide) (fun hc => ?_) (fun hc => ?_)
      · have h := q_if hc h
        refine q_aload_n dX10_route_28 rfl ?_
        refine q_iconst (v := (-1)) dX10_route_29 (by decide) ?_
        refine u_puti dX10_route_30 fX10_104 rfl rfl (Nat.lt_of_lt_of_le (Nat.le_of_ble_eq_true rfl) hn) rfl rfl rfl ?_
        refine q_aload_n dX10_route_33 rfl ?_
        refine q_iconst (v := 0) dX10_route_34 (by decide) ?_
        refine q_iload_n dX10_route_35 rfl ?_
        refine q_iload_n dX10_route_36 rfl ?_
        refine q_iload_n dX10_route_37 rfl ?_
        refine q_iload dX10_route_38 rfl ?_
        refine q_iconst (v := 0) dX10_route_40 (by decide) ?_
        obtain ⟨r1, hr2, h⟩ := q_bd h
        refine c_V1 (as := [_, _, _, _, _, _]) (st := []) (ci := 10) dX10_route_41 okX10_find lX10_330 ⟨rfl, rfl⟩ ⟨Nat.le_of_ble_eq_true rfl, Nat.le_of_ble_eq_true rfl⟩ (by decide) rfl rfl (Nat.lt_of_lt_of_le (Nat.le_of_ble_eq_true rfl) hn) rfl rfl (Nat.le_of_ble_eq_true rfl) (Nat.le_of_ble_eq_true rfl) (t_X10_find hn hF  hr2) ?_
        refine q_istore (ls' := [(0, _), (3, _), (4, _), (5, _)]) [0, 3, 4, 5] dX10_route_44 (Nat.le_of_ble_eq_true rfl) rfl ?_
        refine q_iload dX10_route_46 rfl ?_
        refine q_ldcw dX10_route_48 kX10_300 ?_
        refine q_icmp_ne 57 dX10_route_51 (by decide) (fun hc => ?_) (fun hc => ?_)
        · have h := q_if hc h
          refine q_aload_n dX10_route_57 rfl ?_
          refine q_iload_n dX10_route_58 rfl ?_
          refine u_puti dX10_route_59 fX10_334 rfl rfl (Nat.lt_of_lt_of_le (Nat.le_of_ble_eq_true rfl) hn) rfl rfl rfl ?_
          refine q_aload_n dX10_route_62 rfl ?_
          refine q_iload dX10_route_63 rfl ?_
          refine u_puti dX10_route_65 fX10_337 rfl rfl (Nat.lt_of_lt_of_le (Nat.le_of_ble_eq_true rfl) hn) rfl rfl rfl ?_
          refine q_iload dX10_route_68 rfl ?_
          refine q_sipush (v := 10000) dX10_route_70 (by decide) ?_
          refine q_idiv dX10_route_73 (by decide) ?_
          cases h
          exact q_iret dX10_route_74 rfl ⟨rfl, rfl⟩
        · have h := q_it hc h
          refine q_bipush (v := (-5)) dX10_route_54 (by decide) ?_
          cases h
          exact q_iret dX10_route_56 rfl ⟨rfl, rfl⟩
      · have h := q_it hc h
        refine q_bipush (v := (-2)) dX10_route_25 (by decide) ?_
        cases h
        exact q_iret dX10_route_27 rfl ⟨rfl, rfl⟩
    · have h := q_it hc h
      refine q_iconst (v := (-1)) dX10_route_14 (by decide) ?_
      cases h
      exact q_iret dX10_route_15 rfl ⟨rfl, rfl⟩
def f_X10_apart (x1 : Int32) (x2 : Int32) (x3 : Int32) (x4 : Int32) (x5 : Int32) (m : q_Mm) : Option (Int32 × q_Mm) :=
  if (f_X10_isCell x1 m) = 0 then
    some (((-1), m))
  else
    if (f_X10_isCell x2 m) = 0 then
      some (((-1), m))
    else
      if (f_X10_isAllowed x3 x4 m) = 0 then
        some (((-2), m))
      else
        if (f_X10_in x5.toInt64 0 5 m) = 0 then
          some (((-2), m))
        else
          if (m.1 84 (0 : Int32).toNatClampNeg) = 0 then
            some (((-3), m))
          else
            (f_X10_find 1 x1 x2 x3 x4 0 (q_wi m 58 42 x5)).bind fun r1 =>
            if r1.1 = 1000000000 then
              some (((-5), r1.2))
            else
              some ((r1.1 / 10000, r1.2))
set_option maxRecDepth 100000 in
set_option maxHeartbeats 4000000 in
theorem t_X10_apart {g : q_G} {n : Nat} {F : Nat → Nat → Option Nat} (hn : 89 ≤ n) (hF : q_FF F)  {x1 : Int32} {x2 : Int32} {x3 : Int32} {x4 : Int32} {x5 : Int32} {m : q_Mm} {r : Int32 × q_Mm} (h : f_X10_apart x1 x2 x3 x4 x5 m = some r) : q_Cn g mX10_apart [q_r g 58, .int x1, .int x2, .int x3, .int x4, .int x5] (q_mk n F m) (q_Q (some (.int r.1)) (q_mk n F r.2)) := by
  unfold f_X10_apart at h
  show q_V g mX10_apart q_T _ _ _ 0 [(0, q_r g 58), (1, .int x1), (2, .int x2), (3, .int x3), (4, .int x4), (5, .int x5)] [] (q_mk n F m)
  refine q_iload_n dX10_apart_0 rfl ?_
  refine c_S1 (as := [_]) (st := []) dX10_apart_1 okX10_isCell lX10_324 ⟨rfl, rfl⟩ ⟨Nat.le_of_ble_eq_true rfl, Nat.le_of_ble_eq_true rfl⟩ rfl rfl (Nat.le_of_ble_eq_true rfl) (Nat.le_of_ble_eq_true rfl) (t_X10_isCell hn hF  rfl) ?_
  refine q_if_eq 14 dX10_apart_4 (by decide) (fun hc => ?_) (fun hc => ?_)
  · have h := q_it hc h
    refine q_iconst (v := (-1)) dX10_apart_14 (by decide) ?_
    cases h
    exact q_iret dX10_apart_15 rfl ⟨rfl, rfl⟩
  · have h := q_if hc h
    refine q_iload_n dX10_apart_7 rfl ?_
    refine c_S1 (as := [_]) (st := []) dX10_apart_8 okX10_isCell lX10_324 ⟨rfl, rfl⟩ ⟨Nat.le_of_ble_eq_true rfl, Nat.le_of_ble_eq_true rfl⟩ rfl rfl (Nat.le_of_ble_eq_true rfl) (Nat.le_of_ble_eq_true rfl) (t_X10_isCell hn hF  rfl) ?_
    refine q_if_ne 16 dX10_apart_11 (by decide) (fun hc => ?_) (fun hc => ?_)
    · have h := q_if hc h
      refine q_iload_n dX10_apart_16 rfl ?_
      refine q_iload dX10_apart_17 rfl ?_
      refine c_S1 (as := [_, _]) (st := []) dX10_apart_19 okX10_isAllowed lX10_327 ⟨rfl, rfl⟩ ⟨Nat.le_of_ble_eq_true rfl, Nat.le_of_ble_eq_true rfl⟩ rfl rfl (Nat.le_of_ble_eq_true rfl) (Nat.le_of_ble_eq_true rfl) (t_X10_isAllowed hn hF  rfl) ?_
      refine q_if_eq 38 dX10_apart_22 (by decide) (fun hc => ?_) (fun hc => ?_)
      · have h := q_it hc h
        refine q_bipush (v := (-2)) dX10_apart_38 (by decide) ?_
        cases h
        exact q_iret dX10_apart_40 rfl ⟨rfl, rfl⟩
      · have h := q_if hc h
        refine q_iload dX10_apart_25 rfl ?_
        refine q_i2l dX10_apart_27 ?_
        refine q_lconst (v := 0) dX10_apart_28 (by decide) ?_
        refine q_ldc2 dX10_apart_29 kX10_192 ?_
        refine c_S1 (as := [_, _, _]) (st := []) dX10_apart_32 okX10_in lX10_122 ⟨rfl, rfl⟩ ⟨Nat.le_of_ble_eq_true rfl, Nat.le_of_ble_eq_true rfl⟩ rfl rfl (Nat.le_of_ble_eq_true rfl) (Nat.le_of_ble_eq_true rfl) (t_X10_in hn hF  rfl) ?_
        refine q_if_ne 41 dX10_apart_35 (by decide) (fun hc => ?_) (fun hc => ?_)
        · have h := q_if hc h
          refine q_aload_n dX10_apart_41 rfl ?_
          refine u_getr dX10_apart_42 fX10_100 rfl rfl (Nat.lt_of_lt_of_le (Nat.le_of_ble_eq_true rfl) hn) (hF 58 39 84 rfl) ?_
          refine q_iconst (v := 0) dX10_apart_45 (by decide) ?_
          refine u_zald dX10_apart_46 rfl (Nat.lt_of_lt_of_le (Nat.le_of_ble_eq_true rfl) hn) (q_in_vp (by decide)) ?_
          refine q_if_ne 53 dX10_apart_47 (by decide) (fun hc => ?_) (fun hc => ?_)
          · have h := q_if hc h
            refine q_aload_n dX10_apart_53 rfl ?_
            refine q_iload dX10_apart_54 rfl ?_
            refine u_puti dX10_apart_56 fX10_104 rfl rfl (Nat.lt_of_lt_of_le (Nat.le_of_ble_eq_true rfl) hn) rfl rfl rfl ?_
            refine q_aload_n dX10_apart_59 rfl ?_
            refine q_iconst (v := 1) dX10_apart_60 (by decide) ?_
            refine q_iload_n dX10_apart_61 rfl ?_
            refine q_iload_n dX10_apart_62 rfl ?_
            refine q_iload_n dX10_apart_63 rfl ?_
            refine q_iload dX10_apart_64 rfl ?_
            refine q_iconst (v := 0) dX10_apart_66 (by decide) ?_
            obtain ⟨r1, hr2, h⟩ := q_bd h
            refine c_V1 (as := [_, _, _, _, _, _]) (st := []) (ci := 10) dX10_apart_67 okX10_find lX10_330 ⟨rfl, rfl⟩ ⟨Nat.le_of_ble_eq_true rfl, Nat.le_of_ble_eq_true rfl⟩ (by decide) rfl rfl (Nat.lt_of_lt_of_le (Nat.le_of_ble_eq_true rfl) hn) rfl rfl (Nat.le_of_ble_eq_true rfl) (Nat.le_of_ble_eq_true rfl) (t_X10_find hn hF  hr2) ?_
            refine q_istore (ls' := [(6, _)]) [6] dX10_apart_70 (Nat.le_of_ble_eq_true rfl) rfl ?_
            refine q_iload dX10_apart_72 rfl ?_
            refine q_ldcw dX10_apart_74 kX10_300 ?_
            refine q_icmp_ne 85 dX10_apart_77 (by decide) (fun hc => ?_) (fun hc => ?_)
            · have h := q_if hc h
              refine q_iload dX10_apart_85 rfl ?_
              refine q_sipush (v := 10000) dX10_apart_87 (by decide) ?_
              refine q_idiv dX10_apart_90 (by decide) ?_
              cases h
              exact q_iret dX10_apart_91 rfl ⟨rfl, rfl⟩
            · have h := q_it hc h
              refine q_bipush (v := (-5)) dX10_apart_80 (by decide) ?_
              refine q_goto 91 dX10_apart_82 (by decide) ?_
              cases h
              exact q_iret dX10_apart_91 rfl ⟨rfl, rfl⟩
          · have h := q_it hc h
            refine q_bipush (v := (-3)) dX10_apart_50 (by decide) ?_
            cases h
            exact q_iret dX10_apart_52 rfl ⟨rfl, rfl⟩
        · have h := q_it hc h
          refine q_bipush (v := (-2)) dX10_apart_38 (by decide) ?_
          cases h
          exact q_iret dX10_apart_40 rfl ⟨rfl, rfl⟩
    · have h := q_it hc h
      refine q_iconst (v := (-1)) dX10_apart_14 (by decide) ?_
      cases h
      exact q_iret dX10_apart_15 rfl ⟨rfl, rfl⟩
def l_X10_fuelTill_5 : Nat → Int32 → Int32 → Int32 → Int32 → q_Mm → Option (Int32)
  | 0, _, _, _, _, _ => none
  | k + 1, y1, y2, y3, y4, m =>
    if y2 < y4 then
      some (y3)
    else
      if q_in ((41 * y1) + y4) 82 = true then
      if q_in (((41 * y1) + y4) - 1) 82 = true then
      if (m.1 82 ((41 * y1) + y4).toNatClampNeg) = (m.1 82 (((41 * y1) + y4) - 1).toNatClampNeg) then
        l_X10_fuelTill_5 k  y1 y2 (y3 + 0) (y4 + 1) m
      else
        l_X10_fuelTill_5 k  y1 y2 (y3 + 1) (y4 + 1) m
      else none
      else none
set_option maxRecDepth 100000 in
set_option maxHeartbeats 4000000 in
theorem t_l_X10_fuelTill_5 {g : q_G} {n : Nat} {F : Nat → Nat → Option Nat} {Z : List Frame → Array Value → State → State → Prop} {kc ks : Nat} (hn : 89 ≤ n) (hF : q_FF F)  : ∀ (k : Nat) (y1 : Int32) (y2 : Int32) (y3 : Int32) (y4 : Int32) (m : q_Mm) {r : Int32}, l_X10_fuelTill_5 k y1 y2 y3 y4 m = some r → (q_V g mX10_fuelTill q_T Z kc ks 54 [(3, .int r)] [] (q_mk n F m)) → q_V g mX10_fuelTill q_T Z kc ks 5 [(0, q_r g 58), (1, .int y1), (2, .int y2), (3, .int y3), (4, .int y4)] [] (q_mk n F m) := by
  intro k
  induction k with
  | zero => intro y1 y2 y3 y4 m r h; cases h
  | succ k ih =>
    intro y1 y2 y3 y4 m r h hx0
    unfold l_X10_fuelTill_5 at h
    refine q_iload dX10_fuelTill_5 rfl ?_
    refine q_iload_n dX10_fuelTill_7 rfl ?_
    refine q_icmp_gt 54 dX10_fuelTill_8 (by decide) (fun hc => ?_) (fun hc => ?_)
    · have h := q_it hc h
      refine q_drop [3] (ls' := [(3, _)]) rfl ?_
      cases h
      exact hx0
    · have h := q_if hc h
      refine q_iload_n dX10_fuelTill_11 rfl ?_
      refine q_aload_n dX10_fuelTill_12 rfl ?_
      refine u_getr dX10_fuelTill_13 fX10_94 rfl rfl (Nat.lt_of_lt_of_le (Nat.le_of_ble_eq_true rfl) hn) (hF 58 37 82 rfl) ?_
      refine q_bipush (v := 41) dX10_fuelTill_16 (by decide) ?_
      refine q_iload_n dX10_fuelTill_18 rfl ?_
      refine q_imul dX10_fuelTill_19 ?_
      refine q_iload dX10_fuelTill_20 rfl ?_
      refine q_iadd dX10_fuelTill_22 ?_
      obtain ⟨hi1, h⟩ := q_is h
      refine u_iald dX10_fuelTill_23 rfl (Nat.lt_of_lt_of_le (Nat.le_of_ble_eq_true rfl) hn) (q_in_vp hi1) ?_
      refine q_aload_n dX10_fuelTill_24 rfl ?_
      refine u_getr dX10_fuelTill_25 fX10_94 rfl rfl (Nat.lt_of_lt_of_le (Nat.le_of_ble_eq_true rfl) hn) (hF 58 37 82 rfl) ?_
      refine q_bipush (v := 41) dX10_fuelTill_28 (by decide) ?_
      refine q_iload_n dX10_fuelTill_30 rfl ?_
      refine q_imul dX10_fuelTill_31 ?_
      refine q_iload dX10_fuelTill_32 rfl ?_
      refine q_iadd dX10_fuelTill_34 ?_
      refine q_iconst (v := 1) dX10_fuelTill_35 (by decide) ?_
      refine q_isub dX10_fuelTill_36 ?_
      obtain ⟨hi2, h⟩ := q_is h
      refine u_iald dX10_fuelTill_37 rfl (Nat.lt_of_lt_of_le (Nat.le_of_ble_eq_true rfl) hn) (q_in_vp hi2) ?_
      refine q_icmp_ne 45 dX10_fuelTill_38 (by decide) (fun hc => ?_) (fun hc => ?_)
      · have h := q_if hc h
        refine q_iconst (v := 1) dX10_fuelTill_45 (by decide) ?_
        refine q_iadd dX10_fuelTill_46 ?_
        refine q_istore_n (ls' := [(0, _), (1, _), (2, _), (3, _), (4, _)]) [0, 1, 2, 3, 4] dX10_fuelTill_47 (Nat.le_of_ble_eq_true rfl) rfl ?_
        refine q_iinc1 (w := 1) (ls' := [(0, _), (1, _), (2, _), (3, _), (4, _)]) [0, 1, 2, 3, 4] dX10_fuelTill_48 rfl (by decide) (Nat.le_of_ble_eq_true rfl) rfl ?_
        refine q_goto 5 dX10_fuelTill_51 (by decide) ?_
        exact ih _ _ _ _ _ h hx0
      · have h := q_it hc h
        refine q_iconst (v := 0) dX10_fuelTill_41 (by decide) ?_
        refine q_goto 46 dX10_fuelTill_42 (by decide) ?_
        refine q_iadd dX10_fuelTill_46 ?_
        refine q_istore_n (ls' := [(0, _), (1, _), (2, _), (3, _), (4, _)]) [0, 1, 2, 3, 4] dX10_fuelTill_47 (Nat.le_of_ble_eq_true rfl) rfl ?_
        refine q_iinc1 (w := 1) (ls' := [(0, _), (1, _), (2, _), (3, _), (4, _)]) [0, 1, 2, 3, 4] dX10_fuelTill_48 rfl (by decide) (Nat.le_of_ble_eq_true rfl) rfl ?_
        refine q_goto 5 dX10_fuelTill_51 (by decide) ?_
        exact ih _ _ _ _ _ h hx0
def f_X10_fuelTill (x1 : Int32) (x2 : Int32) (m : q_Mm) : Option (Int32) :=
  (l_X10_fuelTill_5 7000  x1 x2 0 1 m).bind fun r3 =>
  some (r3)
set_option maxRecDepth 100000 in
set_option maxHeartbeats 4000000 in
theorem t_X10_fuelTill {g : q_G} {n : Nat} {F : Nat → Nat → Option Nat} (hn : 89 ≤ n) (hF : q_FF F)  {x1 : Int32} {x2 : Int32} {m : q_Mm} {r : Int32} (h : f_X10_fuelTill x1 x2 m = some r) : q_Cn g mX10_fuelTill [q_r g 58, .int x1, .int x2] (q_mk n F m) (q_Q (some (.int r)) (q_mk n F m)) := by
  unfold f_X10_fuelTill at h
  show q_V g mX10_fuelTill q_T _ _ _ 0 [(0, q_r g 58), (1, .int x1), (2, .int x2)] [] (q_mk n F m)
  refine q_iconst (v := 0) dX10_fuelTill_0 (by decide) ?_
  refine q_istore_n (ls' := [(0, _), (1, _), (2, _), (3, _)]) [0, 1, 2, 3] dX10_fuelTill_1 (Nat.le_of_ble_eq_true rfl) rfl ?_
  refine q_iconst (v := 1) dX10_fuelTill_2 (by decide) ?_
  refine q_istore (ls' := [(0, _), (1, _), (2, _), (3, _), (4, _)]) [0, 1, 2, 3, 4] dX10_fuelTill_3 (Nat.le_of_ble_eq_true rfl) rfl ?_
  obtain ⟨r3, hr4, h⟩ := q_bd h
  refine t_l_X10_fuelTill_5 hn hF  7000 _ _ _ _ _ hr4 ?_
  refine q_iload_n dX10_fuelTill_54 rfl ?_
  cases h
  exact q_iret dX10_fuelTill_55 rfl ⟨rfl, rfl⟩
def f_X10_cell (x1 : Int32) (x2 : Int32) (m : q_Mm) : Option (Int32) :=
  if (f_X10_in x1.toInt64 0 1 m) = 0 then
    some ((-2))
  else
    if (f_X10_in x2.toInt64 (-2) 40 m) = 0 then
      some ((-2))
    else
      if q_in x1 2 = true then
      if (m.1 84 x1.toNatClampNeg) = 0 then
        some ((-6))
      else
        if x2 = (-1) then
          if q_in x1 2 = true then
          some (m.1 83 x1.toNatClampNeg)
          else none
        else
          if x2 = (-2) then
            if q_in x1 2 = true then
            (f_X10_fuelTill x1 (m.1 83 x1.toNatClampNeg) m).bind fun r5 =>
            some (r5)
            else none
          else
            (f_X10_cellOf x1 x2 m).bind fun r2 =>
            some (r2)
      else none
set_option maxRecDepth 100000 in
set_option maxHeartbeats 4000000 in
theorem t_X10_cell {g : q_G} {n : Nat} {F : Nat → Nat → Option Nat} (hn : 89 ≤ n) (hF : q_FF F)  {x1 : Int32} {x2 : Int32} {m : q_Mm} {r : Int32} (h : f_X10_cell x1 x2 m = some r) : q_Cn g mX10_cell [q_r g 58, .int x1, .int x2] (q_mk n F m) (q_Q (some (.int r)) (q_mk n F m)) := by
  unfold f_X10_cell at h
  show q_V g mX10_cell q_T _ _ _ 0 [(0, q_r g 58), (1, .int x1), (2, .int x2)] [] (q_mk n F m)
  refine q_iload_n dX10_cell_0 rfl ?_
  refine q_i2l dX10_cell_1 ?_
  refine q_lconst (v := 0) dX10_cell_2 (by decide) ?_
  refine q_lconst (v := 1) dX10_cell_3 (by decide) ?_
  refine c_S1 (as := [_, _, _]) (st := []) dX10_cell_4 okX10_in lX10_122 ⟨rfl, rfl⟩ ⟨Nat.le_of_ble_eq_true rfl, Nat.le_of_ble_eq_true rfl⟩ rfl rfl (Nat.le_of_ble_eq_true rfl) (Nat.le_of_ble_eq_true rfl) (t_X10_in hn hF  rfl) ?_
  refine q_if_eq 24 dX10_cell_7 (by decide) (fun hc => ?_) (fun hc => ?_)
  · have h := q_it hc h
    refine q_bipush (v := (-2)) dX10_cell_24 (by decide) ?_
    cases h
    exact q_iret dX10_cell_26 rfl ⟨rfl, rfl⟩
  · have h := q_if hc h
    refine q_iload_n dX10_cell_10 rfl ?_
    refine q_i2l dX10_cell_11 ?_
    refine q_ldc2 dX10_cell_12 kX10_340 ?_
    refine q_ldc2 dX10_cell_15 kX10_273 ?_
    refine c_S1 (as := [_, _, _]) (st := []) dX10_cell_18 okX10_in lX10_122 ⟨rfl, rfl⟩ ⟨Nat.le_of_ble_eq_true rfl, Nat.le_of_ble_eq_true rfl⟩ rfl rfl (Nat.le_of_ble_eq_true rfl) (Nat.le_of_ble_eq_true rfl) (t_X10_in hn hF  rfl) ?_
    refine q_if_ne 27 dX10_cell_21 (by decide) (fun hc => ?_) (fun hc => ?_)
    · have h := q_if hc h
      refine q_aload_n dX10_cell_27 rfl ?_
      refine u_getr dX10_cell_28 fX10_100 rfl rfl (Nat.lt_of_lt_of_le (Nat.le_of_ble_eq_true rfl) hn) (hF 58 39 84 rfl) ?_
      refine q_iload_n dX10_cell_31 rfl ?_
      obtain ⟨hi1, h⟩ := q_is h
      refine u_zald dX10_cell_32 rfl (Nat.lt_of_lt_of_le (Nat.le_of_ble_eq_true rfl) hn) (q_in_vp hi1) ?_
      refine q_if_ne 39 dX10_cell_33 (by decide) (fun hc => ?_) (fun hc => ?_)
      · have h := q_if hc h
        refine q_iload_n dX10_cell_39 rfl ?_
        refine q_iconst (v := (-1)) dX10_cell_40 (by decide) ?_
        refine q_icmp_ne 53 dX10_cell_41 (by decide) (fun hc => ?_) (fun hc => ?_)
        · have h := q_if hc h
          refine q_iload_n dX10_cell_53 rfl ?_
          refine q_bipush (v := (-2)) dX10_cell_54 (by decide) ?_
          refine q_icmp_ne 73 dX10_cell_56 (by decide) (fun hc => ?_) (fun hc => ?_)
          · have h := q_if hc h
            refine q_aload_n dX10_cell_73 rfl ?_
            refine q_iload_n dX10_cell_74 rfl ?_
            refine q_iload_n dX10_cell_75 rfl ?_
            obtain ⟨r2, hr3, h⟩ := q_bd h
            refine c_V1 (as := [_, _]) (st := []) (ci := 10) dX10_cell_76 okX10_cellOf lX10_291 ⟨rfl, rfl⟩ ⟨Nat.le_of_ble_eq_true rfl, Nat.le_of_ble_eq_true rfl⟩ (by decide) rfl rfl (Nat.lt_of_lt_of_le (Nat.le_of_ble_eq_true rfl) hn) rfl rfl (Nat.le_of_ble_eq_true rfl) (Nat.le_of_ble_eq_true rfl) (t_X10_cellOf hn hF  hr3) ?_
            cases h
            exact q_iret dX10_cell_79 rfl ⟨rfl, rfl⟩
          · have h := q_it hc h
            refine q_aload_n dX10_cell_59 rfl ?_
            refine q_iload_n dX10_cell_60 rfl ?_
            refine q_aload_n dX10_cell_61 rfl ?_
            refine u_getr dX10_cell_62 fX10_97 rfl rfl (Nat.lt_of_lt_of_le (Nat.le_of_ble_eq_true rfl) hn) (hF 58 38 83 rfl) ?_
            refine q_iload_n dX10_cell_65 rfl ?_
            obtain ⟨hi4, h⟩ := q_is h
            refine u_iald dX10_cell_66 rfl (Nat.lt_of_lt_of_le (Nat.le_of_ble_eq_true rfl) hn) (q_in_vp hi4) ?_
            obtain ⟨r5, hr6, h⟩ := q_bd h
            refine c_V1 (as := [_, _]) (st := []) (ci := 10) dX10_cell_67 okX10_fuelTill lX10_342 ⟨rfl, rfl⟩ ⟨Nat.le_of_ble_eq_true rfl, Nat.le_of_ble_eq_true rfl⟩ (by decide) rfl rfl (Nat.lt_of_lt_of_le (Nat.le_of_ble_eq_true rfl) hn) rfl rfl (Nat.le_of_ble_eq_true rfl) (Nat.le_of_ble_eq_true rfl) (t_X10_fuelTill hn hF  hr6) ?_
            refine q_goto 79 dX10_cell_70 (by decide) ?_
            cases h
            exact q_iret dX10_cell_79 rfl ⟨rfl, rfl⟩
        · have h := q_it hc h
          refine q_aload_n dX10_cell_44 rfl ?_
          refine u_getr dX10_cell_45 fX10_97 rfl rfl (Nat.lt_of_lt_of_le (Nat.le_of_ble_eq_true rfl) hn) (hF 58 38 83 rfl) ?_
          refine q_iload_n dX10_cell_48 rfl ?_
          obtain ⟨hi7, h⟩ := q_is h
          refine u_iald dX10_cell_49 rfl (Nat.lt_of_lt_of_le (Nat.le_of_ble_eq_true rfl) hn) (q_in_vp hi7) ?_
          refine q_goto 79 dX10_cell_50 (by decide) ?_
          cases h
          exact q_iret dX10_cell_79 rfl ⟨rfl, rfl⟩
      · have h := q_it hc h
        refine q_bipush (v := (-6)) dX10_cell_36 (by decide) ?_
        cases h
        exact q_iret dX10_cell_38 rfl ⟨rfl, rfl⟩
    · have h := q_it hc h
      refine q_bipush (v := (-2)) dX10_cell_24 (by decide) ?_
      cases h
      exact q_iret dX10_cell_26 rfl ⟨rfl, rfl⟩
def f_X10_word (x1 : Int32) (x2 : Int32) (m : q_Mm) : Option (Int32 × q_Mm) :=
  if (f_X10_isCell x2 m) = 0 then
    some (((-1), m))
  else
    if (f_X10_in x1.toInt64 0 40 m) = 0 then
      some (((-2), m))
    else
      if (m.1 84 (0 : Int32).toNatClampNeg) = 0 then
        some (((-3), m))
      else
        if x1 ≤ (m.1 83 (0 : Int32).toNatClampNeg) then
          if q_in x1 82 = true then
          (f_X10_fuelTill 0 x1 (q_wi m 58 42 (-1))).bind fun r2 =>
          (f_X10_find 0 ((q_wi m 58 42 (-1)).1 82 x1.toNatClampNeg) x2 (((q_wi m 58 42 (-1)).1 58 40) - x1) (((q_wi m 58 42 (-1)).1 58 41) - r2) x1 (q_wi m 58 42 (-1))).bind fun r4 =>
          if r4.1 = 1000000000 then
            some (((-5), r4.2))
          else
            some ((r4.1 / 10000, r4.2))
          else none
        else
          some (((-2), m))
set_option maxRecDepth 100000 in
set_option maxHeartbeats 4000000 in
theorem t_X10_word {g : q_G} {n : Nat} {F : Nat → Nat → Option Nat} (hn : 89 ≤ n) (hF : q_FF F)  {x1 : Int32} {x2 : Int32} {m : q_Mm} {r : Int32 × q_Mm} (h : f_X10_word x1 x2 m = some r) : q_Cn g mX10_word [q_r g 58, .int x1, .int x2] (q_mk n F m) (q_Q (some (.int r.1)) (q_mk n F r.2)) := by
  unfold f_X10_word at h
  show q_V g mX10_word q_T _ _ _ 0 [(0, q_r g 58), (1, .int x1), (2, .int x2)] [] (q_mk n F m)
  refine q_iload_n dX10_word_0 rfl ?_
  refine c_S1 (as := [_]) (st := []) dX10_word_1 okX10_isCell lX10_324 ⟨rfl, rfl⟩ ⟨Nat.le_of_ble_eq_true rfl, Nat.le_of_ble_eq_true rfl⟩ rfl rfl (Nat.le_of_ble_eq_true rfl) (Nat.le_of_ble_eq_true rfl) (t_X10_isCell hn hF  rfl) ?_
  refine q_if_ne 9 dX10_word_4 (by decide) (fun hc => ?_) (fun hc => ?_)
  · have h := q_if hc h
    refine q_iload_n dX10_word_9 rfl ?_
    refine q_i2l dX10_word_10 ?_
    refine q_lconst (v := 0) dX10_word_11 (by decide) ?_
    refine q_ldc2 dX10_word_12 kX10_273 ?_
    refine c_S1 (as := [_, _, _]) (st := []) dX10_word_15 okX10_in lX10_122 ⟨rfl, rfl⟩ ⟨Nat.le_of_ble_eq_true rfl, Nat.le_of_ble_eq_true rfl⟩ rfl rfl (Nat.le_of_ble_eq_true rfl) (Nat.le_of_ble_eq_true rfl) (t_X10_in hn hF  rfl) ?_
    refine q_if_ne 24 dX10_word_18 (by decide) (fun hc => ?_) (fun hc => ?_)
    · have h := q_if hc h
      refine q_aload_n dX10_word_24 rfl ?_
      refine u_getr dX10_word_25 fX10_100 rfl rfl (Nat.lt_of_lt_of_le (Nat.le_of_ble_eq_true rfl) hn) (hF 58 39 84 rfl) ?_
      refine q_iconst (v := 0) dX10_word_28 (by decide) ?_
      refine u_zald dX10_word_29 rfl (Nat.lt_of_lt_of_le (Nat.le_of_ble_eq_true rfl) hn) (q_in_vp (by decide)) ?_
      refine q_if_ne 36 dX10_word_30 (by decide) (fun hc => ?_) (fun hc => ?_)
      · have h := q_if hc h
        refine q_iload_n dX10_word_36 rfl ?_
        refine q_aload_n dX10_word_37 rfl ?_
        refine u_getr dX10_word_38 fX10_97 rfl rfl (Nat.lt_of_lt_of_le (Nat.le_of_ble_eq_true rfl) hn) (hF 58 38 83 rfl) ?_
        refine q_iconst (v := 0) dX10_word_41 (by decide) ?_
        refine u_iald dX10_word_42 rfl (Nat.lt_of_lt_of_le (Nat.le_of_ble_eq_true rfl) hn) (q_in_vp (by decide)) ?_
        refine q_icmp_le 49 dX10_word_43 (by decide) (fun hc => ?_) (fun hc => ?_)
        · have h := q_it hc h
          refine q_aload_n dX10_word_49 rfl ?_
          refine q_iconst (v := (-1)) dX10_word_50 (by decide) ?_
          refine u_puti dX10_word_51 fX10_104 rfl rfl (Nat.lt_of_lt_of_le (Nat.le_of_ble_eq_true rfl) hn) rfl rfl rfl ?_
          refine q_aload_n dX10_word_54 rfl ?_
          refine q_iconst (v := 0) dX10_word_55 (by decide) ?_
          refine q_aload_n dX10_word_56 rfl ?_
          refine u_getr dX10_word_57 fX10_94 rfl rfl (Nat.lt_of_lt_of_le (Nat.le_of_ble_eq_true rfl) hn) (hF 58 37 82 rfl) ?_
          refine q_iload_n dX10_word_60 rfl ?_
          obtain ⟨hi1, h⟩ := q_is h
          refine u_iald dX10_word_61 rfl (Nat.lt_of_lt_of_le (Nat.le_of_ble_eq_true rfl) hn) (q_in_vp hi1) ?_
          refine q_iload_n dX10_word_62 rfl ?_
          refine q_aload_n dX10_word_63 rfl ?_
          refine u_geti dX10_word_64 fX10_334 rfl rfl (Nat.lt_of_lt_of_le (Nat.le_of_ble_eq_true rfl) hn) ?_
          refine q_iload_n dX10_word_67 rfl ?_
          refine q_isub dX10_word_68 ?_
          refine q_aload_n dX10_word_69 rfl ?_
          refine u_geti dX10_word_70 fX10_337 rfl rfl (Nat.lt_of_lt_of_le (Nat.le_of_ble_eq_true rfl) hn) ?_
          refine q_aload_n dX10_word_73 rfl ?_
          refine q_iconst (v := 0) dX10_word_74 (by decide) ?_
          refine q_iload_n dX10_word_75 rfl ?_
          obtain ⟨r2, hr3, h⟩ := q_bd h
          refine c_V1 (as := [_, _]) (st := [_, _, _, _, _, _]) (ci := 10) dX10_word_76 okX10_fuelTill lX10_342 ⟨rfl, rfl⟩ ⟨Nat.le_of_ble_eq_true rfl, Nat.le_of_ble_eq_true rfl⟩ (by decide) rfl rfl (Nat.lt_of_lt_of_le (Nat.le_of_ble_eq_true rfl) hn) rfl rfl (Nat.le_of_ble_eq_true rfl) (Nat.le_of_ble_eq_true rfl) (t_X10_fuelTill hn hF  hr3) ?_
          refine q_isub dX10_word_79 ?_
          refine q_iload_n dX10_word_80 rfl ?_
          obtain ⟨r4, hr5, h⟩ := q_bd h
          refine c_V1 (as := [_, _, _, _, _, _]) (st := []) (ci := 10) dX10_word_81 okX10_find lX10_330 ⟨rfl, rfl⟩ ⟨Nat.le_of_ble_eq_true rfl, Nat.le_of_ble_eq_true rfl⟩ (by decide) rfl rfl (Nat.lt_of_lt_of_le (Nat.le_of_ble_eq_true rfl) hn) rfl rfl (Nat.le_of_ble_eq_true rfl) (Nat.le_of_ble_eq_true rfl) (t_X10_find hn hF  hr5) ?_
          refine q_istore_n (ls' := [(3, _)]) [3] dX10_word_84 (Nat.le_of_ble_eq_true rfl) rfl ?_
          refine q_iload_n dX10_word_85 rfl ?_
          refine q_ldcw dX10_word_86 kX10_300 ?_
          refine q_icmp_ne 97 dX10_word_89 (by decide) (fun hc => ?_) (fun hc => ?_)
          · have h := q_if hc h
            refine q_iload_n dX10_word_97 rfl ?_
            refine q_sipush (v := 10000) dX10_word_98 (by decide) ?_
            refine q_idiv dX10_word_101 (by decide) ?_
            cases h
            exact q_iret dX10_word_102 rfl ⟨rfl, rfl⟩
          · have h := q_it hc h
            refine q_bipush (v := (-5)) dX10_word_92 (by decide) ?_
            refine q_goto 102 dX10_word_94 (by decide) ?_
            cases h
            exact q_iret dX10_word_102 rfl ⟨rfl, rfl⟩
        · have h := q_if hc h
          refine q_bipush (v := (-2)) dX10_word_46 (by decide) ?_
          cases h
          exact q_iret dX10_word_48 rfl ⟨rfl, rfl⟩
      · have h := q_it hc h
        refine q_bipush (v := (-3)) dX10_word_33 (by decide) ?_
        cases h
        exact q_iret dX10_word_35 rfl ⟨rfl, rfl⟩
    · have h := q_it hc h
      refine q_bipush (v := (-2)) dX10_word_21 (by decide) ?_
      cases h
      exact q_iret dX10_word_23 rfl ⟨rfl, rfl⟩
  · have h := q_it hc h
    refine q_iconst (v := (-1)) dX10_word_7 (by decide) ?_
    cases h
    exact q_iret dX10_word_8 rfl ⟨rfl, rfl⟩
def f_X10_sight (x1 : Int32) (x2 : Int32) (x3 : Int32) (m : q_Mm) : Option (Int32 × q_Mm) :=
  if (f_X10_in x1.toInt64 0 600 m) = 0 then
    some (((-2), m))
  else
    if (f_X10_in x2.toInt64 (-10000000) 10000000 m) = 0 then
      some (((-2), m))
    else
      if (f_X10_in x3.toInt64 (-10000000) 10000000 m) = 0 then
        some (((-2), m))
      else
        if (m.1 58 47) = 12 then
          some (((-4), m))
        else
          if q_in (m.1 58 47) 12 = true then
          if q_in ((q_wi m 86 ((m.1 58 47).toNatClampNeg) x1).1 58 47) 12 = true then
          if q_in ((q_wi (q_wi m 86 ((m.1 58 47).toNatClampNeg) x1) 87 (((q_wi m 86 ((m.1 58 47).toNatClampNeg) x1).1 58 47).toNatClampNeg) x2).1 58 47) 12 = true then
          some (((q_wi (q_wi (q_wi (q_wi m 86 ((m.1 58 47).toNatClampNeg) x1) 87 (((q_wi m 86 ((m.1 58 47).toNatClampNeg) x1).1 58 47).toNatClampNeg) x2) 88 (((q_wi (q_wi m 86 ((m.1 58 47).toNatClampNeg) x1) 87 (((q_wi m 86 ((m.1 58 47).toNatClampNeg) x1).1 58 47).toNatClampNeg) x2).1 58 47).toNatClampNeg) x3) 58 47 (((q_wi (q_wi (q_wi m 86 ((m.1 58 47).toNatClampNeg) x1) 87 (((q_wi m 86 ((m.1 58 47).toNatClampNeg) x1).1 58 47).toNatClampNeg) x2) 88 (((q_wi (q_wi m 86 ((m.1 58 47).toNatClampNeg) x1) 87 (((q_wi m 86 ((m.1 58 47).toNatClampNeg) x1).1 58 47).toNatClampNeg) x2).1 58 47).toNatClampNeg) x3).1 58 47) + 1)).1 58 47, q_wi (q_wi (q_wi (q_wi m 86 ((m.1 58 47).toNatClampNeg) x1) 87 (((q_wi m 86 ((m.1 58 47).toNatClampNeg) x1).1 58 47).toNatClampNeg) x2) 88 (((q_wi (q_wi m 86 ((m.1 58 47).toNatClampNeg) x1) 87 (((q_wi m 86 ((m.1 58 47).toNatClampNeg) x1).1 58 47).toNatClampNeg) x2).1 58 47).toNatClampNeg) x3) 58 47 (((q_wi (q_wi (q_wi m 86 ((m.1 58 47).toNatClampNeg) x1) 87 (((q_wi m 86 ((m.1 58 47).toNatClampNeg) x1).1 58 47).toNatClampNeg) x2) 88 (((q_wi (q_wi m 86 ((m.1 58 47).toNatClampNeg) x1) 87 (((q_wi m 86 ((m.1 58 47).toNatClampNeg) x1).1 58 47).toNatClampNeg) x2).1 58 47).toNatClampNeg) x3).1 58 47) + 1)))
          else none
          else none
          else none
set_option maxRecDepth 100000 in
set_option maxHeartbeats 4000000 in
theorem t_X10_sight {g : q_G} {n : Nat} {F : Nat → Nat → Option Nat} (hn : 89 ≤ n) (hF : q_FF F)  {x1 : Int32} {x2 : Int32} {x3 : Int32} {m : q_Mm} {r : Int32 × q_Mm} (h : f_X10_sight x1 x2 x3 m = some r) : q_Cn g mX10_sight [q_r g 58, .int x1, .int x2, .int x3] (q_mk n F m) (q_Q (some (.int r.1)) (q_mk n F r.2)) := by
  unfold f_X10_sight at h
  show q_V g mX10_sight q_T _ _ _ 0 [(0, q_r g 58), (1, .int x1), (2, .int x2), (3, .int x3)] [] (q_mk n F m)
  refine q_iload_n dX10_sight_0 rfl ?_
  refine q_i2l dX10_sight_1 ?_
  refine q_lconst (v := 0) dX10_sight_2 (by decide) ?_
  refine q_ldc2 dX10_sight_3 kX10_136 ?_
  refine c_S1 (as := [_, _, _]) (st := []) dX10_sight_6 okX10_in lX10_122 ⟨rfl, rfl⟩ ⟨Nat.le_of_ble_eq_true rfl, Nat.le_of_ble_eq_true rfl⟩ rfl rfl (Nat.le_of_ble_eq_true rfl) (Nat.le_of_ble_eq_true rfl) (t_X10_in hn hF  rfl) ?_
  refine q_if_eq 40 dX10_sight_9 (by decide) (fun hc => ?_) (fun hc => ?_)
  · have h := q_it hc h
    refine q_bipush (v := (-2)) dX10_sight_40 (by decide) ?_
    cases h
    exact q_iret dX10_sight_42 rfl ⟨rfl, rfl⟩
  · have h := q_if hc h
    refine q_iload_n dX10_sight_12 rfl ?_
    refine q_i2l dX10_sight_13 ?_
    refine q_ldc2 dX10_sight_14 kX10_345 ?_
    refine q_ldc2 dX10_sight_17 kX10_347 ?_
    refine c_S1 (as := [_, _, _]) (st := []) dX10_sight_20 okX10_in lX10_122 ⟨rfl, rfl⟩ ⟨Nat.le_of_ble_eq_true rfl, Nat.le_of_ble_eq_true rfl⟩ rfl rfl (Nat.le_of_ble_eq_true rfl) (Nat.le_of_ble_eq_true rfl) (t_X10_in hn hF  rfl) ?_
    refine q_if_eq 40 dX10_sight_23 (by decide) (fun hc => ?_) (fun hc => ?_)
    · have h := q_it hc h
      refine q_bipush (v := (-2)) dX10_sight_40 (by decide) ?_
      cases h
      exact q_iret dX10_sight_42 rfl ⟨rfl, rfl⟩
    · have h := q_if hc h
      refine q_iload_n dX10_sight_26 rfl ?_
      refine q_i2l dX10_sight_27 ?_
      refine q_ldc2 dX10_sight_28 kX10_345 ?_
      refine q_ldc2 dX10_sight_31 kX10_347 ?_
      refine c_S1 (as := [_, _, _]) (st := []) dX10_sight_34 okX10_in lX10_122 ⟨rfl, rfl⟩ ⟨Nat.le_of_ble_eq_true rfl, Nat.le_of_ble_eq_true rfl⟩ rfl rfl (Nat.le_of_ble_eq_true rfl) (Nat.le_of_ble_eq_true rfl) (t_X10_in hn hF  rfl) ?_
      refine q_if_ne 43 dX10_sight_37 (by decide) (fun hc => ?_) (fun hc => ?_)
      · have h := q_if hc h
        refine q_aload_n dX10_sight_43 rfl ?_
        refine u_geti dX10_sight_44 fX10_349 rfl rfl (Nat.lt_of_lt_of_le (Nat.le_of_ble_eq_true rfl) hn) ?_
        refine q_bipush (v := 12) dX10_sight_47 (by decide) ?_
        refine q_icmp_ne 55 dX10_sight_49 (by decide) (fun hc => ?_) (fun hc => ?_)
        · have h := q_if hc h
          refine q_aload_n dX10_sight_55 rfl ?_
          refine u_getr dX10_sight_56 fX10_111 rfl rfl (Nat.lt_of_lt_of_le (Nat.le_of_ble_eq_true rfl) hn) (hF 58 44 86 rfl) ?_
          refine q_aload_n dX10_sight_59 rfl ?_
          refine u_geti dX10_sight_60 fX10_349 rfl rfl (Nat.lt_of_lt_of_le (Nat.le_of_ble_eq_true rfl) hn) ?_
          refine q_iload_n dX10_sight_63 rfl ?_
          obtain ⟨hi1, h⟩ := q_is h
          refine u_iast dX10_sight_64 rfl (Nat.lt_of_lt_of_le (Nat.le_of_ble_eq_true rfl) hn) (q_in_vp hi1) ?_
          refine q_aload_n dX10_sight_65 rfl ?_
          refine u_getr dX10_sight_66 fX10_114 rfl rfl (Nat.lt_of_lt_of_le (Nat.le_of_ble_eq_true rfl) hn) (hF 58 45 87 rfl) ?_
          refine q_aload_n dX10_sight_69 rfl ?_
          refine u_geti dX10_sight_70 fX10_349 rfl rfl (Nat.lt_of_lt_of_le (Nat.le_of_ble_eq_true rfl) hn) ?_
          refine q_iload_n dX10_sight_73 rfl ?_
          obtain ⟨hi2, h⟩ := q_is h
          refine u_iast dX10_sight_74 rfl (Nat.lt_of_lt_of_le (Nat.le_of_ble_eq_true rfl) hn) (q_in_vp hi2) ?_
          refine q_aload_n dX10_sight_75 rfl ?_
          refine u_getr dX10_sight_76 fX10_117 rfl rfl (Nat.lt_of_lt_of_le (Nat.le_of_ble_eq_true rfl) hn) (hF 58 46 88 rfl) ?_
          refine q_aload_n dX10_sight_79 rfl ?_
          refine u_geti dX10_sight_80 fX10_349 rfl rfl (Nat.lt_of_lt_of_le (Nat.le_of_ble_eq_true rfl) hn) ?_
          refine q_iload_n dX10_sight_83 rfl ?_
          obtain ⟨hi3, h⟩ := q_is h
          refine u_iast dX10_sight_84 rfl (Nat.lt_of_lt_of_le (Nat.le_of_ble_eq_true rfl) hn) (q_in_vp hi3) ?_
          refine q_aload_n dX10_sight_85 rfl ?_
          refine q_dup dX10_sight_86 rfl ?_
          refine u_geti dX10_sight_87 fX10_349 rfl rfl (Nat.lt_of_lt_of_le (Nat.le_of_ble_eq_true rfl) hn) ?_
          refine q_iconst (v := 1) dX10_sight_90 (by decide) ?_
          refine q_iadd dX10_sight_91 ?_
          refine u_puti dX10_sight_92 fX10_349 rfl rfl (Nat.lt_of_lt_of_le (Nat.le_of_ble_eq_true rfl) hn) rfl rfl rfl ?_
          refine q_aload_n dX10_sight_95 rfl ?_
          refine u_geti dX10_sight_96 fX10_349 rfl rfl (Nat.lt_of_lt_of_le (Nat.le_of_ble_eq_true rfl) hn) ?_
          cases h
          exact q_iret dX10_sight_99 rfl ⟨rfl, rfl⟩
        · have h := q_it hc h
          refine q_bipush (v := (-4)) dX10_sight_52 (by decide) ?_
          cases h
          exact q_iret dX10_sight_54 rfl ⟨rfl, rfl⟩
      · have h := q_it hc h
        refine q_bipush (v := (-2)) dX10_sight_40 (by decide) ?_
        cases h
        exact q_iret dX10_sight_42 rfl ⟨rfl, rfl⟩
def f_X10_forget  (m : q_Mm) : (Int32 × q_Mm) :=
  (m.1 58 47, q_wi m 58 47 0)
set_option maxRecDepth 100000 in
set_option maxHeartbeats 4000000 in
theorem t_X10_forget {g : q_G} {n : Nat} {F : Nat → Nat → Option Nat} (hn : 89 ≤ n) (hF : q_FF F)   {m : q_Mm} {r : Int32 × q_Mm} (h : f_X10_forget  m = r) : q_Cn g mX10_forget [q_r g 58] (q_mk n F m) (q_Q (some (.int r.1)) (q_mk n F r.2)) := by
  unfold f_X10_forget at h
  show q_V g mX10_forget q_T _ _ _ 0 [(0, q_r g 58)] [] (q_mk n F m)
  refine q_aload_n dX10_forget_0 rfl ?_
  refine u_geti dX10_forget_1 fX10_349 rfl rfl (Nat.lt_of_lt_of_le (Nat.le_of_ble_eq_true rfl) hn) ?_
  refine q_istore_n (ls' := [(0, _), (1, _)]) [0, 1] dX10_forget_4 (Nat.le_of_ble_eq_true rfl) rfl ?_
  refine q_aload_n dX10_forget_5 rfl ?_
  refine q_iconst (v := 0) dX10_forget_6 (by decide) ?_
  refine u_puti dX10_forget_7 fX10_349 rfl rfl (Nat.lt_of_lt_of_le (Nat.le_of_ble_eq_true rfl) hn) rfl rfl rfl ?_
  refine q_iload_n dX10_forget_10 rfl ?_
  subst h
  exact q_iret dX10_forget_11 rfl ⟨rfl, rfl⟩
def f_X10_far (x0 : Int64) (x2 : Int64) (m : q_Mm) : (Int64) :=
  if x2 ≤ x0 then
    x0 - x2
  else
    x2 - x0
set_option maxRecDepth 100000 in
set_option maxHeartbeats 4000000 in
theorem t_X10_far {g : q_G} {n : Nat} {F : Nat → Nat → Option Nat} (hn : 89 ≤ n) (hF : q_FF F)  {x0 : Int64} {x2 : Int64} {m : q_Mm} {r : Int64} (h : f_X10_far x0 x2 m = r) : q_Cn g mX10_far [.long x0, .long x2] (q_mk n F m) (q_Q (some (.long r)) (q_mk n F m)) := by
  unfold f_X10_far at h
  show q_V g mX10_far q_T _ _ _ 0 [(0, .long x0), (2, .long x2)] [] (q_mk n F m)
  refine q_lload_n dX10_far_0 rfl ?_
  refine q_lload_n dX10_far_1 rfl ?_
  refine q_lcmp_ge 12 dX10_far_2 dX10_far_3 (by decide) (fun hc => ?_) (fun hc => ?_)
  · have h := q_it hc h
    refine q_lload_n dX10_far_12 rfl ?_
    refine q_lload_n dX10_far_13 rfl ?_
    refine q_lsub dX10_far_14 ?_
    subst h
    exact q_lret dX10_far_15 rfl ⟨rfl, rfl⟩
  · have h := q_if hc h
    refine q_lload_n dX10_far_6 rfl ?_
    refine q_lload_n dX10_far_7 rfl ?_
    refine q_lsub dX10_far_8 ?_
    refine q_goto 15 dX10_far_9 (by decide) ?_
    subst h
    exact q_lret dX10_far_15 rfl ⟨rfl, rfl⟩
