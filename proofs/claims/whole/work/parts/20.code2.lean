def f_X3_considerMix (x1 : Int32) (x2 : Int32) (x3 : Int32) (x4 : Int32) (m : q_Mm) : Option (q_Mm) :=
  (f_X3_choose x1 x2 x3 x4 m).bind fun r1 =>
  if (r1.1 23 10) ≤ (r1.1 23 7) then
    some (r1)
  else
    some (q_wi (q_wi (q_wi (q_wi (q_wi r1 23 10 (r1.1 23 7)) 27 ((0 : Int32).toNatClampNeg) x1) 27 ((1 : Int32).toNatClampNeg) x2) 27 ((2 : Int32).toNatClampNeg) x3) 27 ((3 : Int32).toNatClampNeg) x4)
set_option maxRecDepth 100000 in
set_option maxHeartbeats 4000000 in
theorem t_X3_considerMix {g : q_G} {n : Nat} {F : Nat → Nat → Option Nat} (hn : 89 ≤ n) (hF : q_FF F)  {x1 : Int32} {x2 : Int32} {x3 : Int32} {x4 : Int32} {m : q_Mm} {r : q_Mm} (h : f_X3_considerMix x1 x2 x3 x4 m = some r) : q_Cn g mX3_considerMix [q_r g 23, .int x1, .int x2, .int x3, .int x4] (q_mk n F m) (q_Q none (q_mk n F r)) := by
  unfold f_X3_considerMix at h
  show q_V g mX3_considerMix q_T _ _ _ 0 [(0, q_r g 23), (1, .int x1), (2, .int x2), (3, .int x3), (4, .int x4)] [] (q_mk n F m)
  refine q_aload_n dX3_considerMix_0 rfl ?_
  refine q_iload_n dX3_considerMix_1 rfl ?_
  refine q_iload_n dX3_considerMix_2 rfl ?_
  refine q_iload_n dX3_considerMix_3 rfl ?_
  refine q_iload dX3_considerMix_4 rfl ?_
  obtain ⟨r1, hr2, h⟩ := q_bd h
  refine c_V0 (as := [_, _, _, _]) (st := []) (ci := 3) dX3_considerMix_6 okX3_choose lX3_72 ⟨rfl, rfl⟩ ⟨Nat.le_of_ble_eq_true rfl, Nat.le_of_ble_eq_true rfl⟩ (by decide) rfl rfl (Nat.lt_of_lt_of_le (Nat.le_of_ble_eq_true rfl) hn) rfl rfl (Nat.le_of_ble_eq_true rfl) (Nat.le_of_ble_eq_true rfl) (t_X3_choose hn hF  hr2) ?_
  refine q_aload_n dX3_considerMix_9 rfl ?_
  refine u_geti dX3_considerMix_10 fX3_36 rfl rfl (Nat.lt_of_lt_of_le (Nat.le_of_ble_eq_true rfl) hn) ?_
  refine q_aload_n dX3_considerMix_13 rfl ?_
  refine u_geti dX3_considerMix_14 fX3_45 rfl rfl (Nat.lt_of_lt_of_le (Nat.le_of_ble_eq_true rfl) hn) ?_
  refine q_icmp_ge 57 dX3_considerMix_17 (by decide) (fun hc => ?_) (fun hc => ?_)
  · have h := q_it hc h
    cases h
    exact q_vret dX3_considerMix_57 rfl ⟨rfl, rfl⟩
  · have h := q_if hc h
    refine q_aload_n dX3_considerMix_20 rfl ?_
    refine q_aload_n dX3_considerMix_21 rfl ?_
    refine u_geti dX3_considerMix_22 fX3_36 rfl rfl (Nat.lt_of_lt_of_le (Nat.le_of_ble_eq_true rfl) hn) ?_
    refine u_puti dX3_considerMix_25 fX3_45 rfl rfl (Nat.lt_of_lt_of_le (Nat.le_of_ble_eq_true rfl) hn) rfl rfl rfl ?_
    refine q_aload_n dX3_considerMix_28 rfl ?_
    refine u_getr dX3_considerMix_29 fX3_42 rfl rfl (Nat.lt_of_lt_of_le (Nat.le_of_ble_eq_true rfl) hn) (hF 23 9 27 rfl) ?_
    refine q_iconst (v := 0) dX3_considerMix_32 (by decide) ?_
    refine q_iload_n dX3_considerMix_33 rfl ?_
    refine u_iast dX3_considerMix_34 rfl (Nat.lt_of_lt_of_le (Nat.le_of_ble_eq_true rfl) hn) (q_in_vp (by decide)) ?_
    refine q_aload_n dX3_considerMix_35 rfl ?_
    refine u_getr dX3_considerMix_36 fX3_42 rfl rfl (Nat.lt_of_lt_of_le (Nat.le_of_ble_eq_true rfl) hn) (hF 23 9 27 rfl) ?_
    refine q_iconst (v := 1) dX3_considerMix_39 (by decide) ?_
    refine q_iload_n dX3_considerMix_40 rfl ?_
    refine u_iast dX3_considerMix_41 rfl (Nat.lt_of_lt_of_le (Nat.le_of_ble_eq_true rfl) hn) (q_in_vp (by decide)) ?_
    refine q_aload_n dX3_considerMix_42 rfl ?_
    refine u_getr dX3_considerMix_43 fX3_42 rfl rfl (Nat.lt_of_lt_of_le (Nat.le_of_ble_eq_true rfl) hn) (hF 23 9 27 rfl) ?_
    refine q_iconst (v := 2) dX3_considerMix_46 (by decide) ?_
    refine q_iload_n dX3_considerMix_47 rfl ?_
    refine u_iast dX3_considerMix_48 rfl (Nat.lt_of_lt_of_le (Nat.le_of_ble_eq_true rfl) hn) (q_in_vp (by decide)) ?_
    refine q_aload_n dX3_considerMix_49 rfl ?_
    refine u_getr dX3_considerMix_50 fX3_42 rfl rfl (Nat.lt_of_lt_of_le (Nat.le_of_ble_eq_true rfl) hn) (hF 23 9 27 rfl) ?_
    refine q_iconst (v := 3) dX3_considerMix_53 (by decide) ?_
    refine q_iload dX3_considerMix_54 rfl ?_
    refine u_iast dX3_considerMix_56 rfl (Nat.lt_of_lt_of_le (Nat.le_of_ble_eq_true rfl) hn) (q_in_vp (by decide)) ?_
    cases h
    exact q_vret dX3_considerMix_57 rfl ⟨rfl, rfl⟩
def l_X3_findMix_26 : Nat → Int32 → Int32 → Int32 → Int32 → q_Mm → Option (q_Mm)
  | 0, _, _, _, _, _ => none
  | k + 1, y1, y2, y3, y4, m =>
    if ((y1 - y2) - y3) < y4 then
      some (m)
    else
      (f_X3_considerMix y2 y3 y4 (((y1 - y2) - y3) - y4) m).bind fun r1 =>
      l_X3_findMix_26 k  y1 y2 y3 (y4 + 1) r1
set_option maxRecDepth 100000 in
set_option maxHeartbeats 4000000 in
theorem t_l_X3_findMix_26 {g : q_G} {n : Nat} {F : Nat → Nat → Option Nat} {Z : List Frame → Array Value → State → State → Prop} {kc ks : Nat} (hn : 89 ≤ n) (hF : q_FF F)  : ∀ (k : Nat) (y1 : Int32) (y2 : Int32) (y3 : Int32) (y4 : Int32) (m : q_Mm) {r : q_Mm}, l_X3_findMix_26 k y1 y2 y3 y4 m = some r → (q_V g mX3_findMix q_T Z kc ks 58 [(0, q_r g 23), (1, .int y1), (2, .int y2), (3, .int y3)] [] (q_mk n F r)) → q_V g mX3_findMix q_T Z kc ks 26 [(0, q_r g 23), (1, .int y1), (2, .int y2), (3, .int y3), (4, .int y4)] [] (q_mk n F m) := by
  intro k
  induction k with
  | zero => intro y1 y2 y3 y4 m r h; cases h
  | succ k ih =>
    intro y1 y2 y3 y4 m r h hx0
    unfold l_X3_findMix_26 at h
    refine q_iload dX3_findMix_26 rfl ?_
    refine q_iload_n dX3_findMix_28 rfl ?_
    refine q_iload_n dX3_findMix_29 rfl ?_
    refine q_isub dX3_findMix_30 ?_
    refine q_iload_n dX3_findMix_31 rfl ?_
    refine q_isub dX3_findMix_32 ?_
    refine q_icmp_gt 58 dX3_findMix_33 (by decide) (fun hc => ?_) (fun hc => ?_)
    · have h := q_it hc h
      refine q_drop [0, 1, 2, 3] (ls' := [(0, _), (1, _), (2, _), (3, _)]) rfl ?_
      cases h
      exact hx0
    · have h := q_if hc h
      refine q_aload_n dX3_findMix_36 rfl ?_
      refine q_iload_n dX3_findMix_37 rfl ?_
      refine q_iload_n dX3_findMix_38 rfl ?_
      refine q_iload dX3_findMix_39 rfl ?_
      refine q_iload_n dX3_findMix_41 rfl ?_
      refine q_iload_n dX3_findMix_42 rfl ?_
      refine q_isub dX3_findMix_43 ?_
      refine q_iload_n dX3_findMix_44 rfl ?_
      refine q_isub dX3_findMix_45 ?_
      refine q_iload dX3_findMix_46 rfl ?_
      refine q_isub dX3_findMix_48 ?_
      obtain ⟨r1, hr2, h⟩ := q_bd h
      refine c_V0 (as := [_, _, _, _]) (st := []) (ci := 3) dX3_findMix_49 okX3_considerMix lX3_68 ⟨rfl, rfl⟩ ⟨Nat.le_of_ble_eq_true rfl, Nat.le_of_ble_eq_true rfl⟩ (by decide) rfl rfl (Nat.lt_of_lt_of_le (Nat.le_of_ble_eq_true rfl) hn) rfl rfl (Nat.le_of_ble_eq_true rfl) (Nat.le_of_ble_eq_true rfl) (t_X3_considerMix hn hF  hr2) ?_
      refine q_iinc1 (w := 1) (ls' := [(0, _), (1, _), (2, _), (3, _), (4, _)]) [0, 1, 2, 3, 4] dX3_findMix_52 rfl (by decide) (Nat.le_of_ble_eq_true rfl) rfl ?_
      refine q_goto 26 dX3_findMix_55 (by decide) ?_
      exact ih _ _ _ _ _ h hx0
def l_X3_findMix_16 : Nat → Int32 → Int32 → Int32 → q_Mm → Option (q_Mm)
  | 0, _, _, _, _ => none
  | k + 1, y1, y2, y3, m =>
    if (y1 - y2) < y3 then
      some (m)
    else
      (l_X3_findMix_26 7000  y1 y2 y3 0 m).bind fun r3 =>
      l_X3_findMix_16 k  y1 y2 (y3 + 1) r3
set_option maxRecDepth 100000 in
set_option maxHeartbeats 4000000 in
theorem t_l_X3_findMix_16 {g : q_G} {n : Nat} {F : Nat → Nat → Option Nat} {Z : List Frame → Array Value → State → State → Prop} {kc ks : Nat} (hn : 89 ≤ n) (hF : q_FF F)  : ∀ (k : Nat) (y1 : Int32) (y2 : Int32) (y3 : Int32) (m : q_Mm) {r : q_Mm}, l_X3_findMix_16 k y1 y2 y3 m = some r → (q_V g mX3_findMix q_T Z kc ks 64 [(0, q_r g 23), (1, .int y1), (2, .int y2)] [] (q_mk n F r)) → q_V g mX3_findMix q_T Z kc ks 16 [(0, q_r g 23), (1, .int y1), (2, .int y2), (3, .int y3)] [] (q_mk n F m) := by
  intro k
  induction k with
  | zero => intro y1 y2 y3 m r h; cases h
  | succ k ih =>
    intro y1 y2 y3 m r h hx0
    unfold l_X3_findMix_16 at h
    refine q_iload_n dX3_findMix_16 rfl ?_
    refine q_iload_n dX3_findMix_17 rfl ?_
    refine q_iload_n dX3_findMix_18 rfl ?_
    refine q_isub dX3_findMix_19 ?_
    refine q_icmp_gt 64 dX3_findMix_20 (by decide) (fun hc => ?_) (fun hc => ?_)
    · have h := q_it hc h
      refine q_drop [0, 1, 2] (ls' := [(0, _), (1, _), (2, _)]) rfl ?_
      cases h
      exact hx0
    · have h := q_if hc h
      refine q_iconst (v := 0) dX3_findMix_23 (by decide) ?_
      refine q_istore (ls' := [(0, _), (1, _), (2, _), (3, _), (4, _)]) [0, 1, 2, 3, 4] dX3_findMix_24 (Nat.le_of_ble_eq_true rfl) rfl ?_
      obtain ⟨r3, hr4, h⟩ := q_bd h
      refine t_l_X3_findMix_26 hn hF  7000 _ _ _ _ _ hr4 ?_
      refine q_iinc1 (w := 1) (ls' := [(0, _), (1, _), (2, _), (3, _)]) [0, 1, 2, 3] dX3_findMix_58 rfl (by decide) (Nat.le_of_ble_eq_true rfl) rfl ?_
      refine q_goto 16 dX3_findMix_61 (by decide) ?_
      exact ih _ _ _ _ h hx0
def l_X3_findMix_9 : Nat → Int32 → Int32 → q_Mm → Option (q_Mm)
  | 0, _, _, _ => none
  | k + 1, y1, y2, m =>
    if y1 < y2 then
      some (m)
    else
      (l_X3_findMix_16 7000  y1 y2 0 m).bind fun r5 =>
      l_X3_findMix_9 k  y1 (y2 + 1) r5
set_option maxRecDepth 100000 in
set_option maxHeartbeats 4000000 in
theorem t_l_X3_findMix_9 {g : q_G} {n : Nat} {F : Nat → Nat → Option Nat} {Z : List Frame → Array Value → State → State → Prop} {kc ks : Nat} (hn : 89 ≤ n) (hF : q_FF F)  : ∀ (k : Nat) (y1 : Int32) (y2 : Int32) (m : q_Mm) {r : q_Mm}, l_X3_findMix_9 k y1 y2 m = some r → (q_V g mX3_findMix q_T Z kc ks 70 [] [] (q_mk n F r)) → q_V g mX3_findMix q_T Z kc ks 9 [(0, q_r g 23), (1, .int y1), (2, .int y2)] [] (q_mk n F m) := by
  intro k
  induction k with
  | zero => intro y1 y2 m r h; cases h
  | succ k ih =>
    intro y1 y2 m r h hx0
    unfold l_X3_findMix_9 at h
    refine q_iload_n dX3_findMix_9 rfl ?_
    refine q_iload_n dX3_findMix_10 rfl ?_
    refine q_icmp_gt 70 dX3_findMix_11 (by decide) (fun hc => ?_) (fun hc => ?_)
    · have h := q_it hc h
      refine q_drop [] (ls' := []) rfl ?_
      cases h
      exact hx0
    · have h := q_if hc h
      refine q_iconst (v := 0) dX3_findMix_14 (by decide) ?_
      refine q_istore_n (ls' := [(0, _), (1, _), (2, _), (3, _)]) [0, 1, 2, 3] dX3_findMix_15 (Nat.le_of_ble_eq_true rfl) rfl ?_
      obtain ⟨r5, hr6, h⟩ := q_bd h
      refine t_l_X3_findMix_16 hn hF  7000 _ _ _ _ hr6 ?_
      refine q_iinc1 (w := 1) (ls' := [(0, _), (1, _), (2, _)]) [0, 1, 2] dX3_findMix_64 rfl (by decide) (Nat.le_of_ble_eq_true rfl) rfl ?_
      refine q_goto 9 dX3_findMix_67 (by decide) ?_
      exact ih _ _ _ h hx0
def f_X3_findMix (x1 : Int32) (m : q_Mm) : Option (q_Mm) :=
  (l_X3_findMix_9 7000  x1 0 (q_wi m 23 10 (x1 + 1))).bind fun r7 =>
  some (r7)
set_option maxRecDepth 100000 in
set_option maxHeartbeats 4000000 in
theorem t_X3_findMix {g : q_G} {n : Nat} {F : Nat → Nat → Option Nat} (hn : 89 ≤ n) (hF : q_FF F)  {x1 : Int32} {m : q_Mm} {r : q_Mm} (h : f_X3_findMix x1 m = some r) : q_Cn g mX3_findMix [q_r g 23, .int x1] (q_mk n F m) (q_Q none (q_mk n F r)) := by
  unfold f_X3_findMix at h
  show q_V g mX3_findMix q_T _ _ _ 0 [(0, q_r g 23), (1, .int x1)] [] (q_mk n F m)
  refine q_aload_n dX3_findMix_0 rfl ?_
  refine q_iload_n dX3_findMix_1 rfl ?_
  refine q_iconst (v := 1) dX3_findMix_2 (by decide) ?_
  refine q_iadd dX3_findMix_3 ?_
  refine u_puti dX3_findMix_4 fX3_45 rfl rfl (Nat.lt_of_lt_of_le (Nat.le_of_ble_eq_true rfl) hn) rfl rfl rfl ?_
  refine q_iconst (v := 0) dX3_findMix_7 (by decide) ?_
  refine q_istore_n (ls' := [(0, _), (1, _), (2, _)]) [0, 1, 2] dX3_findMix_8 (Nat.le_of_ble_eq_true rfl) rfl ?_
  obtain ⟨r7, hr8, h⟩ := q_bd h
  refine t_l_X3_findMix_9 hn hF  7000 _ _ _ hr8 ?_
  cases h
  exact q_vret dX3_findMix_70 rfl ⟨rfl, rfl⟩
def f_X4_foundDanger  (m : q_Mm) : (Int32) :=
  (m.1 89 10) / 4096
set_option maxRecDepth 100000 in
set_option maxHeartbeats 4000000 in
theorem t_X4_foundDanger {g : q_G} {n : Nat} {F : Nat → Nat → Option Nat} (hn : 89 ≤ n) (hF : q_FF F) (hp : 92 ≤ n) (hP : q_FP F)   {m : q_Mm} {r : Int32} (h : f_X4_foundDanger  m = r) : q_Cn g mX4_foundDanger [q_r g 89] (q_mk n F m) (q_Q (some (.int r)) (q_mk n F m)) := by
  unfold f_X4_foundDanger at h
  show q_V g mX4_foundDanger q_T _ _ _ 0 [(0, q_r g 89)] [] (q_mk n F m)
  refine q_aload_n dX4_foundDanger_0 rfl ?_
  refine u_geti dX4_foundDanger_1 fX4_39 rfl rfl (Nat.lt_of_lt_of_le (Nat.le_of_ble_eq_true rfl) hp) ?_
  refine q_sipush (v := 4096) dX4_foundDanger_4 (by decide) ?_
  refine q_idiv dX4_foundDanger_7 (by decide) ?_
  subst h
  exact q_iret dX4_foundDanger_8 rfl ⟨rfl, rfl⟩
def f_X4_foundFuel  (m : q_Mm) : (Int32) :=
  q_rm (m.1 89 10) 64
set_option maxRecDepth 100000 in
set_option maxHeartbeats 4000000 in
theorem t_X4_foundFuel {g : q_G} {n : Nat} {F : Nat → Nat → Option Nat} (hn : 89 ≤ n) (hF : q_FF F) (hp : 92 ≤ n) (hP : q_FP F)   {m : q_Mm} {r : Int32} (h : f_X4_foundFuel  m = r) : q_Cn g mX4_foundFuel [q_r g 89] (q_mk n F m) (q_Q (some (.int r)) (q_mk n F m)) := by
  unfold f_X4_foundFuel at h
  show q_V g mX4_foundFuel q_T _ _ _ 0 [(0, q_r g 89)] [] (q_mk n F m)
  refine q_aload_n dX4_foundFuel_0 rfl ?_
  refine u_geti dX4_foundFuel_1 fX4_39 rfl rfl (Nat.lt_of_lt_of_le (Nat.le_of_ble_eq_true rfl) hp) ?_
  refine q_bipush (v := 64) dX4_foundFuel_4 (by decide) ?_
  refine q_irm dX4_foundFuel_6 (by decide) ?_
  subst h
  exact q_iret dX4_foundFuel_7 rfl ⟨rfl, rfl⟩
def f_X4_dayOf (x1 : Int32) (x2 : Int32) (m : q_Mm) : (Int32) :=
  (((m.1 89 6) + (m.1 89 7)) - x1) - x2
set_option maxRecDepth 100000 in
set_option maxHeartbeats 4000000 in
theorem t_X4_dayOf {g : q_G} {n : Nat} {F : Nat → Nat → Option Nat} (hn : 89 ≤ n) (hF : q_FF F) (hp : 92 ≤ n) (hP : q_FP F)  {x1 : Int32} {x2 : Int32} {m : q_Mm} {r : Int32} (h : f_X4_dayOf x1 x2 m = r) : q_Cn g mX4_dayOf [q_r g 89, .int x1, .int x2] (q_mk n F m) (q_Q (some (.int r)) (q_mk n F m)) := by
  unfold f_X4_dayOf at h
  show q_V g mX4_dayOf q_T _ _ _ 0 [(0, q_r g 89), (1, .int x1), (2, .int x2)] [] (q_mk n F m)
  refine q_aload_n dX4_dayOf_0 rfl ?_
  refine u_geti dX4_dayOf_1 fX4_26 rfl rfl (Nat.lt_of_lt_of_le (Nat.le_of_ble_eq_true rfl) hp) ?_
  refine q_aload_n dX4_dayOf_4 rfl ?_
  refine u_geti dX4_dayOf_5 fX4_29 rfl rfl (Nat.lt_of_lt_of_le (Nat.le_of_ble_eq_true rfl) hp) ?_
  refine q_iadd dX4_dayOf_8 ?_
  refine q_iload_n dX4_dayOf_9 rfl ?_
  refine q_isub dX4_dayOf_10 ?_
  refine q_iload_n dX4_dayOf_11 rfl ?_
  refine q_isub dX4_dayOf_12 ?_
  subst h
  exact q_iret dX4_dayOf_13 rfl ⟨rfl, rfl⟩
def f_X4_endsAt (x1 : Int32) (x2 : Int32) (m : q_Mm) : (Int32) :=
  if x1 = (m.1 89 5) then
    if x2 < (m.1 89 9) then
      0
    else
      1
  else
    0
set_option maxRecDepth 100000 in
set_option maxHeartbeats 4000000 in
theorem t_X4_endsAt {g : q_G} {n : Nat} {F : Nat → Nat → Option Nat} (hn : 89 ≤ n) (hF : q_FF F) (hp : 92 ≤ n) (hP : q_FP F)  {x1 : Int32} {x2 : Int32} {m : q_Mm} {r : Int32} (h : f_X4_endsAt x1 x2 m = r) : q_Cn g mX4_endsAt [q_r g 89, .int x1, .int x2] (q_mk n F m) (q_Q (some (.int r)) (q_mk n F m)) := by
  unfold f_X4_endsAt at h
  show q_V g mX4_endsAt q_T _ _ _ 0 [(0, q_r g 89), (1, .int x1), (2, .int x2)] [] (q_mk n F m)
  refine q_iload_n dX4_endsAt_0 rfl ?_
  refine q_aload_n dX4_endsAt_1 rfl ?_
  refine u_geti dX4_endsAt_2 fX4_23 rfl rfl (Nat.lt_of_lt_of_le (Nat.le_of_ble_eq_true rfl) hp) ?_
  refine q_icmp_ne 20 dX4_endsAt_5 (by decide) (fun hc => ?_) (fun hc => ?_)
  · have h := q_if hc h
    refine q_iconst (v := 0) dX4_endsAt_20 (by decide) ?_
    subst h
    exact q_zret dX4_endsAt_21 rfl rfl ⟨rfl, rfl⟩
  · have h := q_it hc h
    refine q_iload_n dX4_endsAt_8 rfl ?_
    refine q_aload_n dX4_endsAt_9 rfl ?_
    refine u_geti dX4_endsAt_10 fX4_35 rfl rfl (Nat.lt_of_lt_of_le (Nat.le_of_ble_eq_true rfl) hp) ?_
    refine q_icmp_lt 20 dX4_endsAt_13 (by decide) (fun hc => ?_) (fun hc => ?_)
    · have h := q_it hc h
      refine q_iconst (v := 0) dX4_endsAt_20 (by decide) ?_
      subst h
      exact q_zret dX4_endsAt_21 rfl rfl ⟨rfl, rfl⟩
    · have h := q_if hc h
      refine q_iconst (v := 1) dX4_endsAt_16 (by decide) ?_
      refine q_goto 21 dX4_endsAt_17 (by decide) ?_
      subst h
      exact q_zret dX4_endsAt_21 rfl rfl ⟨rfl, rfl⟩
theorem b_X4_endsAt {x1 : Int32} {x2 : Int32} {m : q_Mm} : q_bo (f_X4_endsAt x1 x2 m) := by
  unfold f_X4_endsAt
  repeat' split
  all_goals first | exact Or.inl rfl | exact Or.inr rfl
def f_X4_isBeyondGap (x1 : Int32) (x2 : Int32) (m : q_Mm) : (Int32) :=
  if (m.1 89 8) < ((q_rm x1 12) - (q_rm x2 12)) then
    1
  else
    if ((q_rm x1 12) - (q_rm x2 12)) < (-(m.1 89 8)) then
      1
    else
      if (m.1 89 8) < ((x1 / 12) - (x2 / 12)) then
        1
      else
        if (-(m.1 89 8)) ≤ ((x1 / 12) - (x2 / 12)) then
          0
        else
          1
set_option maxRecDepth 100000 in
set_option maxHeartbeats 4000000 in
theorem t_X4_isBeyondGap {g : q_G} {n : Nat} {F : Nat → Nat → Option Nat} (hn : 89 ≤ n) (hF : q_FF F) (hp : 92 ≤ n) (hP : q_FP F)  {x1 : Int32} {x2 : Int32} {m : q_Mm} {r : Int32} (h : f_X4_isBeyondGap x1 x2 m = r) : q_Cn g mX4_isBeyondGap [q_r g 89, .int x1, .int x2] (q_mk n F m) (q_Q (some (.int r)) (q_mk n F m)) := by
  unfold f_X4_isBeyondGap at h
  show q_V g mX4_isBeyondGap q_T _ _ _ 0 [(0, q_r g 89), (1, .int x1), (2, .int x2)] [] (q_mk n F m)
  refine q_iload_n dX4_isBeyondGap_0 rfl ?_
  refine q_bipush (v := 12) dX4_isBeyondGap_1 (by decide) ?_
  refine q_irm dX4_isBeyondGap_3 (by decide) ?_
  refine q_iload_n dX4_isBeyondGap_4 rfl ?_
  refine q_bipush (v := 12) dX4_isBeyondGap_5 (by decide) ?_
  refine q_irm dX4_isBeyondGap_7 (by decide) ?_
  refine q_isub dX4_isBeyondGap_8 ?_
  refine q_istore_n (ls' := [(0, _), (1, _), (2, _), (3, _)]) [0, 1, 2, 3] dX4_isBeyondGap_9 (Nat.le_of_ble_eq_true rfl) rfl ?_
  refine q_iload_n dX4_isBeyondGap_10 rfl ?_
  refine q_bipush (v := 12) dX4_isBeyondGap_11 (by decide) ?_
  refine q_idiv dX4_isBeyondGap_13 (by decide) ?_
  refine q_iload_n dX4_isBeyondGap_14 rfl ?_
  refine q_bipush (v := 12) dX4_isBeyondGap_15 (by decide) ?_
  refine q_idiv dX4_isBeyondGap_17 (by decide) ?_
  refine q_isub dX4_isBeyondGap_18 ?_
  refine q_istore (ls' := [(0, _), (3, _), (4, _)]) [0, 3, 4] dX4_isBeyondGap_19 (Nat.le_of_ble_eq_true rfl) rfl ?_
  refine q_iload_n dX4_isBeyondGap_21 rfl ?_
  refine q_aload_n dX4_isBeyondGap_22 rfl ?_
  refine u_geti dX4_isBeyondGap_23 fX4_32 rfl rfl (Nat.lt_of_lt_of_le (Nat.le_of_ble_eq_true rfl) hp) ?_
  refine q_icmp_gt 57 dX4_isBeyondGap_26 (by decide) (fun hc => ?_) (fun hc => ?_)
  · have h := q_it hc h
    refine q_iconst (v := 1) dX4_isBeyondGap_57 (by decide) ?_
    refine q_goto 62 dX4_isBeyondGap_58 (by decide) ?_
    subst h
    exact q_zret dX4_isBeyondGap_62 rfl rfl ⟨rfl, rfl⟩
  · have h := q_if hc h
    refine q_iload_n dX4_isBeyondGap_29 rfl ?_
    refine q_aload_n dX4_isBeyondGap_30 rfl ?_
    refine u_geti dX4_isBeyondGap_31 fX4_32 rfl rfl (Nat.lt_of_lt_of_le (Nat.le_of_ble_eq_true rfl) hp) ?_
    refine q_ineg dX4_isBeyondGap_34 ?_
    refine q_icmp_lt 57 dX4_isBeyondGap_35 (by decide) (fun hc => ?_) (fun hc => ?_)
    · have h := q_it hc h
      refine q_iconst (v := 1) dX4_isBeyondGap_57 (by decide) ?_
      refine q_goto 62 dX4_isBeyondGap_58 (by decide) ?_
      subst h
      exact q_zret dX4_isBeyondGap_62 rfl rfl ⟨rfl, rfl⟩
    · have h := q_if hc h
      refine q_iload dX4_isBeyondGap_38 rfl ?_
      refine q_aload_n dX4_isBeyondGap_40 rfl ?_
      refine u_geti dX4_isBeyondGap_41 fX4_32 rfl rfl (Nat.lt_of_lt_of_le (Nat.le_of_ble_eq_true rfl) hp) ?_
      refine q_icmp_gt 57 dX4_isBeyondGap_44 (by decide) (fun hc => ?_) (fun hc => ?_)
      · have h := q_it hc h
        refine q_iconst (v := 1) dX4_isBeyondGap_57 (by decide) ?_
        refine q_goto 62 dX4_isBeyondGap_58 (by decide) ?_
        subst h
        exact q_zret dX4_isBeyondGap_62 rfl rfl ⟨rfl, rfl⟩
      · have h := q_if hc h
        refine q_iload dX4_isBeyondGap_47 rfl ?_
        refine q_aload_n dX4_isBeyondGap_49 rfl ?_
        refine u_geti dX4_isBeyondGap_50 fX4_32 rfl rfl (Nat.lt_of_lt_of_le (Nat.le_of_ble_eq_true rfl) hp) ?_
        refine q_ineg dX4_isBeyondGap_53 ?_
        refine q_icmp_ge 61 dX4_isBeyondGap_54 (by decide) (fun hc => ?_) (fun hc => ?_)
        · have h := q_it hc h
          refine q_iconst (v := 0) dX4_isBeyondGap_61 (by decide) ?_
          subst h
          exact q_zret dX4_isBeyondGap_62 rfl rfl ⟨rfl, rfl⟩
        · have h := q_if hc h
          refine q_iconst (v := 1) dX4_isBeyondGap_57 (by decide) ?_
          refine q_goto 62 dX4_isBeyondGap_58 (by decide) ?_
          subst h
          exact q_zret dX4_isBeyondGap_62 rfl rfl ⟨rfl, rfl⟩
theorem b_X4_isBeyondGap {x1 : Int32} {x2 : Int32} {m : q_Mm} : q_bo (f_X4_isBeyondGap x1 x2 m) := by
  unfold f_X4_isBeyondGap
  repeat' split
  all_goals first | exact Or.inl rfl | exact Or.inr rfl
def f_X8_cellOn (a0 : Nat) (x1 : Int32) (m : q_Mm) : Option (Int32) :=
  if (m.1 a0 2) ≤ x1 then
    if q_in (m.1 a0 2) 41 = true then
    some (m.1 (a0 + 1) (m.1 a0 2).toNatClampNeg)
    else none
  else
    if q_in x1 41 = true then
    some (m.1 (a0 + 1) x1.toNatClampNeg)
    else none
set_option maxRecDepth 100000 in
set_option maxHeartbeats 4000000 in
theorem t_X8_cellOn {g : q_G} {n : Nat} {F : Nat → Nat → Option Nat} (hn : 89 ≤ n) (hF : q_FF F) {a0 : Nat} (ha0 : q_isVoy a0) {x1 : Int32} {m : q_Mm} {r : Int32} (h : f_X8_cellOn a0 x1 m = some r) : q_Cn g mX8_cellOn [q_r g a0, .int x1] (q_mk n F m) (q_Q (some (.int r)) (q_mk n F m)) := by
  unfold f_X8_cellOn at h
  show q_V g mX8_cellOn q_T _ _ _ 0 [(0, q_r g a0), (1, .int x1)] [] (q_mk n F m)
  refine q_aload_n dX8_cellOn_0 rfl ?_
  refine u_getr dX8_cellOn_1 fX8_15 rfl (q_voy_0 ha0) (q_lt0 (q_voy_n ha0 hn)) (q_voy_F1 hF ha0) ?_
  refine q_iload_n dX8_cellOn_4 rfl ?_
  refine q_aload_n dX8_cellOn_5 rfl ?_
  refine u_geti dX8_cellOn_6 fX8_19 rfl (q_voy_0 ha0) (q_lt0 (q_voy_n ha0 hn)) ?_
  refine q_icmp_ge 16 dX8_cellOn_9 (by decide) (fun hc => ?_) (fun hc => ?_)
  · have h := q_it hc h
    refine q_aload_n dX8_cellOn_16 rfl ?_
    refine u_geti dX8_cellOn_17 fX8_19 rfl (q_voy_0 ha0) (q_lt0 (q_voy_n ha0 hn)) ?_
    obtain ⟨hi1, h⟩ := q_is h
    refine u_iald dX8_cellOn_20 (q_voy_1 ha0) (q_lt1 (q_voy_n ha0 hn)) (q_in_vp hi1) ?_
    cases h
    exact q_iret dX8_cellOn_21 rfl ⟨rfl, rfl⟩
  · have h := q_if hc h
    refine q_iload_n dX8_cellOn_12 rfl ?_
    refine q_goto 20 dX8_cellOn_13 (by decide) ?_
    obtain ⟨hi2, h⟩ := q_is h
    refine u_iald dX8_cellOn_20 (q_voy_1 ha0) (q_lt1 (q_voy_n ha0 hn)) (q_in_vp hi2) ?_
    cases h
    exact q_iret dX8_cellOn_21 rfl ⟨rfl, rfl⟩
def f_X4_isApart (x1 : Int32) (x2 : Int32) (m : q_Mm) : Option (Int32) :=
  if (m.1 89 8) = (-1) then
    some (1)
  else
    if x2 < 1 then
      (f_X8_cellOn 34 x2 m).bind fun r1 =>
      if (f_X4_isBeyondGap x1 r1 m) = 0 then
        some (0)
      else
        (f_X8_cellOn 34 (x2 + 1) m).bind fun r3 =>
        if (f_X4_isBeyondGap x1 r3 m) = 0 then
          some (0)
        else
          some (1)
    else
      (f_X8_cellOn 34 (x2 - 1) m).bind fun r5 =>
      if (f_X4_isBeyondGap x1 r5 m) = 0 then
        some (0)
      else
        (f_X8_cellOn 34 x2 m).bind fun r7 =>
        if (f_X4_isBeyondGap x1 r7 m) = 0 then
          some (0)
        else
          (f_X8_cellOn 34 (x2 + 1) m).bind fun r9 =>
          if (f_X4_isBeyondGap x1 r9 m) = 0 then
            some (0)
          else
            some (1)
set_option maxRecDepth 100000 in
set_option maxHeartbeats 4000000 in
theorem t_X4_isApart {g : q_G} {n : Nat} {F : Nat → Nat → Option Nat} (hn : 89 ≤ n) (hF : q_FF F) (hp : 92 ≤ n) (hP : q_FP F)  {x1 : Int32} {x2 : Int32} {m : q_Mm} {r : Int32} (h : f_X4_isApart x1 x2 m = some r) : q_Cn g mX4_isApart [q_r g 89, .int x1, .int x2] (q_mk n F m) (q_Q (some (.int r)) (q_mk n F m)) := by
  unfold f_X4_isApart at h
  show q_V g mX4_isApart q_T _ _ _ 0 [(0, q_r g 89), (1, .int x1), (2, .int x2)] [] (q_mk n F m)
  refine q_aload_n dX4_isApart_0 rfl ?_
  refine u_geti dX4_isApart_1 fX4_32 rfl rfl (Nat.lt_of_lt_of_le (Nat.le_of_ble_eq_true rfl) hp) ?_
  refine q_iconst (v := (-1)) dX4_isApart_4 (by decide) ?_
  refine q_icmp_ne 10 dX4_isApart_5 (by decide) (fun hc => ?_) (fun hc => ?_)
  · have h := q_if hc h
    refine q_iload_n dX4_isApart_10 rfl ?_
    refine q_iconst (v := 1) dX4_isApart_11 (by decide) ?_
    refine q_icmp_lt 33 dX4_isApart_12 (by decide) (fun hc => ?_) (fun hc => ?_)
    · have h := q_it hc h
      refine q_aload_n dX4_isApart_33 rfl ?_
      refine q_iload_n dX4_isApart_34 rfl ?_
      refine q_aload_n dX4_isApart_35 rfl ?_
      refine u_getr dX4_isApart_36 fX4_45 rfl rfl (Nat.lt_of_lt_of_le (Nat.le_of_ble_eq_true rfl) hp) (hP 89 1 34 rfl) ?_
      refine q_iload_n dX4_isApart_39 rfl ?_
      obtain ⟨r1, hr2, h⟩ := q_bd h
      refine c_V1 (as := [_]) (st := [_, _]) (ci := 8) dX4_isApart_40 okX8_cellOn lX4_100 ⟨rfl, rfl⟩ ⟨Nat.le_of_ble_eq_true rfl, Nat.le_of_ble_eq_true rfl⟩ (by decide) rfl rfl (Nat.lt_of_lt_of_le (Nat.le_of_ble_eq_true rfl) hn) rfl rfl (Nat.le_of_ble_eq_true rfl) (Nat.le_of_ble_eq_true rfl) (t_X8_cellOn hn hF q_is34 hr2) ?_
      refine c_V1 (as := [_, _]) (st := []) (ci := 4) dX4_isApart_43 okX4_isBeyondGap lX4_106 ⟨rfl, rfl⟩ ⟨Nat.le_of_ble_eq_true rfl, Nat.le_of_ble_eq_true rfl⟩ (by decide) rfl rfl (Nat.lt_of_lt_of_le (Nat.le_of_ble_eq_true rfl) hp) rfl rfl (Nat.le_of_ble_eq_true rfl) (Nat.le_of_ble_eq_true rfl) (t_X4_isBeyondGap hn hF hp hP  rfl) ?_
      refine q_if_eq 71 dX4_isApart_46 (by decide) (fun hc => ?_) (fun hc => ?_)
      · have h := q_it hc h
        refine q_iconst (v := 0) dX4_isApart_71 (by decide) ?_
        cases h
        exact q_zret dX4_isApart_72 rfl rfl ⟨rfl, rfl⟩
      · have h := q_if hc h
        refine q_aload_n dX4_isApart_49 rfl ?_
        refine q_iload_n dX4_isApart_50 rfl ?_
        refine q_aload_n dX4_isApart_51 rfl ?_
        refine u_getr dX4_isApart_52 fX4_45 rfl rfl (Nat.lt_of_lt_of_le (Nat.le_of_ble_eq_true rfl) hp) (hP 89 1 34 rfl) ?_
        refine q_iload_n dX4_isApart_55 rfl ?_
        refine q_iconst (v := 1) dX4_isApart_56 (by decide) ?_
        refine q_iadd dX4_isApart_57 ?_
        obtain ⟨r3, hr4, h⟩ := q_bd h
        refine c_V1 (as := [_]) (st := [_, _]) (ci := 8) dX4_isApart_58 okX8_cellOn lX4_100 ⟨rfl, rfl⟩ ⟨Nat.le_of_ble_eq_true rfl, Nat.le_of_ble_eq_true rfl⟩ (by decide) rfl rfl (Nat.lt_of_lt_of_le (Nat.le_of_ble_eq_true rfl) hn) rfl rfl (Nat.le_of_ble_eq_true rfl) (Nat.le_of_ble_eq_true rfl) (t_X8_cellOn hn hF q_is34 hr4) ?_
        refine c_V1 (as := [_, _]) (st := []) (ci := 4) dX4_isApart_61 okX4_isBeyondGap lX4_106 ⟨rfl, rfl⟩ ⟨Nat.le_of_ble_eq_true rfl, Nat.le_of_ble_eq_true rfl⟩ (by decide) rfl rfl (Nat.lt_of_lt_of_le (Nat.le_of_ble_eq_true rfl) hp) rfl rfl (Nat.le_of_ble_eq_true rfl) (Nat.le_of_ble_eq_true rfl) (t_X4_isBeyondGap hn hF hp hP  rfl) ?_
        refine q_if_eq 71 dX4_isApart_64 (by decide) (fun hc => ?_) (fun hc => ?_)
        · have h := q_it hc h
          refine q_iconst (v := 0) dX4_isApart_71 (by decide) ?_
          cases h
          exact q_zret dX4_isApart_72 rfl rfl ⟨rfl, rfl⟩
        · have h := q_if hc h
          refine q_iconst (v := 1) dX4_isApart_67 (by decide) ?_
          refine q_goto 72 dX4_isApart_68 (by decide) ?_
          cases h
          exact q_zret dX4_isApart_72 rfl rfl ⟨rfl, rfl⟩
    · have h := q_if hc h
      refine q_aload_n dX4_isApart_15 rfl ?_
      refine q_iload_n dX4_isApart_16 rfl ?_
      refine q_aload_n dX4_isApart_17 rfl ?_
      refine u_getr dX4_isApart_18 fX4_45 rfl rfl (Nat.lt_of_lt_of_le (Nat.le_of_ble_eq_true rfl) hp) (hP 89 1 34 rfl) ?_
      refine q_iload_n dX4_isApart_21 rfl ?_
      refine q_iconst (v := 1) dX4_isApart_22 (by decide) ?_
      refine q_isub dX4_isApart_23 ?_
      obtain ⟨r5, hr6, h⟩ := q_bd h
      refine c_V1 (as := [_]) (st := [_, _]) (ci := 8) dX4_isApart_24 okX8_cellOn lX4_100 ⟨rfl, rfl⟩ ⟨Nat.le_of_ble_eq_true rfl, Nat.le_of_ble_eq_true rfl⟩ (by decide) rfl rfl (Nat.lt_of_lt_of_le (Nat.le_of_ble_eq_true rfl) hn) rfl rfl (Nat.le_of_ble_eq_true rfl) (Nat.le_of_ble_eq_true rfl) (t_X8_cellOn hn hF q_is34 hr6) ?_
      refine c_V1 (as := [_, _]) (st := []) (ci := 4) dX4_isApart_27 okX4_isBeyondGap lX4_106 ⟨rfl, rfl⟩ ⟨Nat.le_of_ble_eq_true rfl, Nat.le_of_ble_eq_true rfl⟩ (by decide) rfl rfl (Nat.lt_of_lt_of_le (Nat.le_of_ble_eq_true rfl) hp) rfl rfl (Nat.le_of_ble_eq_true rfl) (Nat.le_of_ble_eq_true rfl) (t_X4_isBeyondGap hn hF hp hP  rfl) ?_
      refine q_if_eq 71 dX4_isApart_30 (by decide) (fun hc => ?_) (fun hc => ?_)
      · have h := q_it hc h
        refine q_iconst (v := 0) dX4_isApart_71 (by decide) ?_
        cases h
        exact q_zret dX4_isApart_72 rfl rfl ⟨rfl, rfl⟩
      · have h := q_if hc h
        refine q_aload_n dX4_isApart_33 rfl ?_
        refine q_iload_n dX4_isApart_34 rfl ?_
        refine q_aload_n dX4_isApart_35 rfl ?_
        refine u_getr dX4_isApart_36 fX4_45 rfl rfl (Nat.lt_of_lt_of_le (Nat.le_of_ble_eq_true rfl) hp) (hP 89 1 34 rfl) ?_
        refine q_iload_n dX4_isApart_39 rfl ?_
        obtain ⟨r7, hr8, h⟩ := q_bd h
        refine c_V1 (as := [_]) (st := [_, _]) (ci := 8) dX4_isApart_40 okX8_cellOn lX4_100 ⟨rfl, rfl⟩ ⟨Nat.le_of_ble_eq_true rfl, Nat.le_of_ble_eq_true rfl⟩ (by decide) rfl rfl (Nat.lt_of_lt_of_le (Nat.le_of_ble_eq_true rfl) hn) rfl rfl (Nat.le_of_ble_eq_true rfl) (Nat.le_of_ble_eq_true rfl) (t_X8_cellOn hn hF q_is34 hr8) ?_
        refine c_V1 (as := [_, _]) (st := []) (ci := 4) dX4_isApart_43 okX4_isBeyondGap lX4_106 ⟨rfl, rfl⟩ ⟨Nat.le_of_ble_eq_true rfl, Nat.le_of_ble_eq_true rfl⟩ (by decide) rfl rfl (Nat.lt_of_lt_of_le (Nat.le_of_ble_eq_true rfl) hp) rfl rfl (Nat.le_of_ble_eq_true rfl) (Nat.le_of_ble_eq_true rfl) (t_X4_isBeyondGap hn hF hp hP  rfl) ?_
        refine q_if_eq 71 dX4_isApart_46 (by decide) (fun hc => ?_) (fun hc => ?_)
        · have h := q_it hc h
          refine q_iconst (v := 0) dX4_isApart_71 (by decide) ?_
          cases h
          exact q_zret dX4_isApart_72 rfl rfl ⟨rfl, rfl⟩
        · have h := q_if hc h
          refine q_aload_n dX4_isApart_49 rfl ?_
          refine q_iload_n dX4_isApart_50 rfl ?_
          refine q_aload_n dX4_isApart_51 rfl ?_
          refine u_getr dX4_isApart_52 fX4_45 rfl rfl (Nat.lt_of_lt_of_le (Nat.le_of_ble_eq_true rfl) hp) (hP 89 1 34 rfl) ?_
          refine q_iload_n dX4_isApart_55 rfl ?_
          refine q_iconst (v := 1) dX4_isApart_56 (by decide) ?_
          refine q_iadd dX4_isApart_57 ?_
          obtain ⟨r9, hr10, h⟩ := q_bd h
          refine c_V1 (as := [_]) (st := [_, _]) (ci := 8) dX4_isApart_58 okX8_cellOn lX4_100 ⟨rfl, rfl⟩ ⟨Nat.le_of_ble_eq_true rfl, Nat.le_of_ble_eq_true rfl⟩ (by decide) rfl rfl (Nat.lt_of_lt_of_le (Nat.le_of_ble_eq_true rfl) hn) rfl rfl (Nat.le_of_ble_eq_true rfl) (Nat.le_of_ble_eq_true rfl) (t_X8_cellOn hn hF q_is34 hr10) ?_
          refine c_V1 (as := [_, _]) (st := []) (ci := 4) dX4_isApart_61 okX4_isBeyondGap lX4_106 ⟨rfl, rfl⟩ ⟨Nat.le_of_ble_eq_true rfl, Nat.le_of_ble_eq_true rfl⟩ (by decide) rfl rfl (Nat.lt_of_lt_of_le (Nat.le_of_ble_eq_true rfl) hp) rfl rfl (Nat.le_of_ble_eq_true rfl) (Nat.le_of_ble_eq_true rfl) (t_X4_isBeyondGap hn hF hp hP  rfl) ?_
          refine q_if_eq 71 dX4_isApart_64 (by decide) (fun hc => ?_) (fun hc => ?_)
          · have h := q_it hc h
            refine q_iconst (v := 0) dX4_isApart_71 (by decide) ?_
            cases h
            exact q_zret dX4_isApart_72 rfl rfl ⟨rfl, rfl⟩
          · have h := q_if hc h
            refine q_iconst (v := 1) dX4_isApart_67 (by decide) ?_
            refine q_goto 72 dX4_isApart_68 (by decide) ?_
            cases h
            exact q_zret dX4_isApart_72 rfl rfl ⟨rfl, rfl⟩
  · have h := q_it hc h
    refine q_iconst (v := 1) dX4_isApart_8 (by decide) ?_
    cases h
    exact q_zret dX4_isApart_9 rfl rfl ⟨rfl, rfl⟩
def f_X4_longOf (x1 : Int32) (x2 : Int32) (x3 : Int32) (m : q_Mm) : (Int32) :=
  (((x2 * ((m.1 89 6) + 1)) + x1) * 9) + (x3 / 16)
set_option maxRecDepth 100000 in
set_option maxHeartbeats 4000000 in
theorem t_X4_longOf {g : q_G} {n : Nat} {F : Nat → Nat → Option Nat} (hn : 89 ≤ n) (hF : q_FF F) (hp : 92 ≤ n) (hP : q_FP F)  {x1 : Int32} {x2 : Int32} {x3 : Int32} {m : q_Mm} {r : Int32} (h : f_X4_longOf x1 x2 x3 m = r) : q_Cn g mX4_longOf [q_r g 89, .int x1, .int x2, .int x3] (q_mk n F m) (q_Q (some (.int r)) (q_mk n F m)) := by
  unfold f_X4_longOf at h
  show q_V g mX4_longOf q_T _ _ _ 0 [(0, q_r g 89), (1, .int x1), (2, .int x2), (3, .int x3)] [] (q_mk n F m)
  refine q_iload_n dX4_longOf_0 rfl ?_
  refine q_aload_n dX4_longOf_1 rfl ?_
  refine u_geti dX4_longOf_2 fX4_26 rfl rfl (Nat.lt_of_lt_of_le (Nat.le_of_ble_eq_true rfl) hp) ?_
  refine q_iconst (v := 1) dX4_longOf_5 (by decide) ?_
  refine q_iadd dX4_longOf_6 ?_
  refine q_imul dX4_longOf_7 ?_
  refine q_iload_n dX4_longOf_8 rfl ?_
  refine q_iadd dX4_longOf_9 ?_
  refine q_bipush (v := 9) dX4_longOf_10 (by decide) ?_
  refine q_imul dX4_longOf_12 ?_
  refine q_iload_n dX4_longOf_13 rfl ?_
  refine q_bipush (v := 16) dX4_longOf_14 (by decide) ?_
  refine q_idiv dX4_longOf_16 (by decide) ?_
  refine q_iadd dX4_longOf_17 ?_
  subst h
  exact q_iret dX4_longOf_18 rfl ⟨rfl, rfl⟩
def f_X4_shiftOf (x0 : Int32) (m : q_Mm) : (Int32) :=
  (q_rm x0 16) * 4
set_option maxRecDepth 100000 in
set_option maxHeartbeats 4000000 in
theorem t_X4_shiftOf {g : q_G} {n : Nat} {F : Nat → Nat → Option Nat} (hn : 89 ≤ n) (hF : q_FF F) (hp : 92 ≤ n) (hP : q_FP F)  {x0 : Int32} {m : q_Mm} {r : Int32} (h : f_X4_shiftOf x0 m = r) : q_Cn g mX4_shiftOf [.int x0] (q_mk n F m) (q_Q (some (.int r)) (q_mk n F m)) := by
  unfold f_X4_shiftOf at h
  show q_V g mX4_shiftOf q_T _ _ _ 0 [(0, .int x0)] [] (q_mk n F m)
  refine q_iload_n dX4_shiftOf_0 rfl ?_
  refine q_bipush (v := 16) dX4_shiftOf_1 (by decide) ?_
  refine q_irm dX4_shiftOf_3 (by decide) ?_
  refine q_iconst (v := 4) dX4_shiftOf_4 (by decide) ?_
  refine q_imul dX4_shiftOf_5 ?_
  subst h
  exact q_iret dX4_shiftOf_6 rfl ⟨rfl, rfl⟩
def f_X4_keepMove (x1 : Int32) (x2 : Int32) (x3 : Int32) (x4 : Int32) (m : q_Mm) : Option (q_Mm) :=
  if q_in (f_X4_longOf x1 x2 x3 m) 3969 = true then
  if q_in (f_X4_longOf x1 x2 x3 m) 3969 = true then
  some (q_wl m 91 ((f_X4_longOf x1 x2 x3 m).toNatClampNeg) (((m.2 91 (f_X4_longOf x1 x2 x3 m).toNatClampNeg) &&& (((15 : Int64) <<< ((f_X4_shiftOf x3 m).toInt64 &&& 63)) ^^^ (-1))) ||| (x4.toInt64 <<< ((f_X4_shiftOf x3 m).toInt64 &&& 63))))
  else none
  else none
set_option maxRecDepth 100000 in
set_option maxHeartbeats 4000000 in
theorem t_X4_keepMove {g : q_G} {n : Nat} {F : Nat → Nat → Option Nat} (hn : 89 ≤ n) (hF : q_FF F) (hp : 92 ≤ n) (hP : q_FP F)  {x1 : Int32} {x2 : Int32} {x3 : Int32} {x4 : Int32} {m : q_Mm} {r : q_Mm} (h : f_X4_keepMove x1 x2 x3 x4 m = some r) : q_Cn g mX4_keepMove [q_r g 89, .int x1, .int x2, .int x3, .int x4] (q_mk n F m) (q_Q none (q_mk n F r)) := by
  unfold f_X4_keepMove at h
  show q_V g mX4_keepMove q_T _ _ _ 0 [(0, q_r g 89), (1, .int x1), (2, .int x2), (3, .int x3), (4, .int x4)] [] (q_mk n F m)
  refine q_aload_n dX4_keepMove_0 rfl ?_
  refine q_iload_n dX4_keepMove_1 rfl ?_
  refine q_iload_n dX4_keepMove_2 rfl ?_
  refine q_iload_n dX4_keepMove_3 rfl ?_
  refine c_V1 (as := [_, _, _]) (st := []) (ci := 4) dX4_keepMove_4 okX4_longOf lX4_109 ⟨rfl, rfl⟩ ⟨Nat.le_of_ble_eq_true rfl, Nat.le_of_ble_eq_true rfl⟩ (by decide) rfl rfl (Nat.lt_of_lt_of_le (Nat.le_of_ble_eq_true rfl) hp) rfl rfl (Nat.le_of_ble_eq_true rfl) (Nat.le_of_ble_eq_true rfl) (t_X4_longOf hn hF hp hP  rfl) ?_
  refine q_istore (ls' := [(0, _), (3, _), (4, _), (5, _)]) [0, 3, 4, 5] dX4_keepMove_7 (Nat.le_of_ble_eq_true rfl) rfl ?_
  refine q_aload_n dX4_keepMove_9 rfl ?_
  refine u_getr dX4_keepMove_10 fX4_15 rfl rfl (Nat.lt_of_lt_of_le (Nat.le_of_ble_eq_true rfl) hp) (hP 89 3 91 rfl) ?_
  refine q_iload dX4_keepMove_13 rfl ?_
  obtain ⟨hi1, h⟩ := q_is h
  refine u_lald dX4_keepMove_15 rfl (Nat.lt_of_lt_of_le (Nat.le_of_ble_eq_true rfl) hp) (q_in_vp hi1) ?_
  refine q_ldc2 dX4_keepMove_16 kX4_112 ?_
  refine q_iload_n dX4_keepMove_19 rfl ?_
  refine c_S1 (as := [_]) (st := [_, _]) dX4_keepMove_20 okX4_shiftOf lX4_114 ⟨rfl, rfl⟩ ⟨Nat.le_of_ble_eq_true rfl, Nat.le_of_ble_eq_true rfl⟩ rfl rfl (Nat.le_of_ble_eq_true rfl) (Nat.le_of_ble_eq_true rfl) (t_X4_shiftOf hn hF hp hP  rfl) ?_
  refine q_lshl dX4_keepMove_23 ?_
  refine q_ldc2 dX4_keepMove_24 kX4_117 ?_
  refine q_lxor dX4_keepMove_27 ?_
  refine q_land dX4_keepMove_28 ?_
  refine q_lstore (ls' := [(0, _), (3, _), (4, _), (5, _), (6, _)]) [0, 3, 4, 5, 6] dX4_keepMove_29 (Nat.le_of_ble_eq_true rfl) rfl ?_
  refine q_aload_n dX4_keepMove_31 rfl ?_
  refine u_getr dX4_keepMove_32 fX4_15 rfl rfl (Nat.lt_of_lt_of_le (Nat.le_of_ble_eq_true rfl) hp) (hP 89 3 91 rfl) ?_
  refine q_iload dX4_keepMove_35 rfl ?_
  refine q_lload dX4_keepMove_37 rfl ?_
  refine q_iload dX4_keepMove_39 rfl ?_
  refine q_i2l dX4_keepMove_41 ?_
  refine q_iload_n dX4_keepMove_42 rfl ?_
  refine c_S1 (as := [_]) (st := [_, _, _, _]) dX4_keepMove_43 okX4_shiftOf lX4_114 ⟨rfl, rfl⟩ ⟨Nat.le_of_ble_eq_true rfl, Nat.le_of_ble_eq_true rfl⟩ rfl rfl (Nat.le_of_ble_eq_true rfl) (Nat.le_of_ble_eq_true rfl) (t_X4_shiftOf hn hF hp hP  rfl) ?_
  refine q_lshl dX4_keepMove_46 ?_
  refine q_lor dX4_keepMove_47 ?_
  obtain ⟨hi2, h⟩ := q_is h
  refine u_last dX4_keepMove_48 rfl (Nat.lt_of_lt_of_le (Nat.le_of_ble_eq_true rfl) hp) (q_in_vp hi2) ?_
  cases h
  exact q_vret dX4_keepMove_49 rfl ⟨rfl, rfl⟩
def f_X4_worthOfGoing (x1 : Int32) (x2 : Int32) (x3 : Int32) (m : q_Mm) : Option (Int32) :=
  if x2 < 0 then
    some (536870912)
  else
    if 12 ≤ x2 then
      some (536870912)
    else
      if x3 < 0 then
        some (536870912)
      else
        if x3 < 12 then
          if q_in ((x1 * 144) + ((12 * x3) + x2)) 5904 = true then
          if 536870912 ≤ (m.1 90 ((x1 * 144) + ((12 * x3) + x2)).toNatClampNeg) then
            some (536870912)
          else
            if q_in ((12 * x3) + x2) 144 = true then
            some ((((m.1 90 ((x1 * 144) + ((12 * x3) + x2)).toNatClampNeg) + ((m.1 33 ((12 * x3) + x2).toNatClampNeg) * 4096)) + 64) + 1)
            else none
          else none
        else
          some (536870912)
set_option maxRecDepth 100000 in
set_option maxHeartbeats 4000000 in
theorem t_X4_worthOfGoing {g : q_G} {n : Nat} {F : Nat → Nat → Option Nat} (hn : 89 ≤ n) (hF : q_FF F) (hp : 92 ≤ n) (hP : q_FP F)  {x1 : Int32} {x2 : Int32} {x3 : Int32} {m : q_Mm} {r : Int32} (h : f_X4_worthOfGoing x1 x2 x3 m = some r) : q_Cn g mX4_worthOfGoing [q_r g 89, .int x1, .int x2, .int x3] (q_mk n F m) (q_Q (some (.int r)) (q_mk n F m)) := by
  unfold f_X4_worthOfGoing at h
  show q_V g mX4_worthOfGoing q_T _ _ _ 0 [(0, q_r g 89), (1, .int x1), (2, .int x2), (3, .int x3)] [] (q_mk n F m)
  refine q_iload_n dX4_worthOfGoing_0 rfl ?_
  refine q_if_lt 20 dX4_worthOfGoing_1 (by decide) (fun hc => ?_) (fun hc => ?_)
  · have h := q_it hc h
    refine q_ldc dX4_worthOfGoing_20 kX4_38 ?_
    cases h
    exact q_iret dX4_worthOfGoing_22 rfl ⟨rfl, rfl⟩
  · have h := q_if hc h
    refine q_iload_n dX4_worthOfGoing_4 rfl ?_
    refine q_bipush (v := 12) dX4_worthOfGoing_5 (by decide) ?_
    refine q_icmp_ge 20 dX4_worthOfGoing_7 (by decide) (fun hc => ?_) (fun hc => ?_)
    · have h := q_it hc h
      refine q_ldc dX4_worthOfGoing_20 kX4_38 ?_
      cases h
      exact q_iret dX4_worthOfGoing_22 rfl ⟨rfl, rfl⟩
    · have h := q_if hc h
      refine q_iload_n dX4_worthOfGoing_10 rfl ?_
      refine q_if_lt 20 dX4_worthOfGoing_11 (by decide) (fun hc => ?_) (fun hc => ?_)
      · have h := q_it hc h
        refine q_ldc dX4_worthOfGoing_20 kX4_38 ?_
        cases h
        exact q_iret dX4_worthOfGoing_22 rfl ⟨rfl, rfl⟩
      · have h := q_if hc h
        refine q_iload_n dX4_worthOfGoing_14 rfl ?_
        refine q_bipush (v := 12) dX4_worthOfGoing_15 (by decide) ?_
        refine q_icmp_lt 23 dX4_worthOfGoing_17 (by decide) (fun hc => ?_) (fun hc => ?_)
        · have h := q_it hc h
          refine q_bipush (v := 12) dX4_worthOfGoing_23 (by decide) ?_
          refine q_iload_n dX4_worthOfGoing_25 rfl ?_
          refine q_imul dX4_worthOfGoing_26 ?_
          refine q_iload_n dX4_worthOfGoing_27 rfl ?_
          refine q_iadd dX4_worthOfGoing_28 ?_
          refine q_istore (ls' := [(0, _), (1, _), (4, _)]) [0, 1, 4] dX4_worthOfGoing_29 (Nat.le_of_ble_eq_true rfl) rfl ?_
          refine q_aload_n dX4_worthOfGoing_31 rfl ?_
          refine u_getr dX4_worthOfGoing_32 fX4_11 rfl rfl (Nat.lt_of_lt_of_le (Nat.le_of_ble_eq_true rfl) hp) (hP 89 2 90 rfl) ?_
          refine q_iload_n dX4_worthOfGoing_35 rfl ?_
          refine q_sipush (v := 144) dX4_worthOfGoing_36 (by decide) ?_
          refine q_imul dX4_worthOfGoing_39 ?_
          refine q_iload dX4_worthOfGoing_40 rfl ?_
          refine q_iadd dX4_worthOfGoing_42 ?_
          obtain ⟨hi1, h⟩ := q_is h
          refine u_iald dX4_worthOfGoing_43 rfl (Nat.lt_of_lt_of_le (Nat.le_of_ble_eq_true rfl) hp) (q_in_vp hi1) ?_
          refine q_istore (ls' := [(0, _), (4, _), (5, _)]) [0, 4, 5] dX4_worthOfGoing_44 (Nat.le_of_ble_eq_true rfl) rfl ?_
          refine q_iload dX4_worthOfGoing_46 rfl ?_
          refine q_ldc dX4_worthOfGoing_48 kX4_38 ?_
          refine q_icmp_ge 75 dX4_worthOfGoing_50 (by decide) (fun hc => ?_) (fun hc => ?_)
          · have h := q_it hc h
            refine q_ldc dX4_worthOfGoing_75 kX4_38 ?_
            cases h
            exact q_iret dX4_worthOfGoing_77 rfl ⟨rfl, rfl⟩
          · have h := q_if hc h
            refine q_iload dX4_worthOfGoing_53 rfl ?_
            refine q_aload_n dX4_worthOfGoing_55 rfl ?_
            refine u_getr dX4_worthOfGoing_56 fX4_42 rfl rfl (Nat.lt_of_lt_of_le (Nat.le_of_ble_eq_true rfl) hp) (hP 89 0 33 rfl) ?_
            refine q_iload dX4_worthOfGoing_59 rfl ?_
            obtain ⟨hi2, h⟩ := q_is h
            refine u_iald dX4_worthOfGoing_61 rfl (Nat.lt_of_lt_of_le (Nat.le_of_ble_eq_true rfl) hn) (q_in_vp hi2) ?_
            refine q_sipush (v := 4096) dX4_worthOfGoing_62 (by decide) ?_
            refine q_imul dX4_worthOfGoing_65 ?_
            refine q_iadd dX4_worthOfGoing_66 ?_
            refine q_bipush (v := 64) dX4_worthOfGoing_67 (by decide) ?_
            refine q_iadd dX4_worthOfGoing_69 ?_
            refine q_iconst (v := 1) dX4_worthOfGoing_70 (by decide) ?_
            refine q_iadd dX4_worthOfGoing_71 ?_
            refine q_goto 77 dX4_worthOfGoing_72 (by decide) ?_
            cases h
            exact q_iret dX4_worthOfGoing_77 rfl ⟨rfl, rfl⟩
        · have h := q_if hc h
          refine q_ldc dX4_worthOfGoing_20 kX4_38 ?_
          cases h
          exact q_iret dX4_worthOfGoing_22 rfl ⟨rfl, rfl⟩
def f_X4_worthOfStaying (x1 : Int32) (x2 : Int32) (x3 : Int32) (m : q_Mm) : Option (Int32) :=
  if x2 ≤ 0 then
    if x1 ≤ 0 then
      if 536870912 ≤ (536870912 : Int32) then
        some (536870912)
      else
        if q_in x3 144 = true then
        some ((536870912 + ((m.1 33 x3.toNatClampNeg) * 4096)) + 64)
        else none
    else
      if q_in (((x1 - 1) * 144) + x3) 5904 = true then
      if 536870912 ≤ (m.1 90 (((x1 - 1) * 144) + x3).toNatClampNeg) then
        some (536870912)
      else
        if q_in x3 144 = true then
        some (((m.1 90 (((x1 - 1) * 144) + x3).toNatClampNeg) + ((m.1 33 x3.toNatClampNeg) * 4096)) + 64)
        else none
      else none
  else
    if q_in ((x1 * 144) + x3) 5904 = true then
    if 536870912 ≤ (m.1 90 ((x1 * 144) + x3).toNatClampNeg) then
      some (536870912)
    else
      if q_in x3 144 = true then
      some (((m.1 90 ((x1 * 144) + x3).toNatClampNeg) + ((m.1 33 x3.toNatClampNeg) * 4096)) + 64)
      else none
    else none
set_option maxRecDepth 100000 in
set_option maxHeartbeats 4000000 in
theorem t_X4_worthOfStaying {g : q_G} {n : Nat} {F : Nat → Nat → Option Nat} (hn : 89 ≤ n) (hF : q_FF F) (hp : 92 ≤ n) (hP : q_FP F)  {x1 : Int32} {x2 : Int32} {x3 : Int32} {m : q_Mm} {r : Int32} (h : f_X4_worthOfStaying x1 x2 x3 m = some r) : q_Cn g mX4_worthOfStaying [q_r g 89, .int x1, .int x2, .int x3] (q_mk n F m) (q_Q (some (.int r)) (q_mk n F m)) := by
  unfold f_X4_worthOfStaying at h
  show q_V g mX4_worthOfStaying q_T _ _ _ 0 [(0, q_r g 89), (1, .int x1), (2, .int x2), (3, .int x3)] [] (q_mk n F m)
  refine q_ldc dX4_worthOfStaying_0 kX4_38 ?_
  refine q_istore (ls' := [(0, _), (1, _), (2, _), (3, _), (4, _)]) [0, 1, 2, 3, 4] dX4_worthOfStaying_2 (Nat.le_of_ble_eq_true rfl) rfl ?_
  refine q_iload_n dX4_worthOfStaying_4 rfl ?_
  refine q_if_le 25 dX4_worthOfStaying_5 (by decide) (fun hc => ?_) (fun hc => ?_)
  · have h := q_it hc h
    refine q_iload_n dX4_worthOfStaying_25 rfl ?_
    refine q_if_le 45 dX4_worthOfStaying_26 (by decide) (fun hc => ?_) (fun hc => ?_)
    · have h := q_it hc h
      refine q_iload dX4_worthOfStaying_45 rfl ?_
      refine q_ldc dX4_worthOfStaying_47 kX4_38 ?_
      refine q_icmp_ge 71 dX4_worthOfStaying_49 (by decide) (fun hc => ?_) (fun hc => ?_)
      · have h := q_it hc h
        refine q_ldc dX4_worthOfStaying_71 kX4_38 ?_
        cases h
        exact q_iret dX4_worthOfStaying_73 rfl ⟨rfl, rfl⟩
      · have h := q_if hc h
        refine q_iload dX4_worthOfStaying_52 rfl ?_
        refine q_aload_n dX4_worthOfStaying_54 rfl ?_
        refine u_getr dX4_worthOfStaying_55 fX4_42 rfl rfl (Nat.lt_of_lt_of_le (Nat.le_of_ble_eq_true rfl) hp) (hP 89 0 33 rfl) ?_
        refine q_iload_n dX4_worthOfStaying_58 rfl ?_
        obtain ⟨hi1, h⟩ := q_is h
        refine u_iald dX4_worthOfStaying_59 rfl (Nat.lt_of_lt_of_le (Nat.le_of_ble_eq_true rfl) hn) (q_in_vp hi1) ?_
        refine q_sipush (v := 4096) dX4_worthOfStaying_60 (by decide) ?_
        refine q_imul dX4_worthOfStaying_63 ?_
        refine q_iadd dX4_worthOfStaying_64 ?_
        refine q_bipush (v := 64) dX4_worthOfStaying_65 (by decide) ?_
        refine q_iadd dX4_worthOfStaying_67 ?_
        refine q_goto 73 dX4_worthOfStaying_68 (by decide) ?_
        cases h
        exact q_iret dX4_worthOfStaying_73 rfl ⟨rfl, rfl⟩
    · have h := q_if hc h
      refine q_aload_n dX4_worthOfStaying_29 rfl ?_
      refine u_getr dX4_worthOfStaying_30 fX4_11 rfl rfl (Nat.lt_of_lt_of_le (Nat.le_of_ble_eq_true rfl) hp) (hP 89 2 90 rfl) ?_
      refine q_iload_n dX4_worthOfStaying_33 rfl ?_
      refine q_iconst (v := 1) dX4_worthOfStaying_34 (by decide) ?_
      refine q_isub dX4_worthOfStaying_35 ?_
      refine q_sipush (v := 144) dX4_worthOfStaying_36 (by decide) ?_
      refine q_imul dX4_worthOfStaying_39 ?_
      refine q_iload_n dX4_worthOfStaying_40 rfl ?_
      refine q_iadd dX4_worthOfStaying_41 ?_
      obtain ⟨hi2, h⟩ := q_is h
      refine u_iald dX4_worthOfStaying_42 rfl (Nat.lt_of_lt_of_le (Nat.le_of_ble_eq_true rfl) hp) (q_in_vp hi2) ?_
      refine q_istore (ls' := [(0, _), (3, _), (4, _)]) [0, 3, 4] dX4_worthOfStaying_43 (Nat.le_of_ble_eq_true rfl) rfl ?_
      refine q_iload dX4_worthOfStaying_45 rfl ?_
      refine q_ldc dX4_worthOfStaying_47 kX4_38 ?_
      refine q_icmp_ge 71 dX4_worthOfStaying_49 (by decide) (fun hc => ?_) (fun hc => ?_)
      · have h := q_it hc h
        refine q_ldc dX4_worthOfStaying_71 kX4_38 ?_
        cases h
        exact q_iret dX4_worthOfStaying_73 rfl ⟨rfl, rfl⟩
      · have h := q_if hc h
        refine q_iload dX4_worthOfStaying_52 rfl ?_
        refine q_aload_n dX4_worthOfStaying_54 rfl ?_
        refine u_getr dX4_worthOfStaying_55 fX4_42 rfl rfl (Nat.lt_of_lt_of_le (Nat.le_of_ble_eq_true rfl) hp) (hP 89 0 33 rfl) ?_
        refine q_iload_n dX4_worthOfStaying_58 rfl ?_
        obtain ⟨hi3, h⟩ := q_is h
        refine u_iald dX4_worthOfStaying_59 rfl (Nat.lt_of_lt_of_le (Nat.le_of_ble_eq_true rfl) hn) (q_in_vp hi3) ?_
        refine q_sipush (v := 4096) dX4_worthOfStaying_60 (by decide) ?_
        refine q_imul dX4_worthOfStaying_63 ?_
        refine q_iadd dX4_worthOfStaying_64 ?_
        refine q_bipush (v := 64) dX4_worthOfStaying_65 (by decide) ?_
        refine q_iadd dX4_worthOfStaying_67 ?_
        refine q_goto 73 dX4_worthOfStaying_68 (by decide) ?_
        cases h
        exact q_iret dX4_worthOfStaying_73 rfl ⟨rfl, rfl⟩
  · have h := q_if hc h
    refine q_aload_n dX4_worthOfStaying_8 rfl ?_
    refine u_getr dX4_worthOfStaying_9 fX4_11 rfl rfl (Nat.lt_of_lt_of_le (Nat.le_of_ble_eq_true rfl) hp) (hP 89 2 90 rfl) ?_
    refine q_iload_n dX4_worthOfStaying_12 rfl ?_
    refine q_sipush (v := 144) dX4_worthOfStaying_13 (by decide) ?_
    refine q_imul dX4_worthOfStaying_16 ?_
    refine q_iload_n dX4_worthOfStaying_17 rfl ?_
    refine q_iadd dX4_worthOfStaying_18 ?_
    obtain ⟨hi4, h⟩ := q_is h
    refine u_iald dX4_worthOfStaying_19 rfl (Nat.lt_of_lt_of_le (Nat.le_of_ble_eq_true rfl) hp) (q_in_vp hi4) ?_
    refine q_istore (ls' := [(0, _), (3, _), (4, _)]) [0, 3, 4] dX4_worthOfStaying_20 (Nat.le_of_ble_eq_true rfl) rfl ?_
    refine q_goto 45 dX4_worthOfStaying_22 (by decide) ?_
    refine q_iload dX4_worthOfStaying_45 rfl ?_
    refine q_ldc dX4_worthOfStaying_47 kX4_38 ?_
    refine q_icmp_ge 71 dX4_worthOfStaying_49 (by decide) (fun hc => ?_) (fun hc => ?_)
    · have h := q_it hc h
      refine q_ldc dX4_worthOfStaying_71 kX4_38 ?_
      cases h
      exact q_iret dX4_worthOfStaying_73 rfl ⟨rfl, rfl⟩
    · have h := q_if hc h
      refine q_iload dX4_worthOfStaying_52 rfl ?_
      refine q_aload_n dX4_worthOfStaying_54 rfl ?_
      refine u_getr dX4_worthOfStaying_55 fX4_42 rfl rfl (Nat.lt_of_lt_of_le (Nat.le_of_ble_eq_true rfl) hp) (hP 89 0 33 rfl) ?_
      refine q_iload_n dX4_worthOfStaying_58 rfl ?_
      obtain ⟨hi5, h⟩ := q_is h
      refine u_iald dX4_worthOfStaying_59 rfl (Nat.lt_of_lt_of_le (Nat.le_of_ble_eq_true rfl) hn) (q_in_vp hi5) ?_
      refine q_sipush (v := 4096) dX4_worthOfStaying_60 (by decide) ?_
      refine q_imul dX4_worthOfStaying_63 ?_
      refine q_iadd dX4_worthOfStaying_64 ?_
      refine q_bipush (v := 64) dX4_worthOfStaying_65 (by decide) ?_
      refine q_iadd dX4_worthOfStaying_67 ?_
      refine q_goto 73 dX4_worthOfStaying_68 (by decide) ?_
      cases h
      exact q_iret dX4_worthOfStaying_73 rfl ⟨rfl, rfl⟩
def l_X4_weigh_71 : Nat → Int32 → Int32 → Int32 → Int32 → Int32 → Int32 → Int32 → Int32 → q_Mm → Option (Int32 × Int32)
  | 0, _, _, _, _, _, _, _, _, _ => none
  | k + 1, y1, y2, y3, y4, y5, y7, y8, y9, m =>
    if 9 ≤ y9 then
      some (y7, y8)
    else
      if y1 ≤ 0 then
        some (y7, y8)
      else
        if q_in y9 9 = true then
        if q_in y9 9 = true then
        (f_X4_worthOfGoing (y1 - 1) (y3 + (q_sv 2 y9.toNatClampNeg)) (y4 + (q_sv 3 y9.toNatClampNeg)) m).bind fun r8 =>
        if y7 ≤ r8 then
          l_X4_weigh_71 k  y1 y2 y3 y4 y5 y7 y8 (y9 + 1) m
        else
          l_X4_weigh_71 k  y1 y2 y3 y4 y5 r8 y9 (y9 + 1) m
        else none
        else none
set_option maxRecDepth 100000 in
set_option maxHeartbeats 4000000 in
theorem t_l_X4_weigh_71 {g : q_G} {n : Nat} {F : Nat → Nat → Option Nat} {Z : List Frame → Array Value → State → State → Prop} {kc ks : Nat} (hn : 89 ≤ n) (hF : q_FF F) (hp : 92 ≤ n) (hP : q_FP F)  : ∀ (k : Nat) (y1 : Int32) (y2 : Int32) (y3 : Int32) (y4 : Int32) (y5 : Int32) (y7 : Int32) (y8 : Int32) (y9 : Int32) (m : q_Mm) {r : Int32 × Int32}, l_X4_weigh_71 k y1 y2 y3 y4 y5 y7 y8 y9 m = some r → (q_V g mX4_weigh q_T Z kc ks 131 [(0, q_r g 89), (1, .int y1), (2, .int y2), (5, .int y5), (7, .int r.1), (8, .int r.2)] [] (q_mk n F m)) → q_V g mX4_weigh q_T Z kc ks 71 [(0, q_r g 89), (1, .int y1), (2, .int y2), (3, .int y3), (4, .int y4), (5, .int y5), (7, .int y7), (8, .int y8), (9, .int y9)] [] (q_mk n F m) := by
  intro k
  induction k with
  | zero => intro y1 y2 y3 y4 y5 y7 y8 y9 m r h; cases h
  | succ k ih =>
    intro y1 y2 y3 y4 y5 y7 y8 y9 m r h hx0
    unfold l_X4_weigh_71 at h
    refine q_iload dX4_weigh_71 rfl ?_
    refine q_gets (i := 2) dX4_weigh_73 (by decide) fX4_87 ?_
    refine q_slen (i := 2) (v := 9) dX4_weigh_76 (by decide) (by decide) ?_
    refine q_icmp_ge 131 dX4_weigh_77 (by decide) (fun hc => ?_) (fun hc => ?_)
    · have h := q_it hc h
      refine q_drop [0, 1, 2, 5, 7, 8] (ls' := [(0, _), (1, _), (2, _), (5, _), (7, _), (8, _)]) rfl ?_
      cases h
      exact hx0
    · have h := q_if hc h
      refine q_iload_n dX4_weigh_80 rfl ?_
      refine q_if_le 131 dX4_weigh_81 (by decide) (fun hc => ?_) (fun hc => ?_)
      · have h := q_it hc h
        refine q_drop [0, 1, 2, 5, 7, 8] (ls' := [(0, _), (1, _), (2, _), (5, _), (7, _), (8, _)]) rfl ?_
        cases h
        exact hx0
      · have h := q_if hc h
        refine q_aload_n dX4_weigh_84 rfl ?_
        refine q_iload_n dX4_weigh_85 rfl ?_
        refine q_iconst (v := 1) dX4_weigh_86 (by decide) ?_
        refine q_isub dX4_weigh_87 ?_
        refine q_iload_n dX4_weigh_88 rfl ?_
        refine q_gets (i := 2) dX4_weigh_89 (by decide) fX4_87 ?_
        refine q_iload dX4_weigh_92 rfl ?_
        obtain ⟨hi6, h⟩ := q_is h
        refine q_sald (i := 2) dX4_weigh_94 (by decide) (q_in_vp hi6) ?_
        refine q_iadd dX4_weigh_95 ?_
        refine q_iload dX4_weigh_96 rfl ?_
        refine q_gets (i := 3) dX4_weigh_98 (by decide) fX4_90 ?_
        refine q_iload dX4_weigh_101 rfl ?_
        obtain ⟨hi7, h⟩ := q_is h
        refine q_sald (i := 3) dX4_weigh_103 (by decide) (q_in_vp hi7) ?_
        refine q_iadd dX4_weigh_104 ?_
        obtain ⟨r8, hr9, h⟩ := q_bd h
        refine c_V1 (as := [_, _, _]) (st := []) (ci := 4) dX4_weigh_105 okX4_worthOfGoing lX4_93 ⟨rfl, rfl⟩ ⟨Nat.le_of_ble_eq_true rfl, Nat.le_of_ble_eq_true rfl⟩ (by decide) rfl rfl (Nat.lt_of_lt_of_le (Nat.le_of_ble_eq_true rfl) hp) rfl rfl (Nat.le_of_ble_eq_true rfl) (Nat.le_of_ble_eq_true rfl) (t_X4_worthOfGoing hn hF hp hP  hr9) ?_
        refine q_istore (ls' := [(0, _), (1, _), (2, _), (3, _), (4, _), (5, _), (7, _), (8, _), (9, _), (10, _)]) [0, 1, 2, 3, 4, 5, 7, 8, 9, 10] dX4_weigh_108 (Nat.le_of_ble_eq_true rfl) rfl ?_
        refine q_iload dX4_weigh_110 rfl ?_
        refine q_iload dX4_weigh_112 rfl ?_
        refine q_icmp_ge 125 dX4_weigh_114 (by decide) (fun hc => ?_) (fun hc => ?_)
        · have h := q_it hc h
          refine q_iinc1 (w := 1) (ls' := [(0, _), (1, _), (2, _), (3, _), (4, _), (5, _), (7, _), (8, _), (9, _)]) [0, 1, 2, 3, 4, 5, 7, 8, 9] dX4_weigh_125 rfl (by decide) (Nat.le_of_ble_eq_true rfl) rfl ?_
          refine q_goto 71 dX4_weigh_128 (by decide) ?_
          exact ih _ _ _ _ _ _ _ _ _ h hx0
        · have h := q_if hc h
          refine q_iload dX4_weigh_117 rfl ?_
          refine q_istore (ls' := [(0, _), (1, _), (2, _), (3, _), (4, _), (5, _), (7, _), (9, _)]) [0, 1, 2, 3, 4, 5, 7, 9] dX4_weigh_119 (Nat.le_of_ble_eq_true rfl) rfl ?_
          refine q_iload dX4_weigh_121 rfl ?_
          refine q_istore (ls' := [(0, _), (1, _), (2, _), (3, _), (4, _), (5, _), (7, _), (8, _), (9, _)]) [0, 1, 2, 3, 4, 5, 7, 8, 9] dX4_weigh_123 (Nat.le_of_ble_eq_true rfl) rfl ?_
          refine q_iinc1 (w := 1) (ls' := [(0, _), (1, _), (2, _), (3, _), (4, _), (5, _), (7, _), (8, _), (9, _)]) [0, 1, 2, 3, 4, 5, 7, 8, 9] dX4_weigh_125 rfl (by decide) (Nat.le_of_ble_eq_true rfl) rfl ?_
          refine q_goto 71 dX4_weigh_128 (by decide) ?_
          exact ih _ _ _ _ _ _ _ _ _ h hx0
def f_X4_weigh (x1 : Int32) (x2 : Int32) (x3 : Int32) (x4 : Int32) (m : q_Mm) : Option (Int32 × q_Mm) :=
  if q_in ((12 * x4) + x3) 144 = true then
  if (m.1 33 ((12 * x4) + x3).toNatClampNeg) = (-1) then
    some ((536870912, m))
  else
    (f_X4_isApart ((12 * x4) + x3) (f_X4_dayOf x1 x2 m) m).bind fun r2 =>
    if r2 = 0 then
      some ((536870912, m))
    else
      if (f_X4_endsAt ((12 * x4) + x3) (f_X4_dayOf x1 x2 m) m) = 0 then
        (f_X4_worthOfStaying x1 x2 ((12 * x4) + x3) m).bind fun r4 =>
        (l_X4_weigh_71 7000  x1 x2 x3 x4 ((12 * x4) + x3) r4 0 1 m).bind fun r10 =>
        (f_X4_keepMove x1 x2 ((12 * x4) + x3) r10.2 m).bind fun r12 =>
        some ((r10.1, r12))
      else
        some ((0, m))
  else none
set_option maxRecDepth 100000 in
set_option maxHeartbeats 4000000 in
theorem t_X4_weigh {g : q_G} {n : Nat} {F : Nat → Nat → Option Nat} (hn : 89 ≤ n) (hF : q_FF F) (hp : 92 ≤ n) (hP : q_FP F)  {x1 : Int32} {x2 : Int32} {x3 : Int32} {x4 : Int32} {m : q_Mm} {r : Int32 × q_Mm} (h : f_X4_weigh x1 x2 x3 x4 m = some r) : q_Cn g mX4_weigh [q_r g 89, .int x1, .int x2, .int x3, .int x4] (q_mk n F m) (q_Q (some (.int r.1)) (q_mk n F r.2)) := by
  unfold f_X4_weigh at h
  show q_V g mX4_weigh q_T _ _ _ 0 [(0, q_r g 89), (1, .int x1), (2, .int x2), (3, .int x3), (4, .int x4)] [] (q_mk n F m)
  refine q_bipush (v := 12) dX4_weigh_0 (by decide) ?_
  refine q_iload dX4_weigh_2 rfl ?_
  refine q_imul dX4_weigh_4 ?_
  refine q_iload_n dX4_weigh_5 rfl ?_
  refine q_iadd dX4_weigh_6 ?_
  refine q_istore (ls' := [(0, _), (1, _), (2, _), (3, _), (4, _), (5, _)]) [0, 1, 2, 3, 4, 5] dX4_weigh_7 (Nat.le_of_ble_eq_true rfl) rfl ?_
  refine q_aload_n dX4_weigh_9 rfl ?_
  refine q_iload_n dX4_weigh_10 rfl ?_
  refine q_iload_n dX4_weigh_11 rfl ?_
  refine c_V1 (as := [_, _]) (st := []) (ci := 4) dX4_weigh_12 okX4_dayOf lX4_77 ⟨rfl, rfl⟩ ⟨Nat.le_of_ble_eq_true rfl, Nat.le_of_ble_eq_true rfl⟩ (by decide) rfl rfl (Nat.lt_of_lt_of_le (Nat.le_of_ble_eq_true rfl) hp) rfl rfl (Nat.le_of_ble_eq_true rfl) (Nat.le_of_ble_eq_true rfl) (t_X4_dayOf hn hF hp hP  rfl) ?_
  refine q_istore (ls' := [(0, _), (1, _), (2, _), (3, _), (4, _), (5, _), (6, _)]) [0, 1, 2, 3, 4, 5, 6] dX4_weigh_15 (Nat.le_of_ble_eq_true rfl) rfl ?_
  refine q_aload_n dX4_weigh_17 rfl ?_
  refine u_getr dX4_weigh_18 fX4_42 rfl rfl (Nat.lt_of_lt_of_le (Nat.le_of_ble_eq_true rfl) hp) (hP 89 0 33 rfl) ?_
  refine q_iload dX4_weigh_21 rfl ?_
  obtain ⟨hi1, h⟩ := q_is h
  refine u_iald dX4_weigh_23 rfl (Nat.lt_of_lt_of_le (Nat.le_of_ble_eq_true rfl) hn) (q_in_vp hi1) ?_
  refine q_iconst (v := (-1)) dX4_weigh_24 (by decide) ?_
  refine q_icmp_eq 39 dX4_weigh_25 (by decide) (fun hc => ?_) (fun hc => ?_)
  · have h := q_it hc h
    refine q_ldc dX4_weigh_39 kX4_38 ?_
    cases h
    exact q_iret dX4_weigh_41 rfl ⟨rfl, rfl⟩
  · have h := q_if hc h
    refine q_aload_n dX4_weigh_28 rfl ?_
    refine q_iload dX4_weigh_29 rfl ?_
    refine q_iload dX4_weigh_31 rfl ?_
    obtain ⟨r2, hr3, h⟩ := q_bd h
    refine c_V1 (as := [_, _]) (st := []) (ci := 4) dX4_weigh_33 okX4_isApart lX4_59 ⟨rfl, rfl⟩ ⟨Nat.le_of_ble_eq_true rfl, Nat.le_of_ble_eq_true rfl⟩ (by decide) rfl rfl (Nat.lt_of_lt_of_le (Nat.le_of_ble_eq_true rfl) hp) rfl rfl (Nat.le_of_ble_eq_true rfl) (Nat.le_of_ble_eq_true rfl) (t_X4_isApart hn hF hp hP  hr3) ?_
    refine q_if_ne 42 dX4_weigh_36 (by decide) (fun hc => ?_) (fun hc => ?_)
    · have h := q_if hc h
      refine q_aload_n dX4_weigh_42 rfl ?_
      refine q_iload dX4_weigh_43 rfl ?_
      refine q_iload dX4_weigh_45 rfl ?_
      refine c_V1 (as := [_, _]) (st := []) (ci := 4) dX4_weigh_47 okX4_endsAt lX4_80 ⟨rfl, rfl⟩ ⟨Nat.le_of_ble_eq_true rfl, Nat.le_of_ble_eq_true rfl⟩ (by decide) rfl rfl (Nat.lt_of_lt_of_le (Nat.le_of_ble_eq_true rfl) hp) rfl rfl (Nat.le_of_ble_eq_true rfl) (Nat.le_of_ble_eq_true rfl) (t_X4_endsAt hn hF hp hP  rfl) ?_
      refine q_if_eq 55 dX4_weigh_50 (by decide) (fun hc => ?_) (fun hc => ?_)
      · have h := q_it hc h
        refine q_aload_n dX4_weigh_55 rfl ?_
        refine q_iload_n dX4_weigh_56 rfl ?_
        refine q_iload_n dX4_weigh_57 rfl ?_
        refine q_iload dX4_weigh_58 rfl ?_
        obtain ⟨r4, hr5, h⟩ := q_bd h
        refine c_V1 (as := [_, _, _]) (st := []) (ci := 4) dX4_weigh_60 okX4_worthOfStaying lX4_83 ⟨rfl, rfl⟩ ⟨Nat.le_of_ble_eq_true rfl, Nat.le_of_ble_eq_true rfl⟩ (by decide) rfl rfl (Nat.lt_of_lt_of_le (Nat.le_of_ble_eq_true rfl) hp) rfl rfl (Nat.le_of_ble_eq_true rfl) (Nat.le_of_ble_eq_true rfl) (t_X4_worthOfStaying hn hF hp hP  hr5) ?_
        refine q_istore (ls' := [(0, _), (1, _), (2, _), (3, _), (4, _), (5, _), (7, _)]) [0, 1, 2, 3, 4, 5, 7] dX4_weigh_63 (Nat.le_of_ble_eq_true rfl) rfl ?_
        refine q_iconst (v := 0) dX4_weigh_65 (by decide) ?_
        refine q_istore (ls' := [(0, _), (1, _), (2, _), (3, _), (4, _), (5, _), (7, _), (8, _)]) [0, 1, 2, 3, 4, 5, 7, 8] dX4_weigh_66 (Nat.le_of_ble_eq_true rfl) rfl ?_
        refine q_iconst (v := 1) dX4_weigh_68 (by decide) ?_
        refine q_istore (ls' := [(0, _), (1, _), (2, _), (3, _), (4, _), (5, _), (7, _), (8, _), (9, _)]) [0, 1, 2, 3, 4, 5, 7, 8, 9] dX4_weigh_69 (Nat.le_of_ble_eq_true rfl) rfl ?_
        obtain ⟨r10, hr11, h⟩ := q_bd h
        refine t_l_X4_weigh_71 hn hF hp hP  7000 _ _ _ _ _ _ _ _ _ hr11 ?_
        refine q_aload_n dX4_weigh_131 rfl ?_
        refine q_iload_n dX4_weigh_132 rfl ?_
        refine q_iload_n dX4_weigh_133 rfl ?_
        refine q_iload dX4_weigh_134 rfl ?_
        refine q_iload dX4_weigh_136 rfl ?_
        obtain ⟨r12, hr13, h⟩ := q_bd h
        refine c_V0 (as := [_, _, _, _]) (st := []) (ci := 4) dX4_weigh_138 okX4_keepMove lX4_96 ⟨rfl, rfl⟩ ⟨Nat.le_of_ble_eq_true rfl, Nat.le_of_ble_eq_true rfl⟩ (by decide) rfl rfl (Nat.lt_of_lt_of_le (Nat.le_of_ble_eq_true rfl) hp) rfl rfl (Nat.le_of_ble_eq_true rfl) (Nat.le_of_ble_eq_true rfl) (t_X4_keepMove hn hF hp hP  hr13) ?_
        refine q_iload dX4_weigh_141 rfl ?_
        cases h
        exact q_iret dX4_weigh_143 rfl ⟨rfl, rfl⟩
      · have h := q_if hc h
        refine q_iconst (v := 0) dX4_weigh_53 (by decide) ?_
        cases h
        exact q_iret dX4_weigh_54 rfl ⟨rfl, rfl⟩
    · have h := q_it hc h
      refine q_ldc dX4_weigh_39 kX4_38 ?_
      cases h
      exact q_iret dX4_weigh_41 rfl ⟨rfl, rfl⟩
