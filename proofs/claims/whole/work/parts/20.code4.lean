def f_X6_add (x1 : Int32) (x2 : Int32) (x3 : Int32) (m : q_Mm) : Option (q_Mm) :=
  if q_in (m.1 28 3) 10 = true then
  if q_in ((q_wi m 29 ((m.1 28 3).toNatClampNeg) x1).1 28 3) 10 = true then
  if q_in ((q_wi (q_wi m 29 ((m.1 28 3).toNatClampNeg) x1) 30 (((q_wi m 29 ((m.1 28 3).toNatClampNeg) x1).1 28 3).toNatClampNeg) x2).1 28 3) 10 = true then
  some (q_wi (q_wi (q_wi (q_wi m 29 ((m.1 28 3).toNatClampNeg) x1) 30 (((q_wi m 29 ((m.1 28 3).toNatClampNeg) x1).1 28 3).toNatClampNeg) x2) 31 (((q_wi (q_wi m 29 ((m.1 28 3).toNatClampNeg) x1) 30 (((q_wi m 29 ((m.1 28 3).toNatClampNeg) x1).1 28 3).toNatClampNeg) x2).1 28 3).toNatClampNeg) x3) 28 3 (((q_wi (q_wi (q_wi m 29 ((m.1 28 3).toNatClampNeg) x1) 30 (((q_wi m 29 ((m.1 28 3).toNatClampNeg) x1).1 28 3).toNatClampNeg) x2) 31 (((q_wi (q_wi m 29 ((m.1 28 3).toNatClampNeg) x1) 30 (((q_wi m 29 ((m.1 28 3).toNatClampNeg) x1).1 28 3).toNatClampNeg) x2).1 28 3).toNatClampNeg) x3).1 28 3) + 1))
  else none
  else none
  else none
set_option maxRecDepth 100000 in
set_option maxHeartbeats 4000000 in
theorem t_X6_add {g : q_G} {n : Nat} {F : Nat → Nat → Option Nat} (hn : 89 ≤ n) (hF : q_FF F)  {x1 : Int32} {x2 : Int32} {x3 : Int32} {m : q_Mm} {r : q_Mm} (h : f_X6_add x1 x2 x3 m = some r) : q_Cn g mX6_add [q_r g 28, .int x1, .int x2, .int x3] (q_mk n F m) (q_Q none (q_mk n F r)) := by
  unfold f_X6_add at h
  show q_V g mX6_add q_T _ _ _ 0 [(0, q_r g 28), (1, .int x1), (2, .int x2), (3, .int x3)] [] (q_mk n F m)
  refine q_aload_n dX6_add_0 rfl ?_
  refine u_getr dX6_add_1 fX6_9 rfl rfl (Nat.lt_of_lt_of_le (Nat.le_of_ble_eq_true rfl) hn) (hF 28 0 29 rfl) ?_
  refine q_aload_n dX6_add_4 rfl ?_
  refine u_geti dX6_add_5 fX6_21 rfl rfl (Nat.lt_of_lt_of_le (Nat.le_of_ble_eq_true rfl) hn) ?_
  refine q_iload_n dX6_add_8 rfl ?_
  obtain ⟨hi1, h⟩ := q_is h
  refine u_iast dX6_add_9 rfl (Nat.lt_of_lt_of_le (Nat.le_of_ble_eq_true rfl) hn) (q_in_vp hi1) ?_
  refine q_aload_n dX6_add_10 rfl ?_
  refine u_getr dX6_add_11 fX6_15 rfl rfl (Nat.lt_of_lt_of_le (Nat.le_of_ble_eq_true rfl) hn) (hF 28 1 30 rfl) ?_
  refine q_aload_n dX6_add_14 rfl ?_
  refine u_geti dX6_add_15 fX6_21 rfl rfl (Nat.lt_of_lt_of_le (Nat.le_of_ble_eq_true rfl) hn) ?_
  refine q_iload_n dX6_add_18 rfl ?_
  obtain ⟨hi2, h⟩ := q_is h
  refine u_iast dX6_add_19 rfl (Nat.lt_of_lt_of_le (Nat.le_of_ble_eq_true rfl) hn) (q_in_vp hi2) ?_
  refine q_aload_n dX6_add_20 rfl ?_
  refine u_getr dX6_add_21 fX6_18 rfl rfl (Nat.lt_of_lt_of_le (Nat.le_of_ble_eq_true rfl) hn) (hF 28 2 31 rfl) ?_
  refine q_aload_n dX6_add_24 rfl ?_
  refine u_geti dX6_add_25 fX6_21 rfl rfl (Nat.lt_of_lt_of_le (Nat.le_of_ble_eq_true rfl) hn) ?_
  refine q_iload_n dX6_add_28 rfl ?_
  obtain ⟨hi3, h⟩ := q_is h
  refine u_iast dX6_add_29 rfl (Nat.lt_of_lt_of_le (Nat.le_of_ble_eq_true rfl) hn) (q_in_vp hi3) ?_
  refine q_aload_n dX6_add_30 rfl ?_
  refine q_dup dX6_add_31 rfl ?_
  refine u_geti dX6_add_32 fX6_21 rfl rfl (Nat.lt_of_lt_of_le (Nat.le_of_ble_eq_true rfl) hn) ?_
  refine q_iconst (v := 1) dX6_add_35 (by decide) ?_
  refine q_iadd dX6_add_36 ?_
  refine u_puti dX6_add_37 fX6_21 rfl rfl (Nat.lt_of_lt_of_le (Nat.le_of_ble_eq_true rfl) hn) rfl rfl rfl ?_
  cases h
  exact q_vret dX6_add_40 rfl ⟨rfl, rfl⟩
def l_X6_watchPoint_5 : Nat → Int32 → Int32 → Int32 → Int32 → q_Mm → Option (Int32)
  | 0, _, _, _, _, _ => none
  | k + 1, y1, y2, y3, y4, m =>
    if (m.1 28 3) ≤ y4 then
      some (y3)
    else
      if q_in y4 10 = true then
      if q_in y4 10 = true then
      if q_in y4 10 = true then
      if q_in y4 10 = true then
      if (((m.1 31 y4.toNatClampNeg).toInt64) * ((m.1 31 y4.toNatClampNeg).toInt64)) < (f_X9_squareOf ((y1 - (m.1 29 y4.toNatClampNeg)).toInt64) ((y2 - (m.1 30 y4.toNatClampNeg)).toInt64) m) then
        l_X6_watchPoint_5 k  y1 y2 y3 (y4 + 1) m
      else
        l_X6_watchPoint_5 k  y1 y2 (y3 ||| ((1 : Int32) <<< (y4 &&& 31))) (y4 + 1) m
      else none
      else none
      else none
      else none
set_option maxRecDepth 100000 in
set_option maxHeartbeats 4000000 in
theorem t_l_X6_watchPoint_5 {g : q_G} {n : Nat} {F : Nat → Nat → Option Nat} {Z : List Frame → Array Value → State → State → Prop} {kc ks : Nat} (hn : 89 ≤ n) (hF : q_FF F)  : ∀ (k : Nat) (y1 : Int32) (y2 : Int32) (y3 : Int32) (y4 : Int32) (m : q_Mm) {r : Int32}, l_X6_watchPoint_5 k y1 y2 y3 y4 m = some r → (q_V g mX6_watchPoint q_T Z kc ks 71 [(0, q_r g 28), (3, .int r)] [] (q_mk n F m)) → q_V g mX6_watchPoint q_T Z kc ks 5 [(0, q_r g 28), (1, .int y1), (2, .int y2), (3, .int y3), (4, .int y4)] [] (q_mk n F m) := by
  intro k
  induction k with
  | zero => intro y1 y2 y3 y4 m r h; cases h
  | succ k ih =>
    intro y1 y2 y3 y4 m r h hx0
    unfold l_X6_watchPoint_5 at h
    refine q_iload dX6_watchPoint_5 rfl ?_
    refine q_aload_n dX6_watchPoint_7 rfl ?_
    refine u_geti dX6_watchPoint_8 fX6_21 rfl rfl (Nat.lt_of_lt_of_le (Nat.le_of_ble_eq_true rfl) hn) ?_
    refine q_icmp_ge 71 dX6_watchPoint_11 (by decide) (fun hc => ?_) (fun hc => ?_)
    · have h := q_it hc h
      refine q_drop [0, 3] (ls' := [(0, _), (3, _)]) rfl ?_
      cases h
      exact hx0
    · have h := q_if hc h
      refine q_iload_n dX6_watchPoint_14 rfl ?_
      refine q_aload_n dX6_watchPoint_15 rfl ?_
      refine u_getr dX6_watchPoint_16 fX6_9 rfl rfl (Nat.lt_of_lt_of_le (Nat.le_of_ble_eq_true rfl) hn) (hF 28 0 29 rfl) ?_
      refine q_iload dX6_watchPoint_19 rfl ?_
      obtain ⟨hi1, h⟩ := q_is h
      refine u_iald dX6_watchPoint_21 rfl (Nat.lt_of_lt_of_le (Nat.le_of_ble_eq_true rfl) hn) (q_in_vp hi1) ?_
      refine q_isub dX6_watchPoint_22 ?_
      refine q_i2l dX6_watchPoint_23 ?_
      refine q_iload_n dX6_watchPoint_24 rfl ?_
      refine q_aload_n dX6_watchPoint_25 rfl ?_
      refine u_getr dX6_watchPoint_26 fX6_15 rfl rfl (Nat.lt_of_lt_of_le (Nat.le_of_ble_eq_true rfl) hn) (hF 28 1 30 rfl) ?_
      refine q_iload dX6_watchPoint_29 rfl ?_
      obtain ⟨hi2, h⟩ := q_is h
      refine u_iald dX6_watchPoint_31 rfl (Nat.lt_of_lt_of_le (Nat.le_of_ble_eq_true rfl) hn) (q_in_vp hi2) ?_
      refine q_isub dX6_watchPoint_32 ?_
      refine q_i2l dX6_watchPoint_33 ?_
      refine c_SN1 (as := [_, _]) (st := []) dX6_watchPoint_34 okX9_squareOf lX6_35 ⟨rfl, rfl⟩ ⟨Nat.le_of_ble_eq_true rfl, Nat.le_of_ble_eq_true rfl⟩ rfl rfl (Nat.le_of_ble_eq_true rfl) (Nat.le_of_ble_eq_true rfl) (t_X9_squareOf hn hF  rfl) ?_
      refine q_aload_n dX6_watchPoint_37 rfl ?_
      refine u_getr dX6_watchPoint_38 fX6_18 rfl rfl (Nat.lt_of_lt_of_le (Nat.le_of_ble_eq_true rfl) hn) (hF 28 2 31 rfl) ?_
      refine q_iload dX6_watchPoint_41 rfl ?_
      obtain ⟨hi3, h⟩ := q_is h
      refine u_iald dX6_watchPoint_43 rfl (Nat.lt_of_lt_of_le (Nat.le_of_ble_eq_true rfl) hn) (q_in_vp hi3) ?_
      refine q_i2l dX6_watchPoint_44 ?_
      refine q_aload_n dX6_watchPoint_45 rfl ?_
      refine u_getr dX6_watchPoint_46 fX6_18 rfl rfl (Nat.lt_of_lt_of_le (Nat.le_of_ble_eq_true rfl) hn) (hF 28 2 31 rfl) ?_
      refine q_iload dX6_watchPoint_49 rfl ?_
      obtain ⟨hi4, h⟩ := q_is h
      refine u_iald dX6_watchPoint_51 rfl (Nat.lt_of_lt_of_le (Nat.le_of_ble_eq_true rfl) hn) (q_in_vp hi4) ?_
      refine q_i2l dX6_watchPoint_52 ?_
      refine q_lmul dX6_watchPoint_53 ?_
      refine q_lcmp_gt 65 dX6_watchPoint_54 dX6_watchPoint_55 (by decide) (fun hc => ?_) (fun hc => ?_)
      · have h := q_it hc h
        refine q_iinc1 (w := 1) (ls' := [(0, _), (1, _), (2, _), (3, _), (4, _)]) [0, 1, 2, 3, 4] dX6_watchPoint_65 rfl (by decide) (Nat.le_of_ble_eq_true rfl) rfl ?_
        refine q_goto 5 dX6_watchPoint_68 (by decide) ?_
        exact ih _ _ _ _ _ h hx0
      · have h := q_if hc h
        refine q_iload_n dX6_watchPoint_58 rfl ?_
        refine q_iconst (v := 1) dX6_watchPoint_59 (by decide) ?_
        refine q_iload dX6_watchPoint_60 rfl ?_
        refine q_ishl dX6_watchPoint_62 ?_
        refine q_ior dX6_watchPoint_63 ?_
        refine q_istore_n (ls' := [(0, _), (1, _), (2, _), (3, _), (4, _)]) [0, 1, 2, 3, 4] dX6_watchPoint_64 (Nat.le_of_ble_eq_true rfl) rfl ?_
        refine q_iinc1 (w := 1) (ls' := [(0, _), (1, _), (2, _), (3, _), (4, _)]) [0, 1, 2, 3, 4] dX6_watchPoint_65 rfl (by decide) (Nat.le_of_ble_eq_true rfl) rfl ?_
        refine q_goto 5 dX6_watchPoint_68 (by decide) ?_
        exact ih _ _ _ _ _ h hx0
def f_X6_watchPoint (x1 : Int32) (x2 : Int32) (m : q_Mm) : Option (q_Mm) :=
  (l_X6_watchPoint_5 7000  x1 x2 0 0 m).bind fun r5 =>
  if q_in (m.1 28 5) 400 = true then
  some (q_wi (q_wi m 32 ((m.1 28 5).toNatClampNeg) r5) 28 5 (((q_wi m 32 ((m.1 28 5).toNatClampNeg) r5).1 28 5) + 1))
  else none
set_option maxRecDepth 100000 in
set_option maxHeartbeats 4000000 in
theorem t_X6_watchPoint {g : q_G} {n : Nat} {F : Nat → Nat → Option Nat} (hn : 89 ≤ n) (hF : q_FF F)  {x1 : Int32} {x2 : Int32} {m : q_Mm} {r : q_Mm} (h : f_X6_watchPoint x1 x2 m = some r) : q_Cn g mX6_watchPoint [q_r g 28, .int x1, .int x2] (q_mk n F m) (q_Q none (q_mk n F r)) := by
  unfold f_X6_watchPoint at h
  show q_V g mX6_watchPoint q_T _ _ _ 0 [(0, q_r g 28), (1, .int x1), (2, .int x2)] [] (q_mk n F m)
  refine q_iconst (v := 0) dX6_watchPoint_0 (by decide) ?_
  refine q_istore_n (ls' := [(0, _), (1, _), (2, _), (3, _)]) [0, 1, 2, 3] dX6_watchPoint_1 (Nat.le_of_ble_eq_true rfl) rfl ?_
  refine q_iconst (v := 0) dX6_watchPoint_2 (by decide) ?_
  refine q_istore (ls' := [(0, _), (1, _), (2, _), (3, _), (4, _)]) [0, 1, 2, 3, 4] dX6_watchPoint_3 (Nat.le_of_ble_eq_true rfl) rfl ?_
  obtain ⟨r5, hr6, h⟩ := q_bd h
  refine t_l_X6_watchPoint_5 hn hF  7000 _ _ _ _ _ hr6 ?_
  refine q_aload_n dX6_watchPoint_71 rfl ?_
  refine u_getr dX6_watchPoint_72 fX6_25 rfl rfl (Nat.lt_of_lt_of_le (Nat.le_of_ble_eq_true rfl) hn) (hF 28 4 32 rfl) ?_
  refine q_aload_n dX6_watchPoint_75 rfl ?_
  refine u_geti dX6_watchPoint_76 fX6_28 rfl rfl (Nat.lt_of_lt_of_le (Nat.le_of_ble_eq_true rfl) hn) ?_
  refine q_iload_n dX6_watchPoint_79 rfl ?_
  obtain ⟨hi7, h⟩ := q_is h
  refine u_iast dX6_watchPoint_80 rfl (Nat.lt_of_lt_of_le (Nat.le_of_ble_eq_true rfl) hn) (q_in_vp hi7) ?_
  refine q_aload_n dX6_watchPoint_81 rfl ?_
  refine q_dup dX6_watchPoint_82 rfl ?_
  refine u_geti dX6_watchPoint_83 fX6_28 rfl rfl (Nat.lt_of_lt_of_le (Nat.le_of_ble_eq_true rfl) hn) ?_
  refine q_iconst (v := 1) dX6_watchPoint_86 (by decide) ?_
  refine q_iadd dX6_watchPoint_87 ?_
  refine u_puti dX6_watchPoint_88 fX6_28 rfl rfl (Nat.lt_of_lt_of_le (Nat.le_of_ble_eq_true rfl) hn) rfl rfl rfl ?_
  cases h
  exact q_vret dX6_watchPoint_91 rfl ⟨rfl, rfl⟩
def l_X6_watchRing_8 : Nat → Int32 → Int32 → q_Mm → Option (q_Mm)
  | 0, _, _, _ => none
  | k + 1, y1, y2, m =>
    if y1 ≤ y2 then
      some (m)
    else
      (f_X6_watchPoint y2 (-y1) m).bind fun r1 =>
      (f_X6_watchPoint y1 y2 r1).bind fun r3 =>
      (f_X6_watchPoint (-y2) y1 r3).bind fun r5 =>
      (f_X6_watchPoint (-y1) (-y2) r5).bind fun r7 =>
      l_X6_watchRing_8 k  y1 (y2 + 1) r7
set_option maxRecDepth 100000 in
set_option maxHeartbeats 4000000 in
theorem t_l_X6_watchRing_8 {g : q_G} {n : Nat} {F : Nat → Nat → Option Nat} {Z : List Frame → Array Value → State → State → Prop} {kc ks : Nat} (hn : 89 ≤ n) (hF : q_FF F)  : ∀ (k : Nat) (y1 : Int32) (y2 : Int32) (m : q_Mm) {r : q_Mm}, l_X6_watchRing_8 k y1 y2 m = some r → (q_V g mX6_watchRing q_T Z kc ks 47 [] [] (q_mk n F r)) → q_V g mX6_watchRing q_T Z kc ks 8 [(0, q_r g 28), (1, .int y1), (2, .int y2)] [] (q_mk n F m) := by
  intro k
  induction k with
  | zero => intro y1 y2 m r h; cases h
  | succ k ih =>
    intro y1 y2 m r h hx0
    unfold l_X6_watchRing_8 at h
    refine q_iload_n dX6_watchRing_8 rfl ?_
    refine q_iload_n dX6_watchRing_9 rfl ?_
    refine q_icmp_ge 47 dX6_watchRing_10 (by decide) (fun hc => ?_) (fun hc => ?_)
    · have h := q_it hc h
      refine q_drop [] (ls' := []) rfl ?_
      cases h
      exact hx0
    · have h := q_if hc h
      refine q_aload_n dX6_watchRing_13 rfl ?_
      refine q_iload_n dX6_watchRing_14 rfl ?_
      refine q_iload_n dX6_watchRing_15 rfl ?_
      refine q_ineg dX6_watchRing_16 ?_
      obtain ⟨r1, hr2, h⟩ := q_bd h
      refine c_V0 (as := [_, _]) (st := []) (ci := 6) dX6_watchRing_17 okX6_watchPoint lX6_31 ⟨rfl, rfl⟩ ⟨Nat.le_of_ble_eq_true rfl, Nat.le_of_ble_eq_true rfl⟩ (by decide) rfl rfl (Nat.lt_of_lt_of_le (Nat.le_of_ble_eq_true rfl) hn) rfl rfl (Nat.le_of_ble_eq_true rfl) (Nat.le_of_ble_eq_true rfl) (t_X6_watchPoint hn hF  hr2) ?_
      refine q_aload_n dX6_watchRing_20 rfl ?_
      refine q_iload_n dX6_watchRing_21 rfl ?_
      refine q_iload_n dX6_watchRing_22 rfl ?_
      obtain ⟨r3, hr4, h⟩ := q_bd h
      refine c_V0 (as := [_, _]) (st := []) (ci := 6) dX6_watchRing_23 okX6_watchPoint lX6_31 ⟨rfl, rfl⟩ ⟨Nat.le_of_ble_eq_true rfl, Nat.le_of_ble_eq_true rfl⟩ (by decide) rfl rfl (Nat.lt_of_lt_of_le (Nat.le_of_ble_eq_true rfl) hn) rfl rfl (Nat.le_of_ble_eq_true rfl) (Nat.le_of_ble_eq_true rfl) (t_X6_watchPoint hn hF  hr4) ?_
      refine q_aload_n dX6_watchRing_26 rfl ?_
      refine q_iload_n dX6_watchRing_27 rfl ?_
      refine q_ineg dX6_watchRing_28 ?_
      refine q_iload_n dX6_watchRing_29 rfl ?_
      obtain ⟨r5, hr6, h⟩ := q_bd h
      refine c_V0 (as := [_, _]) (st := []) (ci := 6) dX6_watchRing_30 okX6_watchPoint lX6_31 ⟨rfl, rfl⟩ ⟨Nat.le_of_ble_eq_true rfl, Nat.le_of_ble_eq_true rfl⟩ (by decide) rfl rfl (Nat.lt_of_lt_of_le (Nat.le_of_ble_eq_true rfl) hn) rfl rfl (Nat.le_of_ble_eq_true rfl) (Nat.le_of_ble_eq_true rfl) (t_X6_watchPoint hn hF  hr6) ?_
      refine q_aload_n dX6_watchRing_33 rfl ?_
      refine q_iload_n dX6_watchRing_34 rfl ?_
      refine q_ineg dX6_watchRing_35 ?_
      refine q_iload_n dX6_watchRing_36 rfl ?_
      refine q_ineg dX6_watchRing_37 ?_
      obtain ⟨r7, hr8, h⟩ := q_bd h
      refine c_V0 (as := [_, _]) (st := []) (ci := 6) dX6_watchRing_38 okX6_watchPoint lX6_31 ⟨rfl, rfl⟩ ⟨Nat.le_of_ble_eq_true rfl, Nat.le_of_ble_eq_true rfl⟩ (by decide) rfl rfl (Nat.lt_of_lt_of_le (Nat.le_of_ble_eq_true rfl) hn) rfl rfl (Nat.le_of_ble_eq_true rfl) (Nat.le_of_ble_eq_true rfl) (t_X6_watchPoint hn hF  hr8) ?_
      refine q_iinc1 (w := 1) (ls' := [(0, _), (1, _), (2, _)]) [0, 1, 2] dX6_watchRing_41 rfl (by decide) (Nat.le_of_ble_eq_true rfl) rfl ?_
      refine q_goto 8 dX6_watchRing_44 (by decide) ?_
      exact ih _ _ _ h hx0
def f_X6_watchRing (x1 : Int32) (m : q_Mm) : Option (q_Mm) :=
  (l_X6_watchRing_8 7000  x1 (-x1) (q_wi m 28 5 0)).bind fun r9 =>
  some (r9)
set_option maxRecDepth 100000 in
set_option maxHeartbeats 4000000 in
theorem t_X6_watchRing {g : q_G} {n : Nat} {F : Nat → Nat → Option Nat} (hn : 89 ≤ n) (hF : q_FF F)  {x1 : Int32} {m : q_Mm} {r : q_Mm} (h : f_X6_watchRing x1 m = some r) : q_Cn g mX6_watchRing [q_r g 28, .int x1] (q_mk n F m) (q_Q none (q_mk n F r)) := by
  unfold f_X6_watchRing at h
  show q_V g mX6_watchRing q_T _ _ _ 0 [(0, q_r g 28), (1, .int x1)] [] (q_mk n F m)
  refine q_aload_n dX6_watchRing_0 rfl ?_
  refine q_iconst (v := 0) dX6_watchRing_1 (by decide) ?_
  refine u_puti dX6_watchRing_2 fX6_28 rfl rfl (Nat.lt_of_lt_of_le (Nat.le_of_ble_eq_true rfl) hn) rfl rfl rfl ?_
  refine q_iload_n dX6_watchRing_5 rfl ?_
  refine q_ineg dX6_watchRing_6 ?_
  refine q_istore_n (ls' := [(0, _), (1, _), (2, _)]) [0, 1, 2] dX6_watchRing_7 (Nat.le_of_ble_eq_true rfl) rfl ?_
  obtain ⟨r9, hr10, h⟩ := q_bd h
  refine t_l_X6_watchRing_8 hn hF  7000 _ _ _ hr10 ?_
  cases h
  exact q_vret dX6_watchRing_47 rfl ⟨rfl, rfl⟩
def l_X6_pointsSeen_4 : Nat → Int32 → Int32 → Int32 → q_Mm → Option (Int32)
  | 0, _, _, _, _ => none
  | k + 1, y1, y2, y3, m =>
    if (m.1 28 5) ≤ y3 then
      some (y2)
    else
      if q_in y3 400 = true then
      if ((m.1 32 y3.toNatClampNeg) &&& y1) = 0 then
        l_X6_pointsSeen_4 k  y1 y2 (y3 + 1) m
      else
        l_X6_pointsSeen_4 k  y1 (y2 + 1) (y3 + 1) m
      else none
set_option maxRecDepth 100000 in
set_option maxHeartbeats 4000000 in
theorem t_l_X6_pointsSeen_4 {g : q_G} {n : Nat} {F : Nat → Nat → Option Nat} {Z : List Frame → Array Value → State → State → Prop} {kc ks : Nat} (hn : 89 ≤ n) (hF : q_FF F)  : ∀ (k : Nat) (y1 : Int32) (y2 : Int32) (y3 : Int32) (m : q_Mm) {r : Int32}, l_X6_pointsSeen_4 k y1 y2 y3 m = some r → (q_V g mX6_pointsSeen q_T Z kc ks 32 [(2, .int r)] [] (q_mk n F m)) → q_V g mX6_pointsSeen q_T Z kc ks 4 [(0, q_r g 28), (1, .int y1), (2, .int y2), (3, .int y3)] [] (q_mk n F m) := by
  intro k
  induction k with
  | zero => intro y1 y2 y3 m r h; cases h
  | succ k ih =>
    intro y1 y2 y3 m r h hx0
    unfold l_X6_pointsSeen_4 at h
    refine q_iload_n dX6_pointsSeen_4 rfl ?_
    refine q_aload_n dX6_pointsSeen_5 rfl ?_
    refine u_geti dX6_pointsSeen_6 fX6_28 rfl rfl (Nat.lt_of_lt_of_le (Nat.le_of_ble_eq_true rfl) hn) ?_
    refine q_icmp_ge 32 dX6_pointsSeen_9 (by decide) (fun hc => ?_) (fun hc => ?_)
    · have h := q_it hc h
      refine q_drop [2] (ls' := [(2, _)]) rfl ?_
      cases h
      exact hx0
    · have h := q_if hc h
      refine q_aload_n dX6_pointsSeen_12 rfl ?_
      refine u_getr dX6_pointsSeen_13 fX6_25 rfl rfl (Nat.lt_of_lt_of_le (Nat.le_of_ble_eq_true rfl) hn) (hF 28 4 32 rfl) ?_
      refine q_iload_n dX6_pointsSeen_16 rfl ?_
      obtain ⟨hi1, h⟩ := q_is h
      refine u_iald dX6_pointsSeen_17 rfl (Nat.lt_of_lt_of_le (Nat.le_of_ble_eq_true rfl) hn) (q_in_vp hi1) ?_
      refine q_iload_n dX6_pointsSeen_18 rfl ?_
      refine q_iand dX6_pointsSeen_19 ?_
      refine q_if_eq 26 dX6_pointsSeen_20 (by decide) (fun hc => ?_) (fun hc => ?_)
      · have h := q_it hc h
        refine q_iinc1 (w := 1) (ls' := [(0, _), (1, _), (2, _), (3, _)]) [0, 1, 2, 3] dX6_pointsSeen_26 rfl (by decide) (Nat.le_of_ble_eq_true rfl) rfl ?_
        refine q_goto 4 dX6_pointsSeen_29 (by decide) ?_
        exact ih _ _ _ _ h hx0
      · have h := q_if hc h
        refine q_iinc1 (w := 1) (ls' := [(0, _), (1, _), (2, _), (3, _)]) [0, 1, 2, 3] dX6_pointsSeen_23 rfl (by decide) (Nat.le_of_ble_eq_true rfl) rfl ?_
        refine q_iinc1 (w := 1) (ls' := [(0, _), (1, _), (2, _), (3, _)]) [0, 1, 2, 3] dX6_pointsSeen_26 rfl (by decide) (Nat.le_of_ble_eq_true rfl) rfl ?_
        refine q_goto 4 dX6_pointsSeen_29 (by decide) ?_
        exact ih _ _ _ _ h hx0
def f_X6_pointsSeen (x1 : Int32) (m : q_Mm) : Option (Int32) :=
  (l_X6_pointsSeen_4 7000  x1 0 0 m).bind fun r2 =>
  some (r2)
set_option maxRecDepth 100000 in
set_option maxHeartbeats 4000000 in
theorem t_X6_pointsSeen {g : q_G} {n : Nat} {F : Nat → Nat → Option Nat} (hn : 89 ≤ n) (hF : q_FF F)  {x1 : Int32} {m : q_Mm} {r : Int32} (h : f_X6_pointsSeen x1 m = some r) : q_Cn g mX6_pointsSeen [q_r g 28, .int x1] (q_mk n F m) (q_Q (some (.int r)) (q_mk n F m)) := by
  unfold f_X6_pointsSeen at h
  show q_V g mX6_pointsSeen q_T _ _ _ 0 [(0, q_r g 28), (1, .int x1)] [] (q_mk n F m)
  refine q_iconst (v := 0) dX6_pointsSeen_0 (by decide) ?_
  refine q_istore_n (ls' := [(0, _), (1, _), (2, _)]) [0, 1, 2] dX6_pointsSeen_1 (Nat.le_of_ble_eq_true rfl) rfl ?_
  refine q_iconst (v := 0) dX6_pointsSeen_2 (by decide) ?_
  refine q_istore_n (ls' := [(0, _), (1, _), (2, _), (3, _)]) [0, 1, 2, 3] dX6_pointsSeen_3 (Nat.le_of_ble_eq_true rfl) rfl ?_
  obtain ⟨r2, hr3, h⟩ := q_bd h
  refine t_l_X6_pointsSeen_4 hn hF  7000 _ _ _ _ hr3 ?_
  refine q_iload_n dX6_pointsSeen_32 rfl ?_
  cases h
  exact q_iret dX6_pointsSeen_33 rfl ⟨rfl, rfl⟩
def f_J6_bitCount_0f7a4 (x0 : Int32) (m : q_Mm) : (Int32) :=
  (((((((x0 - (((x0.toUInt32 >>> ((1 : Int32).toUInt32 &&& Int32.toUInt32 31)).toInt32) &&& 1431655765)) &&& 858993459) + ((((x0 - (((x0.toUInt32 >>> ((1 : Int32).toUInt32 &&& Int32.toUInt32 31)).toInt32) &&& 1431655765)).toUInt32 >>> ((2 : Int32).toUInt32 &&& Int32.toUInt32 31)).toInt32) &&& 858993459)) + (((((x0 - (((x0.toUInt32 >>> ((1 : Int32).toUInt32 &&& Int32.toUInt32 31)).toInt32) &&& 1431655765)) &&& 858993459) + ((((x0 - (((x0.toUInt32 >>> ((1 : Int32).toUInt32 &&& Int32.toUInt32 31)).toInt32) &&& 1431655765)).toUInt32 >>> ((2 : Int32).toUInt32 &&& Int32.toUInt32 31)).toInt32) &&& 858993459)).toUInt32 >>> ((4 : Int32).toUInt32 &&& Int32.toUInt32 31)).toInt32)) &&& 252645135) + (((((((x0 - (((x0.toUInt32 >>> ((1 : Int32).toUInt32 &&& Int32.toUInt32 31)).toInt32) &&& 1431655765)) &&& 858993459) + ((((x0 - (((x0.toUInt32 >>> ((1 : Int32).toUInt32 &&& Int32.toUInt32 31)).toInt32) &&& 1431655765)).toUInt32 >>> ((2 : Int32).toUInt32 &&& Int32.toUInt32 31)).toInt32) &&& 858993459)) + (((((x0 - (((x0.toUInt32 >>> ((1 : Int32).toUInt32 &&& Int32.toUInt32 31)).toInt32) &&& 1431655765)) &&& 858993459) + ((((x0 - (((x0.toUInt32 >>> ((1 : Int32).toUInt32 &&& Int32.toUInt32 31)).toInt32) &&& 1431655765)).toUInt32 >>> ((2 : Int32).toUInt32 &&& Int32.toUInt32 31)).toInt32) &&& 858993459)).toUInt32 >>> ((4 : Int32).toUInt32 &&& Int32.toUInt32 31)).toInt32)) &&& 252645135).toUInt32 >>> ((8 : Int32).toUInt32 &&& Int32.toUInt32 31)).toInt32)) + ((((((((x0 - (((x0.toUInt32 >>> ((1 : Int32).toUInt32 &&& Int32.toUInt32 31)).toInt32) &&& 1431655765)) &&& 858993459) + ((((x0 - (((x0.toUInt32 >>> ((1 : Int32).toUInt32 &&& Int32.toUInt32 31)).toInt32) &&& 1431655765)).toUInt32 >>> ((2 : Int32).toUInt32 &&& Int32.toUInt32 31)).toInt32) &&& 858993459)) + (((((x0 - (((x0.toUInt32 >>> ((1 : Int32).toUInt32 &&& Int32.toUInt32 31)).toInt32) &&& 1431655765)) &&& 858993459) + ((((x0 - (((x0.toUInt32 >>> ((1 : Int32).toUInt32 &&& Int32.toUInt32 31)).toInt32) &&& 1431655765)).toUInt32 >>> ((2 : Int32).toUInt32 &&& Int32.toUInt32 31)).toInt32) &&& 858993459)).toUInt32 >>> ((4 : Int32).toUInt32 &&& Int32.toUInt32 31)).toInt32)) &&& 252645135) + (((((((x0 - (((x0.toUInt32 >>> ((1 : Int32).toUInt32 &&& Int32.toUInt32 31)).toInt32) &&& 1431655765)) &&& 858993459) + ((((x0 - (((x0.toUInt32 >>> ((1 : Int32).toUInt32 &&& Int32.toUInt32 31)).toInt32) &&& 1431655765)).toUInt32 >>> ((2 : Int32).toUInt32 &&& Int32.toUInt32 31)).toInt32) &&& 858993459)) + (((((x0 - (((x0.toUInt32 >>> ((1 : Int32).toUInt32 &&& Int32.toUInt32 31)).toInt32) &&& 1431655765)) &&& 858993459) + ((((x0 - (((x0.toUInt32 >>> ((1 : Int32).toUInt32 &&& Int32.toUInt32 31)).toInt32) &&& 1431655765)).toUInt32 >>> ((2 : Int32).toUInt32 &&& Int32.toUInt32 31)).toInt32) &&& 858993459)).toUInt32 >>> ((4 : Int32).toUInt32 &&& Int32.toUInt32 31)).toInt32)) &&& 252645135).toUInt32 >>> ((8 : Int32).toUInt32 &&& Int32.toUInt32 31)).toInt32)).toUInt32 >>> ((16 : Int32).toUInt32 &&& Int32.toUInt32 31)).toInt32)) &&& 63
set_option maxRecDepth 100000 in
set_option maxHeartbeats 4000000 in
theorem t_J6_bitCount_0f7a4 {g : q_G} {n : Nat} {F : Nat → Nat → Option Nat} (hn : 89 ≤ n) (hF : q_FF F)  {x0 : Int32} {m : q_Mm} {r : Int32} (h : f_J6_bitCount_0f7a4 x0 m = r) : q_Cn g mJ6_bitCount_0f7a4 [.int x0] (q_mk n F m) (q_Q (some (.int r)) (q_mk n F m)) := by
  unfold f_J6_bitCount_0f7a4 at h
  show q_V g mJ6_bitCount_0f7a4 q_T _ _ _ 0 [(0, .int x0)] [] (q_mk n F m)
  refine q_iload_n dJ6_bitCount_0f7a4_0 rfl ?_
  refine q_iload_n dJ6_bitCount_0f7a4_1 rfl ?_
  refine q_iconst (v := 1) dJ6_bitCount_0f7a4_2 (by decide) ?_
  refine q_iushr dJ6_bitCount_0f7a4_3 ?_
  refine q_ldcw dJ6_bitCount_0f7a4_4 kJ6_265 ?_
  refine q_iand dJ6_bitCount_0f7a4_7 ?_
  refine q_isub dJ6_bitCount_0f7a4_8 ?_
  refine q_istore_n (ls' := [(0, _)]) [0] dJ6_bitCount_0f7a4_9 (Nat.le_of_ble_eq_true rfl) rfl ?_
  refine q_iload_n dJ6_bitCount_0f7a4_10 rfl ?_
  refine q_ldcw dJ6_bitCount_0f7a4_11 kJ6_266 ?_
  refine q_iand dJ6_bitCount_0f7a4_14 ?_
  refine q_iload_n dJ6_bitCount_0f7a4_15 rfl ?_
  refine q_iconst (v := 2) dJ6_bitCount_0f7a4_16 (by decide) ?_
  refine q_iushr dJ6_bitCount_0f7a4_17 ?_
  refine q_ldcw dJ6_bitCount_0f7a4_18 kJ6_266 ?_
  refine q_iand dJ6_bitCount_0f7a4_21 ?_
  refine q_iadd dJ6_bitCount_0f7a4_22 ?_
  refine q_istore_n (ls' := [(0, _)]) [0] dJ6_bitCount_0f7a4_23 (Nat.le_of_ble_eq_true rfl) rfl ?_
  refine q_iload_n dJ6_bitCount_0f7a4_24 rfl ?_
  refine q_iload_n dJ6_bitCount_0f7a4_25 rfl ?_
  refine q_iconst (v := 4) dJ6_bitCount_0f7a4_26 (by decide) ?_
  refine q_iushr dJ6_bitCount_0f7a4_27 ?_
  refine q_iadd dJ6_bitCount_0f7a4_28 ?_
  refine q_ldcw dJ6_bitCount_0f7a4_29 kJ6_267 ?_
  refine q_iand dJ6_bitCount_0f7a4_32 ?_
  refine q_istore_n (ls' := [(0, _)]) [0] dJ6_bitCount_0f7a4_33 (Nat.le_of_ble_eq_true rfl) rfl ?_
  refine q_iload_n dJ6_bitCount_0f7a4_34 rfl ?_
  refine q_iload_n dJ6_bitCount_0f7a4_35 rfl ?_
  refine q_bipush (v := 8) dJ6_bitCount_0f7a4_36 (by decide) ?_
  refine q_iushr dJ6_bitCount_0f7a4_38 ?_
  refine q_iadd dJ6_bitCount_0f7a4_39 ?_
  refine q_istore_n (ls' := [(0, _)]) [0] dJ6_bitCount_0f7a4_40 (Nat.le_of_ble_eq_true rfl) rfl ?_
  refine q_iload_n dJ6_bitCount_0f7a4_41 rfl ?_
  refine q_iload_n dJ6_bitCount_0f7a4_42 rfl ?_
  refine q_bipush (v := 16) dJ6_bitCount_0f7a4_43 (by decide) ?_
  refine q_iushr dJ6_bitCount_0f7a4_45 ?_
  refine q_iadd dJ6_bitCount_0f7a4_46 ?_
  refine q_istore_n (ls' := [(0, _)]) [0] dJ6_bitCount_0f7a4_47 (Nat.le_of_ble_eq_true rfl) rfl ?_
  refine q_iload_n dJ6_bitCount_0f7a4_48 rfl ?_
  refine q_bipush (v := 63) dJ6_bitCount_0f7a4_49 (by decide) ?_
  refine q_iand dJ6_bitCount_0f7a4_51 ?_
  subst h
  exact q_iret dJ6_bitCount_0f7a4_52 rfl ⟨rfl, rfl⟩
def l_X6_bestPosts_7 : Nat → Int32 → Int32 → Int32 → Int32 → q_Mm → Option (Int32)
  | 0, _, _, _, _, _ => none
  | k + 1, y1, y2, y3, y4, m =>
    if ((1 : Int32) <<< ((m.1 28 3) &&& 31)) ≤ y4 then
      some (y2)
    else
      if (f_J6_bitCount_0f7a4 y4 m) = y1 then
        (f_X6_pointsSeen y4 m).bind fun r1 =>
        if r1 ≤ y3 then
          l_X6_bestPosts_7 k  y1 y2 y3 (y4 + 1) m
        else
          l_X6_bestPosts_7 k  y1 y4 r1 (y4 + 1) m
      else
        l_X6_bestPosts_7 k  y1 y2 y3 (y4 + 1) m
set_option maxRecDepth 100000 in
set_option maxHeartbeats 4000000 in
theorem t_l_X6_bestPosts_7 {g : q_G} {n : Nat} {F : Nat → Nat → Option Nat} {Z : List Frame → Array Value → State → State → Prop} {kc ks : Nat} (hn : 89 ≤ n) (hF : q_FF F)  : ∀ (k : Nat) (y1 : Int32) (y2 : Int32) (y3 : Int32) (y4 : Int32) (m : q_Mm) {r : Int32}, l_X6_bestPosts_7 k y1 y2 y3 y4 m = some r → (q_V g mX6_bestPosts q_T Z kc ks 53 [(2, .int r)] [] (q_mk n F m)) → q_V g mX6_bestPosts q_T Z kc ks 7 [(0, q_r g 28), (1, .int y1), (2, .int y2), (3, .int y3), (4, .int y4)] [] (q_mk n F m) := by
  intro k
  induction k with
  | zero => intro y1 y2 y3 y4 m r h; cases h
  | succ k ih =>
    intro y1 y2 y3 y4 m r h hx0
    unfold l_X6_bestPosts_7 at h
    refine q_iload dX6_bestPosts_7 rfl ?_
    refine q_iconst (v := 1) dX6_bestPosts_9 (by decide) ?_
    refine q_aload_n dX6_bestPosts_10 rfl ?_
    refine u_geti dX6_bestPosts_11 fX6_21 rfl rfl (Nat.lt_of_lt_of_le (Nat.le_of_ble_eq_true rfl) hn) ?_
    refine q_ishl dX6_bestPosts_14 ?_
    refine q_icmp_ge 53 dX6_bestPosts_15 (by decide) (fun hc => ?_) (fun hc => ?_)
    · have h := q_it hc h
      refine q_drop [2] (ls' := [(2, _)]) rfl ?_
      cases h
      exact hx0
    · have h := q_if hc h
      refine q_iload dX6_bestPosts_18 rfl ?_
      refine c_S1 (as := [_]) (st := []) dX6_bestPosts_20 okJ6_bitCount_0f7a4 lX6_39 ⟨rfl, rfl⟩ ⟨Nat.le_of_ble_eq_true rfl, Nat.le_of_ble_eq_true rfl⟩ rfl rfl (Nat.le_of_ble_eq_true rfl) (Nat.le_of_ble_eq_true rfl) (t_J6_bitCount_0f7a4 hn hF  rfl) ?_
      refine q_iload_n dX6_bestPosts_23 rfl ?_
      refine q_icmp_ne 47 dX6_bestPosts_24 (by decide) (fun hc => ?_) (fun hc => ?_)
      · have h := q_if hc h
        refine q_iinc1 (w := 1) (ls' := [(0, _), (1, _), (2, _), (3, _), (4, _)]) [0, 1, 2, 3, 4] dX6_bestPosts_47 rfl (by decide) (Nat.le_of_ble_eq_true rfl) rfl ?_
        refine q_goto 7 dX6_bestPosts_50 (by decide) ?_
        exact ih _ _ _ _ _ h hx0
      · have h := q_it hc h
        refine q_aload_n dX6_bestPosts_27 rfl ?_
        refine q_iload dX6_bestPosts_28 rfl ?_
        obtain ⟨r1, hr2, h⟩ := q_bd h
        refine c_V1 (as := [_]) (st := []) (ci := 6) dX6_bestPosts_30 okX6_pointsSeen lX6_45 ⟨rfl, rfl⟩ ⟨Nat.le_of_ble_eq_true rfl, Nat.le_of_ble_eq_true rfl⟩ (by decide) rfl rfl (Nat.lt_of_lt_of_le (Nat.le_of_ble_eq_true rfl) hn) rfl rfl (Nat.le_of_ble_eq_true rfl) (Nat.le_of_ble_eq_true rfl) (t_X6_pointsSeen hn hF  hr2) ?_
        refine q_istore (ls' := [(0, _), (1, _), (2, _), (3, _), (4, _), (5, _)]) [0, 1, 2, 3, 4, 5] dX6_bestPosts_33 (Nat.le_of_ble_eq_true rfl) rfl ?_
        refine q_iload dX6_bestPosts_35 rfl ?_
        refine q_iload_n dX6_bestPosts_37 rfl ?_
        refine q_icmp_le 47 dX6_bestPosts_38 (by decide) (fun hc => ?_) (fun hc => ?_)
        · have h := q_it hc h
          refine q_iinc1 (w := 1) (ls' := [(0, _), (1, _), (2, _), (3, _), (4, _)]) [0, 1, 2, 3, 4] dX6_bestPosts_47 rfl (by decide) (Nat.le_of_ble_eq_true rfl) rfl ?_
          refine q_goto 7 dX6_bestPosts_50 (by decide) ?_
          exact ih _ _ _ _ _ h hx0
        · have h := q_if hc h
          refine q_iload dX6_bestPosts_41 rfl ?_
          refine q_istore_n (ls' := [(0, _), (1, _), (3, _), (4, _)]) [0, 1, 3, 4] dX6_bestPosts_43 (Nat.le_of_ble_eq_true rfl) rfl ?_
          refine q_iload dX6_bestPosts_44 rfl ?_
          refine q_istore_n (ls' := [(0, _), (1, _), (2, _), (3, _), (4, _)]) [0, 1, 2, 3, 4] dX6_bestPosts_46 (Nat.le_of_ble_eq_true rfl) rfl ?_
          refine q_iinc1 (w := 1) (ls' := [(0, _), (1, _), (2, _), (3, _), (4, _)]) [0, 1, 2, 3, 4] dX6_bestPosts_47 rfl (by decide) (Nat.le_of_ble_eq_true rfl) rfl ?_
          refine q_goto 7 dX6_bestPosts_50 (by decide) ?_
          exact ih _ _ _ _ _ h hx0
def f_X6_bestPosts (x1 : Int32) (m : q_Mm) : Option (Int32) :=
  (l_X6_bestPosts_7 7000  x1 0 (-1) 0 m).bind fun r3 =>
  some (r3)
set_option maxRecDepth 100000 in
set_option maxHeartbeats 4000000 in
theorem t_X6_bestPosts {g : q_G} {n : Nat} {F : Nat → Nat → Option Nat} (hn : 89 ≤ n) (hF : q_FF F)  {x1 : Int32} {m : q_Mm} {r : Int32} (h : f_X6_bestPosts x1 m = some r) : q_Cn g mX6_bestPosts [q_r g 28, .int x1] (q_mk n F m) (q_Q (some (.int r)) (q_mk n F m)) := by
  unfold f_X6_bestPosts at h
  show q_V g mX6_bestPosts q_T _ _ _ 0 [(0, q_r g 28), (1, .int x1)] [] (q_mk n F m)
  refine q_iconst (v := 0) dX6_bestPosts_0 (by decide) ?_
  refine q_istore_n (ls' := [(0, _), (1, _), (2, _)]) [0, 1, 2] dX6_bestPosts_1 (Nat.le_of_ble_eq_true rfl) rfl ?_
  refine q_iconst (v := (-1)) dX6_bestPosts_2 (by decide) ?_
  refine q_istore_n (ls' := [(0, _), (1, _), (2, _), (3, _)]) [0, 1, 2, 3] dX6_bestPosts_3 (Nat.le_of_ble_eq_true rfl) rfl ?_
  refine q_iconst (v := 0) dX6_bestPosts_4 (by decide) ?_
  refine q_istore (ls' := [(0, _), (1, _), (2, _), (3, _), (4, _)]) [0, 1, 2, 3, 4] dX6_bestPosts_5 (Nat.le_of_ble_eq_true rfl) rfl ?_
  obtain ⟨r3, hr4, h⟩ := q_bd h
  refine t_l_X6_bestPosts_7 hn hF  7000 _ _ _ _ _ hr4 ?_
  refine q_iload_n dX6_bestPosts_53 rfl ?_
  cases h
  exact q_iret dX6_bestPosts_54 rfl ⟨rfl, rfl⟩
def f_X7_set (a0 : Nat) (x1 : Int32) (x2 : Int32) (x3 : Int32) (x4 : Int32) (m : q_Mm) : (q_Mm) :=
  q_wi (q_wi (q_wi (q_wi m a0 0 x1) a0 1 x2) a0 2 x3) a0 3 x4
set_option maxRecDepth 100000 in
set_option maxHeartbeats 4000000 in
theorem t_X7_set {g : q_G} {n : Nat} {F : Nat → Nat → Option Nat} (hn : 89 ≤ n) (hF : q_FF F) {a0 : Nat} (ha0 : q_isShip a0) {x1 : Int32} {x2 : Int32} {x3 : Int32} {x4 : Int32} {m : q_Mm} {r : q_Mm} (h : f_X7_set a0 x1 x2 x3 x4 m = r) : q_Cn g mX7_set [q_r g a0, .int x1, .int x2, .int x3, .int x4] (q_mk n F m) (q_Q none (q_mk n F r)) := by
  unfold f_X7_set at h
  show q_V g mX7_set q_T _ _ _ 0 [(0, q_r g a0), (1, .int x1), (2, .int x2), (3, .int x3), (4, .int x4)] [] (q_mk n F m)
  refine q_aload_n dX7_set_0 rfl ?_
  refine q_iload_n dX7_set_1 rfl ?_
  refine u_puti dX7_set_2 fX7_9 rfl (q_ship_0 ha0) (q_lt0 (q_ship_n ha0 hn)) rfl rfl rfl ?_
  refine q_aload_n dX7_set_5 rfl ?_
  refine q_iload_n dX7_set_6 rfl ?_
  refine u_puti dX7_set_7 fX7_15 rfl (q_ship_0 ha0) (q_lt0 (q_ship_n ha0 hn)) rfl rfl rfl ?_
  refine q_aload_n dX7_set_10 rfl ?_
  refine q_iload_n dX7_set_11 rfl ?_
  refine u_puti dX7_set_12 fX7_18 rfl (q_ship_0 ha0) (q_lt0 (q_ship_n ha0 hn)) rfl rfl rfl ?_
  refine q_aload_n dX7_set_15 rfl ?_
  refine q_iload dX7_set_16 rfl ?_
  refine u_puti dX7_set_18 fX7_21 rfl (q_ship_0 ha0) (q_lt0 (q_ship_n ha0 hn)) rfl rfl rfl ?_
  subst h
  exact q_vret dX7_set_21 rfl ⟨rfl, rfl⟩
def l_X8_fuelTill_4 : Nat → Nat → Int32 → Int32 → Int32 → q_Mm → Option (Int32)
  | 0, _, _, _, _, _ => none
  | k + 1, b0, y1, y2, y3, m =>
    if y1 < y3 then
      some (y2)
    else
      if (m.1 b0 2) < y3 then
        some (y2)
      else
        if q_in y3 41 = true then
        if q_in (y3 - 1) 41 = true then
        if (m.1 (b0 + 1) y3.toNatClampNeg) = (m.1 (b0 + 1) (y3 - 1).toNatClampNeg) then
          l_X8_fuelTill_4 k b0 y1 y2 (y3 + 1) m
        else
          l_X8_fuelTill_4 k b0 y1 (y2 + 1) (y3 + 1) m
        else none
        else none
set_option maxRecDepth 100000 in
set_option maxHeartbeats 4000000 in
theorem t_l_X8_fuelTill_4 {g : q_G} {n : Nat} {F : Nat → Nat → Option Nat} {Z : List Frame → Array Value → State → State → Prop} {kc ks : Nat} (hn : 89 ≤ n) (hF : q_FF F) {b0 : Nat} (hb0 : q_isVoy b0) : ∀ (k : Nat) (y1 : Int32) (y2 : Int32) (y3 : Int32) (m : q_Mm) {r : Int32}, l_X8_fuelTill_4 k b0 y1 y2 y3 m = some r → (q_V g mX8_fuelTill q_T Z kc ks 43 [(2, .int r)] [] (q_mk n F m)) → q_V g mX8_fuelTill q_T Z kc ks 4 [(0, q_r g b0), (1, .int y1), (2, .int y2), (3, .int y3)] [] (q_mk n F m) := by
  intro k
  induction k with
  | zero => intro y1 y2 y3 m r h; cases h
  | succ k ih =>
    intro y1 y2 y3 m r h hx0
    unfold l_X8_fuelTill_4 at h
    refine q_iload_n dX8_fuelTill_4 rfl ?_
    refine q_iload_n dX8_fuelTill_5 rfl ?_
    refine q_icmp_gt 43 dX8_fuelTill_6 (by decide) (fun hc => ?_) (fun hc => ?_)
    · have h := q_it hc h
      refine q_drop [2] (ls' := [(2, _)]) rfl ?_
      cases h
      exact hx0
    · have h := q_if hc h
      refine q_iload_n dX8_fuelTill_9 rfl ?_
      refine q_aload_n dX8_fuelTill_10 rfl ?_
      refine u_geti dX8_fuelTill_11 fX8_19 rfl (q_voy_0 hb0) (q_lt0 (q_voy_n hb0 hn)) ?_
      refine q_icmp_gt 43 dX8_fuelTill_14 (by decide) (fun hc => ?_) (fun hc => ?_)
      · have h := q_it hc h
        refine q_drop [2] (ls' := [(2, _)]) rfl ?_
        cases h
        exact hx0
      · have h := q_if hc h
        refine q_aload_n dX8_fuelTill_17 rfl ?_
        refine u_getr dX8_fuelTill_18 fX8_15 rfl (q_voy_0 hb0) (q_lt0 (q_voy_n hb0 hn)) (q_voy_F1 hF hb0) ?_
        refine q_iload_n dX8_fuelTill_21 rfl ?_
        obtain ⟨hi1, h⟩ := q_is h
        refine u_iald dX8_fuelTill_22 (q_voy_1 hb0) (q_lt1 (q_voy_n hb0 hn)) (q_in_vp hi1) ?_
        refine q_aload_n dX8_fuelTill_23 rfl ?_
        refine u_getr dX8_fuelTill_24 fX8_15 rfl (q_voy_0 hb0) (q_lt0 (q_voy_n hb0 hn)) (q_voy_F1 hF hb0) ?_
        refine q_iload_n dX8_fuelTill_27 rfl ?_
        refine q_iconst (v := 1) dX8_fuelTill_28 (by decide) ?_
        refine q_isub dX8_fuelTill_29 ?_
        obtain ⟨hi2, h⟩ := q_is h
        refine u_iald dX8_fuelTill_30 (q_voy_1 hb0) (q_lt1 (q_voy_n hb0 hn)) (q_in_vp hi2) ?_
        refine q_icmp_eq 37 dX8_fuelTill_31 (by decide) (fun hc => ?_) (fun hc => ?_)
        · have h := q_it hc h
          refine q_iinc1 (w := 1) (ls' := [(0, _), (1, _), (2, _), (3, _)]) [0, 1, 2, 3] dX8_fuelTill_37 rfl (by decide) (Nat.le_of_ble_eq_true rfl) rfl ?_
          refine q_goto 4 dX8_fuelTill_40 (by decide) ?_
          exact ih _ _ _ _ h hx0
        · have h := q_if hc h
          refine q_iinc1 (w := 1) (ls' := [(0, _), (1, _), (2, _), (3, _)]) [0, 1, 2, 3] dX8_fuelTill_34 rfl (by decide) (Nat.le_of_ble_eq_true rfl) rfl ?_
          refine q_iinc1 (w := 1) (ls' := [(0, _), (1, _), (2, _), (3, _)]) [0, 1, 2, 3] dX8_fuelTill_37 rfl (by decide) (Nat.le_of_ble_eq_true rfl) rfl ?_
          refine q_goto 4 dX8_fuelTill_40 (by decide) ?_
          exact ih _ _ _ _ h hx0
def f_X8_fuelTill (a0 : Nat) (x1 : Int32) (m : q_Mm) : Option (Int32) :=
  (l_X8_fuelTill_4 7000 a0 x1 0 1 m).bind fun r3 =>
  some (r3)
set_option maxRecDepth 100000 in
set_option maxHeartbeats 4000000 in
theorem t_X8_fuelTill {g : q_G} {n : Nat} {F : Nat → Nat → Option Nat} (hn : 89 ≤ n) (hF : q_FF F) {a0 : Nat} (ha0 : q_isVoy a0) {x1 : Int32} {m : q_Mm} {r : Int32} (h : f_X8_fuelTill a0 x1 m = some r) : q_Cn g mX8_fuelTill [q_r g a0, .int x1] (q_mk n F m) (q_Q (some (.int r)) (q_mk n F m)) := by
  unfold f_X8_fuelTill at h
  show q_V g mX8_fuelTill q_T _ _ _ 0 [(0, q_r g a0), (1, .int x1)] [] (q_mk n F m)
  refine q_iconst (v := 0) dX8_fuelTill_0 (by decide) ?_
  refine q_istore_n (ls' := [(0, _), (1, _), (2, _)]) [0, 1, 2] dX8_fuelTill_1 (Nat.le_of_ble_eq_true rfl) rfl ?_
  refine q_iconst (v := 1) dX8_fuelTill_2 (by decide) ?_
  refine q_istore_n (ls' := [(0, _), (1, _), (2, _), (3, _)]) [0, 1, 2, 3] dX8_fuelTill_3 (Nat.le_of_ble_eq_true rfl) rfl ?_
  obtain ⟨r3, hr4, h⟩ := q_bd h
  refine t_l_X8_fuelTill_4 hn hF ha0 7000 _ _ _ _ hr4 ?_
  refine q_iload_n dX8_fuelTill_43 rfl ?_
  cases h
  exact q_iret dX8_fuelTill_44 rfl ⟨rfl, rfl⟩
def f_X9_isPlan (x0 : Int64) (m : q_Mm) : (Int32) :=
  if x0 < 0 then
    0
  else
    if 4 ≤ x0 then
      0
    else
      1
set_option maxRecDepth 100000 in
set_option maxHeartbeats 4000000 in
theorem t_X9_isPlan {g : q_G} {n : Nat} {F : Nat → Nat → Option Nat} (hn : 89 ≤ n) (hF : q_FF F)  {x0 : Int64} {m : q_Mm} {r : Int32} (h : f_X9_isPlan x0 m = r) : q_Cn g mX9_isPlan [.long x0] (q_mk n F m) (q_Q (some (.int r)) (q_mk n F m)) := by
  unfold f_X9_isPlan at h
  show q_V g mX9_isPlan q_T _ _ _ 0 [(0, .long x0)] [] (q_mk n F m)
  refine q_lload_n dX9_isPlan_0 rfl ?_
  refine q_lconst (v := 0) dX9_isPlan_1 (by decide) ?_
  refine q_lcmp_lt 18 dX9_isPlan_2 dX9_isPlan_3 (by decide) (fun hc => ?_) (fun hc => ?_)
  · have h := q_it hc h
    refine q_iconst (v := 0) dX9_isPlan_18 (by decide) ?_
    subst h
    exact q_zret dX9_isPlan_19 rfl rfl ⟨rfl, rfl⟩
  · have h := q_if hc h
    refine q_lload_n dX9_isPlan_6 rfl ?_
    refine q_ldc2 dX9_isPlan_7 kX9_321 ?_
    refine q_lcmp_ge 18 dX9_isPlan_10 dX9_isPlan_11 (by decide) (fun hc => ?_) (fun hc => ?_)
    · have h := q_it hc h
      refine q_iconst (v := 0) dX9_isPlan_18 (by decide) ?_
      subst h
      exact q_zret dX9_isPlan_19 rfl rfl ⟨rfl, rfl⟩
    · have h := q_if hc h
      refine q_iconst (v := 1) dX9_isPlan_14 (by decide) ?_
      refine q_goto 19 dX9_isPlan_15 (by decide) ?_
      subst h
      exact q_zret dX9_isPlan_19 rfl rfl ⟨rfl, rfl⟩
theorem b_X9_isPlan {x0 : Int64} {m : q_Mm} : q_bo (f_X9_isPlan x0 m) := by
  unfold f_X9_isPlan
  repeat' split
  all_goals first | exact Or.inl rfl | exact Or.inr rfl
def f_X9_within (x0 : Int32) (x1 : Int32) (x2 : Int32) (m : q_Mm) : (Int32) :=
  if x0 < x1 then
    0
  else
    if x2 < x0 then
      0
    else
      1
set_option maxRecDepth 100000 in
set_option maxHeartbeats 4000000 in
theorem t_X9_within {g : q_G} {n : Nat} {F : Nat → Nat → Option Nat} (hn : 89 ≤ n) (hF : q_FF F)  {x0 : Int32} {x1 : Int32} {x2 : Int32} {m : q_Mm} {r : Int32} (h : f_X9_within x0 x1 x2 m = r) : q_Cn g mX9_within [.int x0, .int x1, .int x2] (q_mk n F m) (q_Q (some (.int r)) (q_mk n F m)) := by
  unfold f_X9_within at h
  show q_V g mX9_within q_T _ _ _ 0 [(0, .int x0), (1, .int x1), (2, .int x2)] [] (q_mk n F m)
  refine q_iload_n dX9_within_0 rfl ?_
  refine q_iload_n dX9_within_1 rfl ?_
  refine q_icmp_lt 14 dX9_within_2 (by decide) (fun hc => ?_) (fun hc => ?_)
  · have h := q_it hc h
    refine q_iconst (v := 0) dX9_within_14 (by decide) ?_
    subst h
    exact q_zret dX9_within_15 rfl rfl ⟨rfl, rfl⟩
  · have h := q_if hc h
    refine q_iload_n dX9_within_5 rfl ?_
    refine q_iload_n dX9_within_6 rfl ?_
    refine q_icmp_gt 14 dX9_within_7 (by decide) (fun hc => ?_) (fun hc => ?_)
    · have h := q_it hc h
      refine q_iconst (v := 0) dX9_within_14 (by decide) ?_
      subst h
      exact q_zret dX9_within_15 rfl rfl ⟨rfl, rfl⟩
    · have h := q_if hc h
      refine q_iconst (v := 1) dX9_within_10 (by decide) ?_
      refine q_goto 15 dX9_within_11 (by decide) ?_
      subst h
      exact q_zret dX9_within_15 rfl rfl ⟨rfl, rfl⟩
theorem b_X9_within {x0 : Int32} {x1 : Int32} {x2 : Int32} {m : q_Mm} : q_bo (f_X9_within x0 x1 x2 m) := by
  unfold f_X9_within
  repeat' split
  all_goals first | exact Or.inl rfl | exact Or.inr rfl
def f_X9_turn (x1 : Int32) (x2 : Int32) (x3 : Int32) (m : q_Mm) : Option (Int32 × q_Mm) :=
  if (f_X9_isPlan x1.toInt64 m) = 0 then
    some (((-1), m))
  else
    if (f_X9_within x2 0 59 m) = 0 then
      some (((-2), m))
    else
      if (f_X9_within x3 (-4) 4 m) = 0 then
        some (((-2), m))
      else
        if q_in x1 4 = true then
        if (m.1 (46 + 3 * x1.toNatClampNeg) 2) < 12 then
          (f_X5_turnsAt (46 + 3 * x1.toNatClampNeg) x2 m).bind fun r2 =>
          if r2 = 0 then
            (f_X5_insert (46 + 3 * x1.toNatClampNeg) x2 x3 m).bind fun r4 =>
            some ((r4.1 (46 + 3 * x1.toNatClampNeg) 2, r4))
          else
            some (((-5), m))
        else
          some (((-4), m))
        else none
set_option maxRecDepth 100000 in
set_option maxHeartbeats 4000000 in
theorem t_X9_turn {g : q_G} {n : Nat} {F : Nat → Nat → Option Nat} (hn : 89 ≤ n) (hF : q_FF F)  {x1 : Int32} {x2 : Int32} {x3 : Int32} {m : q_Mm} {r : Int32 × q_Mm} (h : f_X9_turn x1 x2 x3 m = some r) : q_Cn g mX9_turn [q_r g 0, .int x1, .int x2, .int x3] (q_mk n F m) (q_Q (some (.int r.1)) (q_mk n F r.2)) := by
  unfold f_X9_turn at h
  show q_V g mX9_turn q_T _ _ _ 0 [(0, q_r g 0), (1, .int x1), (2, .int x2), (3, .int x3)] [] (q_mk n F m)
  refine q_iload_n dX9_turn_0 rfl ?_
  refine q_i2l dX9_turn_1 ?_
  refine c_S1 (as := [_]) (st := []) dX9_turn_2 okX9_isPlan lX9_76 ⟨rfl, rfl⟩ ⟨Nat.le_of_ble_eq_true rfl, Nat.le_of_ble_eq_true rfl⟩ rfl rfl (Nat.le_of_ble_eq_true rfl) (Nat.le_of_ble_eq_true rfl) (t_X9_isPlan hn hF  rfl) ?_
  refine q_if_ne 10 dX9_turn_5 (by decide) (fun hc => ?_) (fun hc => ?_)
  · have h := q_if hc h
    refine q_iload_n dX9_turn_10 rfl ?_
    refine q_iconst (v := 0) dX9_turn_11 (by decide) ?_
    refine q_bipush (v := 59) dX9_turn_12 (by decide) ?_
    refine c_S1 (as := [_, _, _]) (st := []) dX9_turn_14 okX9_within lX9_80 ⟨rfl, rfl⟩ ⟨Nat.le_of_ble_eq_true rfl, Nat.le_of_ble_eq_true rfl⟩ rfl rfl (Nat.le_of_ble_eq_true rfl) (Nat.le_of_ble_eq_true rfl) (t_X9_within hn hF  rfl) ?_
    refine q_if_eq 30 dX9_turn_17 (by decide) (fun hc => ?_) (fun hc => ?_)
    · have h := q_it hc h
      refine q_bipush (v := (-2)) dX9_turn_30 (by decide) ?_
      cases h
      exact q_iret dX9_turn_32 rfl ⟨rfl, rfl⟩
    · have h := q_if hc h
      refine q_iload_n dX9_turn_20 rfl ?_
      refine q_bipush (v := (-4)) dX9_turn_21 (by decide) ?_
      refine q_iconst (v := 4) dX9_turn_23 (by decide) ?_
      refine c_S1 (as := [_, _, _]) (st := []) dX9_turn_24 okX9_within lX9_80 ⟨rfl, rfl⟩ ⟨Nat.le_of_ble_eq_true rfl, Nat.le_of_ble_eq_true rfl⟩ rfl rfl (Nat.le_of_ble_eq_true rfl) (Nat.le_of_ble_eq_true rfl) (t_X9_within hn hF  rfl) ?_
      refine q_if_ne 33 dX9_turn_27 (by decide) (fun hc => ?_) (fun hc => ?_)
      · have h := q_if hc h
        refine q_aload_n dX9_turn_33 rfl ?_
        refine u_getr dX9_turn_34 fX9_11 rfl rfl (Nat.lt_of_lt_of_le (Nat.le_of_ble_eq_true rfl) hn) (hF 0 0 1 rfl) ?_
        refine q_iload_n dX9_turn_37 rfl ?_
        obtain ⟨hi1, h⟩ := q_is h
        refine u_aald dX9_turn_38 (Or.inl rfl) (Nat.lt_of_lt_of_le (Nat.le_of_ble_eq_true rfl) hn) (q_in_vp hi1) (q_at_planF hF hi1) ?_
        refine q_astore (ls' := [(2, _), (3, _), (4, _)]) [2, 3, 4] dX9_turn_39 (Nat.le_of_ble_eq_true rfl) rfl ?_
        refine q_aload dX9_turn_41 rfl ?_
        refine u_geti dX9_turn_43 fX9_84 rfl (q_plan_0 (q_at_plan hi1)) (q_lt0 (q_plan_n (q_at_plan hi1) hn)) ?_
        refine q_bipush (v := 12) dX9_turn_46 (by decide) ?_
        refine q_icmp_lt 54 dX9_turn_48 (by decide) (fun hc => ?_) (fun hc => ?_)
        · have h := q_it hc h
          refine q_aload dX9_turn_54 rfl ?_
          refine q_iload_n dX9_turn_56 rfl ?_
          obtain ⟨r2, hr3, h⟩ := q_bd h
          refine c_V1 (as := [_]) (st := []) (ci := 5) dX9_turn_57 okX5_turnsAt lX9_87 ⟨rfl, rfl⟩ ⟨Nat.le_of_ble_eq_true rfl, Nat.le_of_ble_eq_true rfl⟩ (by decide) rfl (q_plan_0 (q_at_plan hi1)) (q_lt0 (q_plan_n (q_at_plan hi1) hn)) rfl rfl (Nat.le_of_ble_eq_true rfl) (Nat.le_of_ble_eq_true rfl) (t_X5_turnsAt hn hF (q_at_plan hi1) hr3) ?_
          refine q_if_eq 66 dX9_turn_60 (by decide) (fun hc => ?_) (fun hc => ?_)
          · have h := q_it hc h
            refine q_aload dX9_turn_66 rfl ?_
            refine q_iload_n dX9_turn_68 rfl ?_
            refine q_iload_n dX9_turn_69 rfl ?_
            obtain ⟨r4, hr5, h⟩ := q_bd h
            refine c_V0 (as := [_, _]) (st := []) (ci := 5) dX9_turn_70 okX5_insert lX9_91 ⟨rfl, rfl⟩ ⟨Nat.le_of_ble_eq_true rfl, Nat.le_of_ble_eq_true rfl⟩ (by decide) rfl (q_plan_0 (q_at_plan hi1)) (q_lt0 (q_plan_n (q_at_plan hi1) hn)) rfl rfl (Nat.le_of_ble_eq_true rfl) (Nat.le_of_ble_eq_true rfl) (t_X5_insert hn hF (q_at_plan hi1) hr5) ?_
            refine q_aload dX9_turn_73 rfl ?_
            refine u_geti dX9_turn_75 fX9_84 rfl (q_plan_0 (q_at_plan hi1)) (q_lt0 (q_plan_n (q_at_plan hi1) hn)) ?_
            cases h
            exact q_iret dX9_turn_78 rfl ⟨rfl, rfl⟩
          · have h := q_if hc h
            refine q_bipush (v := (-5)) dX9_turn_63 (by decide) ?_
            cases h
            exact q_iret dX9_turn_65 rfl ⟨rfl, rfl⟩
        · have h := q_if hc h
          refine q_bipush (v := (-4)) dX9_turn_51 (by decide) ?_
          cases h
          exact q_iret dX9_turn_53 rfl ⟨rfl, rfl⟩
      · have h := q_it hc h
        refine q_bipush (v := (-2)) dX9_turn_30 (by decide) ?_
        cases h
        exact q_iret dX9_turn_32 rfl ⟨rfl, rfl⟩
  · have h := q_it hc h
    refine q_iconst (v := (-1)) dX9_turn_8 (by decide) ?_
    cases h
    exact q_iret dX9_turn_9 rfl ⟨rfl, rfl⟩
def f_X9_clear (x1 : Int32) (m : q_Mm) : Option (Int32 × q_Mm) :=
  if (f_X9_isPlan x1.toInt64 m) = 0 then
    some (((-1), m))
  else
    if q_in x1 4 = true then
    if q_in x1 4 = true then
    some ((m.1 (46 + 3 * x1.toNatClampNeg) 2, q_wi m (46 + 3 * x1.toNatClampNeg) 2 0))
    else none
    else none
set_option maxRecDepth 100000 in
set_option maxHeartbeats 4000000 in
theorem t_X9_clear {g : q_G} {n : Nat} {F : Nat → Nat → Option Nat} (hn : 89 ≤ n) (hF : q_FF F)  {x1 : Int32} {m : q_Mm} {r : Int32 × q_Mm} (h : f_X9_clear x1 m = some r) : q_Cn g mX9_clear [q_r g 0, .int x1] (q_mk n F m) (q_Q (some (.int r.1)) (q_mk n F r.2)) := by
  unfold f_X9_clear at h
  show q_V g mX9_clear q_T _ _ _ 0 [(0, q_r g 0), (1, .int x1)] [] (q_mk n F m)
  refine q_iload_n dX9_clear_0 rfl ?_
  refine q_i2l dX9_clear_1 ?_
  refine c_S1 (as := [_]) (st := []) dX9_clear_2 okX9_isPlan lX9_76 ⟨rfl, rfl⟩ ⟨Nat.le_of_ble_eq_true rfl, Nat.le_of_ble_eq_true rfl⟩ rfl rfl (Nat.le_of_ble_eq_true rfl) (Nat.le_of_ble_eq_true rfl) (t_X9_isPlan hn hF  rfl) ?_
  refine q_if_ne 10 dX9_clear_5 (by decide) (fun hc => ?_) (fun hc => ?_)
  · have h := q_if hc h
    refine q_aload_n dX9_clear_10 rfl ?_
    refine u_getr dX9_clear_11 fX9_11 rfl rfl (Nat.lt_of_lt_of_le (Nat.le_of_ble_eq_true rfl) hn) (hF 0 0 1 rfl) ?_
    refine q_iload_n dX9_clear_14 rfl ?_
    obtain ⟨hi1, h⟩ := q_is h
    refine u_aald dX9_clear_15 (Or.inl rfl) (Nat.lt_of_lt_of_le (Nat.le_of_ble_eq_true rfl) hn) (q_in_vp hi1) (q_at_planF hF hi1) ?_
    refine u_geti dX9_clear_16 fX9_84 rfl (q_plan_0 (q_at_plan hi1)) (q_lt0 (q_plan_n (q_at_plan hi1) hn)) ?_
    refine q_istore_n (ls' := [(0, _), (1, _), (2, _)]) [0, 1, 2] dX9_clear_19 (Nat.le_of_ble_eq_true rfl) rfl ?_
    refine q_aload_n dX9_clear_20 rfl ?_
    refine u_getr dX9_clear_21 fX9_11 rfl rfl (Nat.lt_of_lt_of_le (Nat.le_of_ble_eq_true rfl) hn) (hF 0 0 1 rfl) ?_
    refine q_iload_n dX9_clear_24 rfl ?_
    obtain ⟨hi2, h⟩ := q_is h
    refine u_aald dX9_clear_25 (Or.inl rfl) (Nat.lt_of_lt_of_le (Nat.le_of_ble_eq_true rfl) hn) (q_in_vp hi2) (q_at_planF hF hi2) ?_
    refine q_iconst (v := 0) dX9_clear_26 (by decide) ?_
    refine u_puti dX9_clear_27 fX9_84 rfl (q_plan_0 (q_at_plan hi2)) (q_lt0 (q_plan_n (q_at_plan hi2) hn)) rfl rfl rfl ?_
    refine q_iload_n dX9_clear_30 rfl ?_
    cases h
    exact q_iret dX9_clear_31 rfl ⟨rfl, rfl⟩
  · have h := q_it hc h
    refine q_iconst (v := (-1)) dX9_clear_8 (by decide) ?_
    cases h
    exact q_iret dX9_clear_9 rfl ⟨rfl, rfl⟩
def f_X9_ofTurn (x1 : Int32) (x2 : Int32) (x3 : Int32) (m : q_Mm) : Option (Int32) :=
  if (f_X9_isPlan x1.toInt64 m) = 0 then
    some ((-101))
  else
    if q_in x1 4 = true then
    if (f_X9_within x2 0 ((m.1 (46 + 3 * x1.toNatClampNeg) 2) - 1) m) = 0 then
      some ((-101))
    else
      if (f_X9_within x3 0 1 m) = 0 then
        some ((-102))
      else
        if x3 = 0 then
          if q_in x1 4 = true then
          if q_in x2 12 = true then
          some (m.1 ((46 + 3 * x1.toNatClampNeg) + 1) x2.toNatClampNeg)
          else none
          else none
        else
          if q_in x1 4 = true then
          if q_in x2 12 = true then
          some (m.1 ((46 + 3 * x1.toNatClampNeg) + 2) x2.toNatClampNeg)
          else none
          else none
    else none
set_option maxRecDepth 100000 in
set_option maxHeartbeats 4000000 in
theorem t_X9_ofTurn {g : q_G} {n : Nat} {F : Nat → Nat → Option Nat} (hn : 89 ≤ n) (hF : q_FF F)  {x1 : Int32} {x2 : Int32} {x3 : Int32} {m : q_Mm} {r : Int32} (h : f_X9_ofTurn x1 x2 x3 m = some r) : q_Cn g mX9_ofTurn [q_r g 0, .int x1, .int x2, .int x3] (q_mk n F m) (q_Q (some (.int r)) (q_mk n F m)) := by
  unfold f_X9_ofTurn at h
  show q_V g mX9_ofTurn q_T _ _ _ 0 [(0, q_r g 0), (1, .int x1), (2, .int x2), (3, .int x3)] [] (q_mk n F m)
  refine q_iload_n dX9_ofTurn_0 rfl ?_
  refine q_i2l dX9_ofTurn_1 ?_
  refine c_S1 (as := [_]) (st := []) dX9_ofTurn_2 okX9_isPlan lX9_76 ⟨rfl, rfl⟩ ⟨Nat.le_of_ble_eq_true rfl, Nat.le_of_ble_eq_true rfl⟩ rfl rfl (Nat.le_of_ble_eq_true rfl) (Nat.le_of_ble_eq_true rfl) (t_X9_isPlan hn hF  rfl) ?_
  refine q_if_eq 27 dX9_ofTurn_5 (by decide) (fun hc => ?_) (fun hc => ?_)
  · have h := q_it hc h
    refine q_bipush (v := (-101)) dX9_ofTurn_27 (by decide) ?_
    cases h
    exact q_iret dX9_ofTurn_29 rfl ⟨rfl, rfl⟩
  · have h := q_if hc h
    refine q_iload_n dX9_ofTurn_8 rfl ?_
    refine q_iconst (v := 0) dX9_ofTurn_9 (by decide) ?_
    refine q_aload_n dX9_ofTurn_10 rfl ?_
    refine u_getr dX9_ofTurn_11 fX9_11 rfl rfl (Nat.lt_of_lt_of_le (Nat.le_of_ble_eq_true rfl) hn) (hF 0 0 1 rfl) ?_
    refine q_iload_n dX9_ofTurn_14 rfl ?_
    obtain ⟨hi1, h⟩ := q_is h
    refine u_aald dX9_ofTurn_15 (Or.inl rfl) (Nat.lt_of_lt_of_le (Nat.le_of_ble_eq_true rfl) hn) (q_in_vp hi1) (q_at_planF hF hi1) ?_
    refine u_geti dX9_ofTurn_16 fX9_84 rfl (q_plan_0 (q_at_plan hi1)) (q_lt0 (q_plan_n (q_at_plan hi1) hn)) ?_
    refine q_iconst (v := 1) dX9_ofTurn_19 (by decide) ?_
    refine q_isub dX9_ofTurn_20 ?_
    refine c_S1 (as := [_, _, _]) (st := []) dX9_ofTurn_21 okX9_within lX9_80 ⟨rfl, rfl⟩ ⟨Nat.le_of_ble_eq_true rfl, Nat.le_of_ble_eq_true rfl⟩ rfl rfl (Nat.le_of_ble_eq_true rfl) (Nat.le_of_ble_eq_true rfl) (t_X9_within hn hF  rfl) ?_
    refine q_if_ne 30 dX9_ofTurn_24 (by decide) (fun hc => ?_) (fun hc => ?_)
    · have h := q_if hc h
      refine q_iload_n dX9_ofTurn_30 rfl ?_
      refine q_iconst (v := 0) dX9_ofTurn_31 (by decide) ?_
      refine q_iconst (v := 1) dX9_ofTurn_32 (by decide) ?_
      refine c_S1 (as := [_, _, _]) (st := []) dX9_ofTurn_33 okX9_within lX9_80 ⟨rfl, rfl⟩ ⟨Nat.le_of_ble_eq_true rfl, Nat.le_of_ble_eq_true rfl⟩ rfl rfl (Nat.le_of_ble_eq_true rfl) (Nat.le_of_ble_eq_true rfl) (t_X9_within hn hF  rfl) ?_
      refine q_if_ne 42 dX9_ofTurn_36 (by decide) (fun hc => ?_) (fun hc => ?_)
      · have h := q_if hc h
        refine q_iload_n dX9_ofTurn_42 rfl ?_
        refine q_if_ne 60 dX9_ofTurn_43 (by decide) (fun hc => ?_) (fun hc => ?_)
        · have h := q_if hc h
          refine q_aload_n dX9_ofTurn_60 rfl ?_
          refine u_getr dX9_ofTurn_61 fX9_11 rfl rfl (Nat.lt_of_lt_of_le (Nat.le_of_ble_eq_true rfl) hn) (hF 0 0 1 rfl) ?_
          refine q_iload_n dX9_ofTurn_64 rfl ?_
          obtain ⟨hi2, h⟩ := q_is h
          refine u_aald dX9_ofTurn_65 (Or.inl rfl) (Nat.lt_of_lt_of_le (Nat.le_of_ble_eq_true rfl) hn) (q_in_vp hi2) (q_at_planF hF hi2) ?_
          refine u_getr dX9_ofTurn_66 fX9_98 rfl (q_plan_0 (q_at_plan hi2)) (q_lt0 (q_plan_n (q_at_plan hi2) hn)) (q_plan_F2 hF (q_at_plan hi2)) ?_
          refine q_iload_n dX9_ofTurn_69 rfl ?_
          obtain ⟨hi3, h⟩ := q_is h
          refine u_iald dX9_ofTurn_70 (q_plan_2 (q_at_plan hi2)) (q_lt2 (q_plan_n (q_at_plan hi2) hn)) (q_in_vp hi3) ?_
          cases h
          exact q_iret dX9_ofTurn_71 rfl ⟨rfl, rfl⟩
        · have h := q_it hc h
          refine q_aload_n dX9_ofTurn_46 rfl ?_
          refine u_getr dX9_ofTurn_47 fX9_11 rfl rfl (Nat.lt_of_lt_of_le (Nat.le_of_ble_eq_true rfl) hn) (hF 0 0 1 rfl) ?_
          refine q_iload_n dX9_ofTurn_50 rfl ?_
          obtain ⟨hi4, h⟩ := q_is h
          refine u_aald dX9_ofTurn_51 (Or.inl rfl) (Nat.lt_of_lt_of_le (Nat.le_of_ble_eq_true rfl) hn) (q_in_vp hi4) (q_at_planF hF hi4) ?_
          refine u_getr dX9_ofTurn_52 fX9_95 rfl (q_plan_0 (q_at_plan hi4)) (q_lt0 (q_plan_n (q_at_plan hi4) hn)) (q_plan_F1 hF (q_at_plan hi4)) ?_
          refine q_iload_n dX9_ofTurn_55 rfl ?_
          obtain ⟨hi5, h⟩ := q_is h
          refine u_iald dX9_ofTurn_56 (q_plan_1 (q_at_plan hi4)) (q_lt1 (q_plan_n (q_at_plan hi4) hn)) (q_in_vp hi5) ?_
          refine q_goto 71 dX9_ofTurn_57 (by decide) ?_
          cases h
          exact q_iret dX9_ofTurn_71 rfl ⟨rfl, rfl⟩
      · have h := q_it hc h
        refine q_bipush (v := (-102)) dX9_ofTurn_39 (by decide) ?_
        cases h
        exact q_iret dX9_ofTurn_41 rfl ⟨rfl, rfl⟩
    · have h := q_it hc h
      refine q_bipush (v := (-101)) dX9_ofTurn_27 (by decide) ?_
      cases h
      exact q_iret dX9_ofTurn_29 rfl ⟨rfl, rfl⟩
def f_X9_course (x1 : Int32) (x2 : Int32) (m : q_Mm) : Option (Int32) :=
  if (f_X9_isPlan x1.toInt64 m) = 0 then
    some ((-101))
  else
    if (f_X9_within x2 0 600 m) = 0 then
      some ((-102))
    else
      if q_in x1 4 = true then
      (f_X5_heading (46 + 3 * x1.toNatClampNeg) (q_rm x2 60) 0 m).bind fun r2 =>
      some (r2)
      else none
set_option maxRecDepth 100000 in
set_option maxHeartbeats 4000000 in
theorem t_X9_course {g : q_G} {n : Nat} {F : Nat → Nat → Option Nat} (hn : 89 ≤ n) (hF : q_FF F)  {x1 : Int32} {x2 : Int32} {m : q_Mm} {r : Int32} (h : f_X9_course x1 x2 m = some r) : q_Cn g mX9_course [q_r g 0, .int x1, .int x2] (q_mk n F m) (q_Q (some (.int r)) (q_mk n F m)) := by
  unfold f_X9_course at h
  show q_V g mX9_course q_T _ _ _ 0 [(0, q_r g 0), (1, .int x1), (2, .int x2)] [] (q_mk n F m)
  refine q_iload_n dX9_course_0 rfl ?_
  refine q_i2l dX9_course_1 ?_
  refine c_S1 (as := [_]) (st := []) dX9_course_2 okX9_isPlan lX9_76 ⟨rfl, rfl⟩ ⟨Nat.le_of_ble_eq_true rfl, Nat.le_of_ble_eq_true rfl⟩ rfl rfl (Nat.le_of_ble_eq_true rfl) (Nat.le_of_ble_eq_true rfl) (t_X9_isPlan hn hF  rfl) ?_
  refine q_if_ne 11 dX9_course_5 (by decide) (fun hc => ?_) (fun hc => ?_)
  · have h := q_if hc h
    refine q_iload_n dX9_course_11 rfl ?_
    refine q_iconst (v := 0) dX9_course_12 (by decide) ?_
    refine q_sipush (v := 600) dX9_course_13 (by decide) ?_
    refine c_S1 (as := [_, _, _]) (st := []) dX9_course_16 okX9_within lX9_80 ⟨rfl, rfl⟩ ⟨Nat.le_of_ble_eq_true rfl, Nat.le_of_ble_eq_true rfl⟩ rfl rfl (Nat.le_of_ble_eq_true rfl) (Nat.le_of_ble_eq_true rfl) (t_X9_within hn hF  rfl) ?_
    refine q_if_ne 25 dX9_course_19 (by decide) (fun hc => ?_) (fun hc => ?_)
    · have h := q_if hc h
      refine q_aload_n dX9_course_25 rfl ?_
      refine u_getr dX9_course_26 fX9_11 rfl rfl (Nat.lt_of_lt_of_le (Nat.le_of_ble_eq_true rfl) hn) (hF 0 0 1 rfl) ?_
      refine q_iload_n dX9_course_29 rfl ?_
      obtain ⟨hi1, h⟩ := q_is h
      refine u_aald dX9_course_30 (Or.inl rfl) (Nat.lt_of_lt_of_le (Nat.le_of_ble_eq_true rfl) hn) (q_in_vp hi1) (q_at_planF hF hi1) ?_
      refine q_iload_n dX9_course_31 rfl ?_
      refine q_bipush (v := 60) dX9_course_32 (by decide) ?_
      refine q_irm dX9_course_34 (by decide) ?_
      refine q_iconst (v := 0) dX9_course_35 (by decide) ?_
      obtain ⟨r2, hr3, h⟩ := q_bd h
      refine c_V1 (as := [_, _]) (st := []) (ci := 5) dX9_course_36 okX5_heading lX9_101 ⟨rfl, rfl⟩ ⟨Nat.le_of_ble_eq_true rfl, Nat.le_of_ble_eq_true rfl⟩ (by decide) rfl (q_plan_0 (q_at_plan hi1)) (q_lt0 (q_plan_n (q_at_plan hi1) hn)) rfl rfl (Nat.le_of_ble_eq_true rfl) (Nat.le_of_ble_eq_true rfl) (t_X5_heading hn hF (q_at_plan hi1) hr3) ?_
      cases h
      exact q_iret dX9_course_39 rfl ⟨rfl, rfl⟩
    · have h := q_it hc h
      refine q_bipush (v := (-102)) dX9_course_22 (by decide) ?_
      cases h
      exact q_iret dX9_course_24 rfl ⟨rfl, rfl⟩
  · have h := q_it hc h
    refine q_bipush (v := (-101)) dX9_course_8 (by decide) ?_
    cases h
    exact q_iret dX9_course_10 rfl ⟨rfl, rfl⟩
def f_X9_ground (x1 : Int32) (x2 : Int32) (x3 : Int32) (m : q_Mm) : Option (Int64) :=
  if (f_X9_isPlan x1.toInt64 m) = 0 then
    some ((-1000000000001))
  else
    if (f_X9_within x2 0 600 m) = 0 then
      some ((-1000000000002))
    else
      if (f_X9_within x3 0 1 m) = 0 then
        some ((-1000000000002))
      else
        if q_in x1 4 = true then
        (f_X5_gain (46 + 3 * x1.toNatClampNeg) x2 x3 m).bind fun r2 =>
        some (r2)
        else none
set_option maxRecDepth 100000 in
set_option maxHeartbeats 4000000 in
theorem t_X9_ground {g : q_G} {n : Nat} {F : Nat → Nat → Option Nat} (hn : 89 ≤ n) (hF : q_FF F)  {x1 : Int32} {x2 : Int32} {x3 : Int32} {m : q_Mm} {r : Int64} (h : f_X9_ground x1 x2 x3 m = some r) : q_Cn g mX9_ground [q_r g 0, .int x1, .int x2, .int x3] (q_mk n F m) (q_Q (some (.long r)) (q_mk n F m)) := by
  unfold f_X9_ground at h
  show q_V g mX9_ground q_T _ _ _ 0 [(0, q_r g 0), (1, .int x1), (2, .int x2), (3, .int x3)] [] (q_mk n F m)
  refine q_iload_n dX9_ground_0 rfl ?_
  refine q_i2l dX9_ground_1 ?_
  refine c_S1 (as := [_]) (st := []) dX9_ground_2 okX9_isPlan lX9_76 ⟨rfl, rfl⟩ ⟨Nat.le_of_ble_eq_true rfl, Nat.le_of_ble_eq_true rfl⟩ rfl rfl (Nat.le_of_ble_eq_true rfl) (Nat.le_of_ble_eq_true rfl) (t_X9_isPlan hn hF  rfl) ?_
  refine q_if_ne 12 dX9_ground_5 (by decide) (fun hc => ?_) (fun hc => ?_)
  · have h := q_if hc h
    refine q_iload_n dX9_ground_12 rfl ?_
    refine q_iconst (v := 0) dX9_ground_13 (by decide) ?_
    refine q_sipush (v := 600) dX9_ground_14 (by decide) ?_
    refine c_S1 (as := [_, _, _]) (st := []) dX9_ground_17 okX9_within lX9_80 ⟨rfl, rfl⟩ ⟨Nat.le_of_ble_eq_true rfl, Nat.le_of_ble_eq_true rfl⟩ rfl rfl (Nat.le_of_ble_eq_true rfl) (Nat.le_of_ble_eq_true rfl) (t_X9_within hn hF  rfl) ?_
    refine q_if_eq 32 dX9_ground_20 (by decide) (fun hc => ?_) (fun hc => ?_)
    · have h := q_it hc h
      refine q_ldc2 dX9_ground_32 kX9_107 ?_
      cases h
      exact q_lret dX9_ground_35 rfl ⟨rfl, rfl⟩
    · have h := q_if hc h
      refine q_iload_n dX9_ground_23 rfl ?_
      refine q_iconst (v := 0) dX9_ground_24 (by decide) ?_
      refine q_iconst (v := 1) dX9_ground_25 (by decide) ?_
      refine c_S1 (as := [_, _, _]) (st := []) dX9_ground_26 okX9_within lX9_80 ⟨rfl, rfl⟩ ⟨Nat.le_of_ble_eq_true rfl, Nat.le_of_ble_eq_true rfl⟩ rfl rfl (Nat.le_of_ble_eq_true rfl) (Nat.le_of_ble_eq_true rfl) (t_X9_within hn hF  rfl) ?_
      refine q_if_ne 36 dX9_ground_29 (by decide) (fun hc => ?_) (fun hc => ?_)
      · have h := q_if hc h
        refine q_aload_n dX9_ground_36 rfl ?_
        refine u_getr dX9_ground_37 fX9_11 rfl rfl (Nat.lt_of_lt_of_le (Nat.le_of_ble_eq_true rfl) hn) (hF 0 0 1 rfl) ?_
        refine q_iload_n dX9_ground_40 rfl ?_
        obtain ⟨hi1, h⟩ := q_is h
        refine u_aald dX9_ground_41 (Or.inl rfl) (Nat.lt_of_lt_of_le (Nat.le_of_ble_eq_true rfl) hn) (q_in_vp hi1) (q_at_planF hF hi1) ?_
        refine q_iload_n dX9_ground_42 rfl ?_
        refine q_iload_n dX9_ground_43 rfl ?_
        obtain ⟨r2, hr3, h⟩ := q_bd h
        refine c_V1 (as := [_, _]) (st := []) (ci := 5) dX9_ground_44 okX5_gain lX9_109 ⟨rfl, rfl⟩ ⟨Nat.le_of_ble_eq_true rfl, Nat.le_of_ble_eq_true rfl⟩ (by decide) rfl (q_plan_0 (q_at_plan hi1)) (q_lt0 (q_plan_n (q_at_plan hi1) hn)) rfl rfl (Nat.le_of_ble_eq_true rfl) (Nat.le_of_ble_eq_true rfl) (t_X5_gain hn hF (q_at_plan hi1) hr3) ?_
        cases h
        exact q_lret dX9_ground_47 rfl ⟨rfl, rfl⟩
      · have h := q_it hc h
        refine q_ldc2 dX9_ground_32 kX9_107 ?_
        cases h
        exact q_lret dX9_ground_35 rfl ⟨rfl, rfl⟩
  · have h := q_it hc h
    refine q_ldc2 dX9_ground_8 kX9_105 ?_
    cases h
    exact q_lret dX9_ground_11 rfl ⟨rfl, rfl⟩
