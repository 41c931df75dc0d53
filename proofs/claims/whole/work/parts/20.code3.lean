def l_X4_weighRow_132 : Nat → Int32 → Int32 → Int32 → Int32 → Int32 → Int32 → Int32 → q_Mm → Option (q_Mm)
  | 0, _, _, _, _, _, _, _, _ => none
  | k + 1, y1, y2, y4, y5, y7, y8, y9, m =>
    if y5 < y9 then
      some (m)
    else
      (f_X4_weigh y1 y2 y9 y8 m).bind fun r1 =>
      if q_in (((y1 * 144) + (12 * y8)) + y9) 5904 = true then
      l_X4_weighRow_132 k  y1 y2 y4 y5 y7 y8 (y9 + 1) (q_wi r1.2 90 ((((y1 * 144) + (12 * y8)) + y9).toNatClampNeg) r1.1)
      else none
set_option maxRecDepth 100000 in
set_option maxHeartbeats 4000000 in
theorem t_l_X4_weighRow_132 {g : q_G} {n : Nat} {F : Nat → Nat → Option Nat} {Z : List Frame → Array Value → State → State → Prop} {kc ks : Nat} (hn : 89 ≤ n) (hF : q_FF F) (hp : 92 ≤ n) (hP : q_FP F)  : ∀ (k : Nat) (y1 : Int32) (y2 : Int32) (y4 : Int32) (y5 : Int32) (y7 : Int32) (y8 : Int32) (y9 : Int32) (m : q_Mm) {r : q_Mm}, l_X4_weighRow_132 k y1 y2 y4 y5 y7 y8 y9 m = some r → (q_V g mX4_weighRow q_T Z kc ks 178 [(0, q_r g 89), (1, .int y1), (2, .int y2), (4, .int y4), (5, .int y5), (7, .int y7), (8, .int y8)] [] (q_mk n F r)) → q_V g mX4_weighRow q_T Z kc ks 132 [(0, q_r g 89), (1, .int y1), (2, .int y2), (4, .int y4), (5, .int y5), (7, .int y7), (8, .int y8), (9, .int y9)] [] (q_mk n F m) := by
  intro k
  induction k with
  | zero => intro y1 y2 y4 y5 y7 y8 y9 m r h; cases h
  | succ k ih =>
    intro y1 y2 y4 y5 y7 y8 y9 m r h hx0
    unfold l_X4_weighRow_132 at h
    refine q_iload dX4_weighRow_132 rfl ?_
    refine q_iload dX4_weighRow_134 rfl ?_
    refine q_icmp_gt 178 dX4_weighRow_136 (by decide) (fun hc => ?_) (fun hc => ?_)
    · have h := q_it hc h
      refine q_drop [0, 1, 2, 4, 5, 7, 8] (ls' := [(0, _), (1, _), (2, _), (4, _), (5, _), (7, _), (8, _)]) rfl ?_
      cases h
      exact hx0
    · have h := q_if hc h
      refine q_iload_n dX4_weighRow_139 rfl ?_
      refine q_sipush (v := 144) dX4_weighRow_140 (by decide) ?_
      refine q_imul dX4_weighRow_143 ?_
      refine q_bipush (v := 12) dX4_weighRow_144 (by decide) ?_
      refine q_iload dX4_weighRow_146 rfl ?_
      refine q_imul dX4_weighRow_148 ?_
      refine q_iadd dX4_weighRow_149 ?_
      refine q_iload dX4_weighRow_150 rfl ?_
      refine q_iadd dX4_weighRow_152 ?_
      refine q_istore (ls' := [(0, _), (1, _), (2, _), (4, _), (5, _), (7, _), (8, _), (9, _), (10, _)]) [0, 1, 2, 4, 5, 7, 8, 9, 10] dX4_weighRow_153 (Nat.le_of_ble_eq_true rfl) rfl ?_
      refine q_aload_n dX4_weighRow_155 rfl ?_
      refine u_getr dX4_weighRow_156 fX4_11 rfl rfl (Nat.lt_of_lt_of_le (Nat.le_of_ble_eq_true rfl) hp) (hP 89 2 90 rfl) ?_
      refine q_iload dX4_weighRow_159 rfl ?_
      refine q_aload_n dX4_weighRow_161 rfl ?_
      refine q_iload_n dX4_weighRow_162 rfl ?_
      refine q_iload_n dX4_weighRow_163 rfl ?_
      refine q_iload dX4_weighRow_164 rfl ?_
      refine q_iload dX4_weighRow_166 rfl ?_
      obtain ⟨r1, hr2, h⟩ := q_bd h
      refine c_V1 (as := [_, _, _, _]) (st := [_, _]) (ci := 4) dX4_weighRow_168 okX4_weigh lX4_73 ⟨rfl, rfl⟩ ⟨Nat.le_of_ble_eq_true rfl, Nat.le_of_ble_eq_true rfl⟩ (by decide) rfl rfl (Nat.lt_of_lt_of_le (Nat.le_of_ble_eq_true rfl) hp) rfl rfl (Nat.le_of_ble_eq_true rfl) (Nat.le_of_ble_eq_true rfl) (t_X4_weigh hn hF hp hP  hr2) ?_
      obtain ⟨hi3, h⟩ := q_is h
      refine u_iast dX4_weighRow_171 rfl (Nat.lt_of_lt_of_le (Nat.le_of_ble_eq_true rfl) hp) (q_in_vp hi3) ?_
      refine q_iinc1 (w := 1) (ls' := [(0, _), (1, _), (2, _), (4, _), (5, _), (7, _), (8, _), (9, _)]) [0, 1, 2, 4, 5, 7, 8, 9] dX4_weighRow_172 rfl (by decide) (Nat.le_of_ble_eq_true rfl) rfl ?_
      refine q_goto 132 dX4_weighRow_175 (by decide) ?_
      exact ih _ _ _ _ _ _ _ _ h hx0
def l_X4_weighRow_121 : Nat → Int32 → Int32 → Int32 → Int32 → Int32 → Int32 → q_Mm → Option (q_Mm)
  | 0, _, _, _, _, _, _, _ => none
  | k + 1, y1, y2, y4, y5, y7, y8, m =>
    if y7 < y8 then
      some (m)
    else
      (l_X4_weighRow_132 7000  y1 y2 y4 y5 y7 y8 y4 m).bind fun r4 =>
      l_X4_weighRow_121 k  y1 y2 y4 y5 y7 (y8 + 1) r4
set_option maxRecDepth 100000 in
set_option maxHeartbeats 4000000 in
theorem t_l_X4_weighRow_121 {g : q_G} {n : Nat} {F : Nat → Nat → Option Nat} {Z : List Frame → Array Value → State → State → Prop} {kc ks : Nat} (hn : 89 ≤ n) (hF : q_FF F) (hp : 92 ≤ n) (hP : q_FP F)  : ∀ (k : Nat) (y1 : Int32) (y2 : Int32) (y4 : Int32) (y5 : Int32) (y7 : Int32) (y8 : Int32) (m : q_Mm) {r : q_Mm}, l_X4_weighRow_121 k y1 y2 y4 y5 y7 y8 m = some r → (q_V g mX4_weighRow q_T Z kc ks 184 [] [] (q_mk n F r)) → q_V g mX4_weighRow q_T Z kc ks 121 [(0, q_r g 89), (1, .int y1), (2, .int y2), (4, .int y4), (5, .int y5), (7, .int y7), (8, .int y8)] [] (q_mk n F m) := by
  intro k
  induction k with
  | zero => intro y1 y2 y4 y5 y7 y8 m r h; cases h
  | succ k ih =>
    intro y1 y2 y4 y5 y7 y8 m r h hx0
    unfold l_X4_weighRow_121 at h
    refine q_iload dX4_weighRow_121 rfl ?_
    refine q_iload dX4_weighRow_123 rfl ?_
    refine q_icmp_gt 184 dX4_weighRow_125 (by decide) (fun hc => ?_) (fun hc => ?_)
    · have h := q_it hc h
      refine q_drop [] (ls' := []) rfl ?_
      cases h
      exact hx0
    · have h := q_if hc h
      refine q_iload dX4_weighRow_128 rfl ?_
      refine q_istore (ls' := [(0, _), (1, _), (2, _), (4, _), (5, _), (7, _), (8, _), (9, _)]) [0, 1, 2, 4, 5, 7, 8, 9] dX4_weighRow_130 (Nat.le_of_ble_eq_true rfl) rfl ?_
      obtain ⟨r4, hr5, h⟩ := q_bd h
      refine t_l_X4_weighRow_132 hn hF hp hP  7000 _ _ _ _ _ _ _ _ hr5 ?_
      refine q_iinc1 (w := 1) (ls' := [(0, _), (1, _), (2, _), (4, _), (5, _), (7, _), (8, _)]) [0, 1, 2, 4, 5, 7, 8] dX4_weighRow_178 rfl (by decide) (Nat.le_of_ble_eq_true rfl) rfl ?_
      refine q_goto 121 dX4_weighRow_181 (by decide) ?_
      exact ih _ _ _ _ _ _ _ h hx0
def f_X4_weighRow (x1 : Int32) (x2 : Int32) (m : q_Mm) : Option (q_Mm) :=
  (l_X4_weighRow_121 7000  x1 x2 (q_max 0 (q_max ((q_rm (m.1 89 4) 12) - ((m.1 89 6) - x1)) ((q_rm (m.1 89 5) 12) - x1))) (q_min 11 (q_min ((q_rm (m.1 89 4) 12) + ((m.1 89 6) - x1)) ((q_rm (m.1 89 5) 12) + x1))) (q_min 11 (q_min (((m.1 89 4) / 12) + ((m.1 89 6) - x1)) (((m.1 89 5) / 12) + x1))) (q_max 0 (q_max (((m.1 89 4) / 12) - ((m.1 89 6) - x1)) (((m.1 89 5) / 12) - x1))) m).bind fun r6 =>
  some (r6)
set_option maxRecDepth 100000 in
set_option maxHeartbeats 4000000 in
theorem t_X4_weighRow {g : q_G} {n : Nat} {F : Nat → Nat → Option Nat} (hn : 89 ≤ n) (hF : q_FF F) (hp : 92 ≤ n) (hP : q_FP F)  {x1 : Int32} {x2 : Int32} {m : q_Mm} {r : q_Mm} (h : f_X4_weighRow x1 x2 m = some r) : q_Cn g mX4_weighRow [q_r g 89, .int x1, .int x2] (q_mk n F m) (q_Q none (q_mk n F r)) := by
  unfold f_X4_weighRow at h
  show q_V g mX4_weighRow q_T _ _ _ 0 [(0, q_r g 89), (1, .int x1), (2, .int x2)] [] (q_mk n F m)
  refine q_aload_n dX4_weighRow_0 rfl ?_
  refine u_geti dX4_weighRow_1 fX4_26 rfl rfl (Nat.lt_of_lt_of_le (Nat.le_of_ble_eq_true rfl) hp) ?_
  refine q_iload_n dX4_weighRow_4 rfl ?_
  refine q_isub dX4_weighRow_5 ?_
  refine q_istore_n (ls' := [(0, _), (1, _), (2, _), (3, _)]) [0, 1, 2, 3] dX4_weighRow_6 (Nat.le_of_ble_eq_true rfl) rfl ?_
  refine q_iconst (v := 0) dX4_weighRow_7 (by decide) ?_
  refine q_aload_n dX4_weighRow_8 rfl ?_
  refine u_geti dX4_weighRow_9 fX4_19 rfl rfl (Nat.lt_of_lt_of_le (Nat.le_of_ble_eq_true rfl) hp) ?_
  refine q_bipush (v := 12) dX4_weighRow_12 (by decide) ?_
  refine q_irm dX4_weighRow_14 (by decide) ?_
  refine q_iload_n dX4_weighRow_15 rfl ?_
  refine q_isub dX4_weighRow_16 ?_
  refine q_aload_n dX4_weighRow_17 rfl ?_
  refine u_geti dX4_weighRow_18 fX4_23 rfl rfl (Nat.lt_of_lt_of_le (Nat.le_of_ble_eq_true rfl) hp) ?_
  refine q_bipush (v := 12) dX4_weighRow_21 (by decide) ?_
  refine q_irm dX4_weighRow_23 (by decide) ?_
  refine q_iload_n dX4_weighRow_24 rfl ?_
  refine q_isub dX4_weighRow_25 ?_
  refine q_mmax dX4_weighRow_26 lX4_67 (Nat.le_of_ble_eq_true rfl) (Nat.le_of_ble_eq_true rfl) ?_
  refine q_mmax dX4_weighRow_29 lX4_67 (Nat.le_of_ble_eq_true rfl) (Nat.le_of_ble_eq_true rfl) ?_
  refine q_istore (ls' := [(0, _), (1, _), (2, _), (3, _), (4, _)]) [0, 1, 2, 3, 4] dX4_weighRow_32 (Nat.le_of_ble_eq_true rfl) rfl ?_
  refine q_bipush (v := 11) dX4_weighRow_34 (by decide) ?_
  refine q_aload_n dX4_weighRow_36 rfl ?_
  refine u_geti dX4_weighRow_37 fX4_19 rfl rfl (Nat.lt_of_lt_of_le (Nat.le_of_ble_eq_true rfl) hp) ?_
  refine q_bipush (v := 12) dX4_weighRow_40 (by decide) ?_
  refine q_irm dX4_weighRow_42 (by decide) ?_
  refine q_iload_n dX4_weighRow_43 rfl ?_
  refine q_iadd dX4_weighRow_44 ?_
  refine q_aload_n dX4_weighRow_45 rfl ?_
  refine u_geti dX4_weighRow_46 fX4_23 rfl rfl (Nat.lt_of_lt_of_le (Nat.le_of_ble_eq_true rfl) hp) ?_
  refine q_bipush (v := 12) dX4_weighRow_49 (by decide) ?_
  refine q_irm dX4_weighRow_51 (by decide) ?_
  refine q_iload_n dX4_weighRow_52 rfl ?_
  refine q_iadd dX4_weighRow_53 ?_
  refine q_mmin dX4_weighRow_54 lX4_49 (Nat.le_of_ble_eq_true rfl) (Nat.le_of_ble_eq_true rfl) ?_
  refine q_mmin dX4_weighRow_57 lX4_49 (Nat.le_of_ble_eq_true rfl) (Nat.le_of_ble_eq_true rfl) ?_
  refine q_istore (ls' := [(0, _), (1, _), (2, _), (3, _), (4, _), (5, _)]) [0, 1, 2, 3, 4, 5] dX4_weighRow_60 (Nat.le_of_ble_eq_true rfl) rfl ?_
  refine q_iconst (v := 0) dX4_weighRow_62 (by decide) ?_
  refine q_aload_n dX4_weighRow_63 rfl ?_
  refine u_geti dX4_weighRow_64 fX4_19 rfl rfl (Nat.lt_of_lt_of_le (Nat.le_of_ble_eq_true rfl) hp) ?_
  refine q_bipush (v := 12) dX4_weighRow_67 (by decide) ?_
  refine q_idiv dX4_weighRow_69 (by decide) ?_
  refine q_iload_n dX4_weighRow_70 rfl ?_
  refine q_isub dX4_weighRow_71 ?_
  refine q_aload_n dX4_weighRow_72 rfl ?_
  refine u_geti dX4_weighRow_73 fX4_23 rfl rfl (Nat.lt_of_lt_of_le (Nat.le_of_ble_eq_true rfl) hp) ?_
  refine q_bipush (v := 12) dX4_weighRow_76 (by decide) ?_
  refine q_idiv dX4_weighRow_78 (by decide) ?_
  refine q_iload_n dX4_weighRow_79 rfl ?_
  refine q_isub dX4_weighRow_80 ?_
  refine q_mmax dX4_weighRow_81 lX4_67 (Nat.le_of_ble_eq_true rfl) (Nat.le_of_ble_eq_true rfl) ?_
  refine q_mmax dX4_weighRow_84 lX4_67 (Nat.le_of_ble_eq_true rfl) (Nat.le_of_ble_eq_true rfl) ?_
  refine q_istore (ls' := [(0, _), (1, _), (2, _), (3, _), (4, _), (5, _), (6, _)]) [0, 1, 2, 3, 4, 5, 6] dX4_weighRow_87 (Nat.le_of_ble_eq_true rfl) rfl ?_
  refine q_bipush (v := 11) dX4_weighRow_89 (by decide) ?_
  refine q_aload_n dX4_weighRow_91 rfl ?_
  refine u_geti dX4_weighRow_92 fX4_19 rfl rfl (Nat.lt_of_lt_of_le (Nat.le_of_ble_eq_true rfl) hp) ?_
  refine q_bipush (v := 12) dX4_weighRow_95 (by decide) ?_
  refine q_idiv dX4_weighRow_97 (by decide) ?_
  refine q_iload_n dX4_weighRow_98 rfl ?_
  refine q_iadd dX4_weighRow_99 ?_
  refine q_aload_n dX4_weighRow_100 rfl ?_
  refine u_geti dX4_weighRow_101 fX4_23 rfl rfl (Nat.lt_of_lt_of_le (Nat.le_of_ble_eq_true rfl) hp) ?_
  refine q_bipush (v := 12) dX4_weighRow_104 (by decide) ?_
  refine q_idiv dX4_weighRow_106 (by decide) ?_
  refine q_iload_n dX4_weighRow_107 rfl ?_
  refine q_iadd dX4_weighRow_108 ?_
  refine q_mmin dX4_weighRow_109 lX4_49 (Nat.le_of_ble_eq_true rfl) (Nat.le_of_ble_eq_true rfl) ?_
  refine q_mmin dX4_weighRow_112 lX4_49 (Nat.le_of_ble_eq_true rfl) (Nat.le_of_ble_eq_true rfl) ?_
  refine q_istore (ls' := [(0, _), (1, _), (2, _), (4, _), (5, _), (6, _), (7, _)]) [0, 1, 2, 4, 5, 6, 7] dX4_weighRow_115 (Nat.le_of_ble_eq_true rfl) rfl ?_
  refine q_iload dX4_weighRow_117 rfl ?_
  refine q_istore (ls' := [(0, _), (1, _), (2, _), (4, _), (5, _), (7, _), (8, _)]) [0, 1, 2, 4, 5, 7, 8] dX4_weighRow_119 (Nat.le_of_ble_eq_true rfl) rfl ?_
  obtain ⟨r6, hr7, h⟩ := q_bd h
  refine t_l_X4_weighRow_121 hn hF hp hP  7000 _ _ _ _ _ _ _ hr7 ?_
  cases h
  exact q_vret dX4_weighRow_184 rfl ⟨rfl, rfl⟩
def l_X4_search_35 : Nat → Int32 → q_Mm → Option (q_Mm)
  | 0, _, _ => none
  | k + 1, y3, m =>
    if (((m.1 89 6) + 1) * 144) ≤ y3 then
      some (m)
    else
      if q_in y3 5904 = true then
      l_X4_search_35 k  (y3 + 1) (q_wi m 90 y3.toNatClampNeg 536870912)
      else none
set_option maxRecDepth 100000 in
set_option maxHeartbeats 4000000 in
theorem t_l_X4_search_35 {g : q_G} {n : Nat} {F : Nat → Nat → Option Nat} {Z : List Frame → Array Value → State → State → Prop} {kc ks : Nat} (hn : 89 ≤ n) (hF : q_FF F) (hp : 92 ≤ n) (hP : q_FP F)  : ∀ (k : Nat) (y3 : Int32) (m : q_Mm) {r : q_Mm}, l_X4_search_35 k y3 m = some r → (q_V g mX4_search q_T Z kc ks 63 [(0, q_r g 89)] [] (q_mk n F r)) → q_V g mX4_search q_T Z kc ks 35 [(0, q_r g 89), (3, .int y3)] [] (q_mk n F m) := by
  intro k
  induction k with
  | zero => intro y3 m r h; cases h
  | succ k ih =>
    intro y3 m r h hx0
    unfold l_X4_search_35 at h
    refine q_iload_n dX4_search_35 rfl ?_
    refine q_aload_n dX4_search_36 rfl ?_
    refine u_geti dX4_search_37 fX4_26 rfl rfl (Nat.lt_of_lt_of_le (Nat.le_of_ble_eq_true rfl) hp) ?_
    refine q_iconst (v := 1) dX4_search_40 (by decide) ?_
    refine q_iadd dX4_search_41 ?_
    refine q_sipush (v := 144) dX4_search_42 (by decide) ?_
    refine q_imul dX4_search_45 ?_
    refine q_icmp_ge 63 dX4_search_46 (by decide) (fun hc => ?_) (fun hc => ?_)
    · have h := q_it hc h
      refine q_drop [0] (ls' := [(0, _)]) rfl ?_
      cases h
      exact hx0
    · have h := q_if hc h
      refine q_aload_n dX4_search_49 rfl ?_
      refine u_getr dX4_search_50 fX4_11 rfl rfl (Nat.lt_of_lt_of_le (Nat.le_of_ble_eq_true rfl) hp) (hP 89 2 90 rfl) ?_
      refine q_iload_n dX4_search_53 rfl ?_
      refine q_ldc dX4_search_54 kX4_38 ?_
      obtain ⟨hi1, h⟩ := q_is h
      refine u_iast dX4_search_56 rfl (Nat.lt_of_lt_of_le (Nat.le_of_ble_eq_true rfl) hp) (q_in_vp hi1) ?_
      refine q_iinc1 (w := 1) (ls' := [(0, _), (3, _)]) [0, 3] dX4_search_57 rfl (by decide) (Nat.le_of_ble_eq_true rfl) rfl ?_
      refine q_goto 35 dX4_search_60 (by decide) ?_
      exact ih _ _ h hx0
def l_X4_search_76 : Nat → Int32 → Int32 → q_Mm → Option (q_Mm)
  | 0, _, _, _ => none
  | k + 1, y3, y4, m =>
    if (m.1 89 6) < y4 then
      some (m)
    else
      (f_X4_weighRow y4 y3 m).bind fun r4 =>
      l_X4_search_76 k  y3 (y4 + 1) r4
set_option maxRecDepth 100000 in
set_option maxHeartbeats 4000000 in
theorem t_l_X4_search_76 {g : q_G} {n : Nat} {F : Nat → Nat → Option Nat} {Z : List Frame → Array Value → State → State → Prop} {kc ks : Nat} (hn : 89 ≤ n) (hF : q_FF F) (hp : 92 ≤ n) (hP : q_FP F)  : ∀ (k : Nat) (y3 : Int32) (y4 : Int32) (m : q_Mm) {r : q_Mm}, l_X4_search_76 k y3 y4 m = some r → (q_V g mX4_search q_T Z kc ks 98 [(0, q_r g 89), (3, .int y3)] [] (q_mk n F r)) → q_V g mX4_search q_T Z kc ks 76 [(0, q_r g 89), (3, .int y3), (4, .int y4)] [] (q_mk n F m) := by
  intro k
  induction k with
  | zero => intro y3 y4 m r h; cases h
  | succ k ih =>
    intro y3 y4 m r h hx0
    unfold l_X4_search_76 at h
    refine q_iload dX4_search_76 rfl ?_
    refine q_aload_n dX4_search_78 rfl ?_
    refine u_geti dX4_search_79 fX4_26 rfl rfl (Nat.lt_of_lt_of_le (Nat.le_of_ble_eq_true rfl) hp) ?_
    refine q_icmp_gt 98 dX4_search_82 (by decide) (fun hc => ?_) (fun hc => ?_)
    · have h := q_it hc h
      refine q_drop [0, 3] (ls' := [(0, _), (3, _)]) rfl ?_
      cases h
      exact hx0
    · have h := q_if hc h
      refine q_aload_n dX4_search_85 rfl ?_
      refine q_iload dX4_search_86 rfl ?_
      refine q_iload_n dX4_search_88 rfl ?_
      obtain ⟨r4, hr5, h⟩ := q_bd h
      refine c_V0 (as := [_, _]) (st := []) (ci := 4) dX4_search_89 okX4_weighRow lX4_70 ⟨rfl, rfl⟩ ⟨Nat.le_of_ble_eq_true rfl, Nat.le_of_ble_eq_true rfl⟩ (by decide) rfl rfl (Nat.lt_of_lt_of_le (Nat.le_of_ble_eq_true rfl) hp) rfl rfl (Nat.le_of_ble_eq_true rfl) (Nat.le_of_ble_eq_true rfl) (t_X4_weighRow hn hF hp hP  hr5) ?_
      refine q_iinc1 (w := 1) (ls' := [(0, _), (3, _), (4, _)]) [0, 3, 4] dX4_search_92 rfl (by decide) (Nat.le_of_ble_eq_true rfl) rfl ?_
      refine q_goto 76 dX4_search_95 (by decide) ?_
      exact ih _ _ _ h hx0
def l_X4_search_65 : Nat → Int32 → q_Mm → Option (q_Mm)
  | 0, _, _ => none
  | k + 1, y3, m =>
    if (m.1 89 7) < y3 then
      some (m)
    else
      (l_X4_search_76 7000  y3 0 m).bind fun r6 =>
      l_X4_search_65 k  (y3 + 1) r6
set_option maxRecDepth 100000 in
set_option maxHeartbeats 4000000 in
theorem t_l_X4_search_65 {g : q_G} {n : Nat} {F : Nat → Nat → Option Nat} {Z : List Frame → Array Value → State → State → Prop} {kc ks : Nat} (hn : 89 ≤ n) (hF : q_FF F) (hp : 92 ≤ n) (hP : q_FP F)  : ∀ (k : Nat) (y3 : Int32) (m : q_Mm) {r : q_Mm}, l_X4_search_65 k y3 m = some r → (q_V g mX4_search q_T Z kc ks 104 [(0, q_r g 89)] [] (q_mk n F r)) → q_V g mX4_search q_T Z kc ks 65 [(0, q_r g 89), (3, .int y3)] [] (q_mk n F m) := by
  intro k
  induction k with
  | zero => intro y3 m r h; cases h
  | succ k ih =>
    intro y3 m r h hx0
    unfold l_X4_search_65 at h
    refine q_iload_n dX4_search_65 rfl ?_
    refine q_aload_n dX4_search_66 rfl ?_
    refine u_geti dX4_search_67 fX4_29 rfl rfl (Nat.lt_of_lt_of_le (Nat.le_of_ble_eq_true rfl) hp) ?_
    refine q_icmp_gt 104 dX4_search_70 (by decide) (fun hc => ?_) (fun hc => ?_)
    · have h := q_it hc h
      refine q_drop [0] (ls' := [(0, _)]) rfl ?_
      cases h
      exact hx0
    · have h := q_if hc h
      refine q_iconst (v := 0) dX4_search_73 (by decide) ?_
      refine q_istore (ls' := [(0, _), (3, _), (4, _)]) [0, 3, 4] dX4_search_74 (Nat.le_of_ble_eq_true rfl) rfl ?_
      obtain ⟨r6, hr7, h⟩ := q_bd h
      refine t_l_X4_search_76 hn hF hp hP  7000 _ _ _ hr7 ?_
      refine q_iinc1 (w := 1) (ls' := [(0, _), (3, _)]) [0, 3] dX4_search_98 rfl (by decide) (Nat.le_of_ble_eq_true rfl) rfl ?_
      refine q_goto 65 dX4_search_101 (by decide) ?_
      exact ih _ _ h hx0
def f_X4_search (x1 : Int32) (x2 : Int32) (m : q_Mm) : Option (q_Mm) :=
  (l_X4_search_35 7000  0 (q_wi (q_wi m 89 6 (q_max 0 (q_min x1 40))) 89 7 (q_max 0 (q_min x2 (40 - ((q_wi m 89 6 (q_max 0 (q_min x1 40))).1 89 6)))))).bind fun r2 =>
  (l_X4_search_65 7000  0 r2).bind fun r8 =>
  if q_in (((r8.1 89 6) * 144) + (r8.1 89 4)) 5904 = true then
  some (q_wi r8 89 10 (r8.1 90 (((r8.1 89 6) * 144) + (r8.1 89 4)).toNatClampNeg))
  else none
set_option maxRecDepth 100000 in
set_option maxHeartbeats 4000000 in
theorem t_X4_search {g : q_G} {n : Nat} {F : Nat → Nat → Option Nat} (hn : 89 ≤ n) (hF : q_FF F) (hp : 92 ≤ n) (hP : q_FP F)  {x1 : Int32} {x2 : Int32} {m : q_Mm} {r : q_Mm} (h : f_X4_search x1 x2 m = some r) : q_Cn g mX4_search [q_r g 89, .int x1, .int x2] (q_mk n F m) (q_Q none (q_mk n F r)) := by
  unfold f_X4_search at h
  show q_V g mX4_search q_T _ _ _ 0 [(0, q_r g 89), (1, .int x1), (2, .int x2)] [] (q_mk n F m)
  refine q_aload_n dX4_search_0 rfl ?_
  refine q_iconst (v := 0) dX4_search_1 (by decide) ?_
  refine q_iload_n dX4_search_2 rfl ?_
  refine q_bipush (v := 40) dX4_search_3 (by decide) ?_
  refine q_mmin dX4_search_5 lX4_49 (Nat.le_of_ble_eq_true rfl) (Nat.le_of_ble_eq_true rfl) ?_
  refine q_mmax dX4_search_8 lX4_67 (Nat.le_of_ble_eq_true rfl) (Nat.le_of_ble_eq_true rfl) ?_
  refine u_puti dX4_search_11 fX4_26 rfl rfl (Nat.lt_of_lt_of_le (Nat.le_of_ble_eq_true rfl) hp) rfl rfl rfl ?_
  refine q_aload_n dX4_search_14 rfl ?_
  refine q_iconst (v := 0) dX4_search_15 (by decide) ?_
  refine q_iload_n dX4_search_16 rfl ?_
  refine q_bipush (v := 40) dX4_search_17 (by decide) ?_
  refine q_aload_n dX4_search_19 rfl ?_
  refine u_geti dX4_search_20 fX4_26 rfl rfl (Nat.lt_of_lt_of_le (Nat.le_of_ble_eq_true rfl) hp) ?_
  refine q_isub dX4_search_23 ?_
  refine q_mmin dX4_search_24 lX4_49 (Nat.le_of_ble_eq_true rfl) (Nat.le_of_ble_eq_true rfl) ?_
  refine q_mmax dX4_search_27 lX4_67 (Nat.le_of_ble_eq_true rfl) (Nat.le_of_ble_eq_true rfl) ?_
  refine u_puti dX4_search_30 fX4_29 rfl rfl (Nat.lt_of_lt_of_le (Nat.le_of_ble_eq_true rfl) hp) rfl rfl rfl ?_
  refine q_iconst (v := 0) dX4_search_33 (by decide) ?_
  refine q_istore_n (ls' := [(0, _), (3, _)]) [0, 3] dX4_search_34 (Nat.le_of_ble_eq_true rfl) rfl ?_
  obtain ⟨r2, hr3, h⟩ := q_bd h
  refine t_l_X4_search_35 hn hF hp hP  7000 _ _ hr3 ?_
  refine q_iconst (v := 0) dX4_search_63 (by decide) ?_
  refine q_istore_n (ls' := [(0, _), (3, _)]) [0, 3] dX4_search_64 (Nat.le_of_ble_eq_true rfl) rfl ?_
  obtain ⟨r8, hr9, h⟩ := q_bd h
  refine t_l_X4_search_65 hn hF hp hP  7000 _ _ hr9 ?_
  refine q_aload_n dX4_search_104 rfl ?_
  refine q_aload_n dX4_search_105 rfl ?_
  refine u_getr dX4_search_106 fX4_11 rfl rfl (Nat.lt_of_lt_of_le (Nat.le_of_ble_eq_true rfl) hp) (hP 89 2 90 rfl) ?_
  refine q_aload_n dX4_search_109 rfl ?_
  refine u_geti dX4_search_110 fX4_26 rfl rfl (Nat.lt_of_lt_of_le (Nat.le_of_ble_eq_true rfl) hp) ?_
  refine q_sipush (v := 144) dX4_search_113 (by decide) ?_
  refine q_imul dX4_search_116 ?_
  refine q_aload_n dX4_search_117 rfl ?_
  refine u_geti dX4_search_118 fX4_19 rfl rfl (Nat.lt_of_lt_of_le (Nat.le_of_ble_eq_true rfl) hp) ?_
  refine q_iadd dX4_search_121 ?_
  obtain ⟨hi10, h⟩ := q_is h
  refine u_iald dX4_search_122 rfl (Nat.lt_of_lt_of_le (Nat.le_of_ble_eq_true rfl) hp) (q_in_vp hi10) ?_
  refine u_puti dX4_search_123 fX4_39 rfl rfl (Nat.lt_of_lt_of_le (Nat.le_of_ble_eq_true rfl) hp) rfl rfl rfl ?_
  cases h
  exact q_vret dX4_search_126 rfl ⟨rfl, rfl⟩
def f_X4_findAlone (x1 : Int32) (x2 : Int32) (x3 : Int32) (x4 : Int32) (m : q_Mm) : Option (Int32 × q_Mm) :=
  (f_X4_search (q_min x3 x4) 0 (q_wi (q_wi (q_wi (q_wi m 89 4 x1) 89 5 x2) 89 8 (-1)) 89 9 0)).bind fun r1 =>
  if 536870912 ≤ (r1.1 89 10) then
    some ((0, r1))
  else
    some ((1, r1))
set_option maxRecDepth 100000 in
set_option maxHeartbeats 4000000 in
theorem t_X4_findAlone {g : q_G} {n : Nat} {F : Nat → Nat → Option Nat} (hn : 89 ≤ n) (hF : q_FF F) (hp : 92 ≤ n) (hP : q_FP F)  {x1 : Int32} {x2 : Int32} {x3 : Int32} {x4 : Int32} {m : q_Mm} {r : Int32 × q_Mm} (h : f_X4_findAlone x1 x2 x3 x4 m = some r) : q_Cn g mX4_findAlone [q_r g 89, .int x1, .int x2, .int x3, .int x4] (q_mk n F m) (q_Q (some (.int r.1)) (q_mk n F r.2)) := by
  unfold f_X4_findAlone at h
  show q_V g mX4_findAlone q_T _ _ _ 0 [(0, q_r g 89), (1, .int x1), (2, .int x2), (3, .int x3), (4, .int x4)] [] (q_mk n F m)
  refine q_aload_n dX4_findAlone_0 rfl ?_
  refine q_iload_n dX4_findAlone_1 rfl ?_
  refine u_puti dX4_findAlone_2 fX4_19 rfl rfl (Nat.lt_of_lt_of_le (Nat.le_of_ble_eq_true rfl) hp) rfl rfl rfl ?_
  refine q_aload_n dX4_findAlone_5 rfl ?_
  refine q_iload_n dX4_findAlone_6 rfl ?_
  refine u_puti dX4_findAlone_7 fX4_23 rfl rfl (Nat.lt_of_lt_of_le (Nat.le_of_ble_eq_true rfl) hp) rfl rfl rfl ?_
  refine q_aload_n dX4_findAlone_10 rfl ?_
  refine q_iconst (v := (-1)) dX4_findAlone_11 (by decide) ?_
  refine u_puti dX4_findAlone_12 fX4_32 rfl rfl (Nat.lt_of_lt_of_le (Nat.le_of_ble_eq_true rfl) hp) rfl rfl rfl ?_
  refine q_aload_n dX4_findAlone_15 rfl ?_
  refine q_iconst (v := 0) dX4_findAlone_16 (by decide) ?_
  refine u_puti dX4_findAlone_17 fX4_35 rfl rfl (Nat.lt_of_lt_of_le (Nat.le_of_ble_eq_true rfl) hp) rfl rfl rfl ?_
  refine q_aload_n dX4_findAlone_20 rfl ?_
  refine q_iload_n dX4_findAlone_21 rfl ?_
  refine q_iload dX4_findAlone_22 rfl ?_
  refine q_mmin dX4_findAlone_24 lX4_49 (Nat.le_of_ble_eq_true rfl) (Nat.le_of_ble_eq_true rfl) ?_
  refine q_iconst (v := 0) dX4_findAlone_27 (by decide) ?_
  obtain ⟨r1, hr2, h⟩ := q_bd h
  refine c_V0 (as := [_, _]) (st := []) (ci := 4) dX4_findAlone_28 okX4_search lX4_55 ⟨rfl, rfl⟩ ⟨Nat.le_of_ble_eq_true rfl, Nat.le_of_ble_eq_true rfl⟩ (by decide) rfl rfl (Nat.lt_of_lt_of_le (Nat.le_of_ble_eq_true rfl) hp) rfl rfl (Nat.le_of_ble_eq_true rfl) (Nat.le_of_ble_eq_true rfl) (t_X4_search hn hF hp hP  hr2) ?_
  refine q_aload_n dX4_findAlone_31 rfl ?_
  refine u_geti dX4_findAlone_32 fX4_39 rfl rfl (Nat.lt_of_lt_of_le (Nat.le_of_ble_eq_true rfl) hp) ?_
  refine q_ldc dX4_findAlone_35 kX4_38 ?_
  refine q_icmp_ge 44 dX4_findAlone_37 (by decide) (fun hc => ?_) (fun hc => ?_)
  · have h := q_it hc h
    refine q_iconst (v := 0) dX4_findAlone_44 (by decide) ?_
    cases h
    exact q_zret dX4_findAlone_45 rfl rfl ⟨rfl, rfl⟩
  · have h := q_if hc h
    refine q_iconst (v := 1) dX4_findAlone_40 (by decide) ?_
    refine q_goto 45 dX4_findAlone_41 (by decide) ?_
    cases h
    exact q_zret dX4_findAlone_45 rfl rfl ⟨rfl, rfl⟩
def l_X4_findApart_26 : Nat → Int32 → Int32 → Int32 → q_Mm → Option (q_Mm)
  | 0, _, _, _, _ => none
  | k + 1, y3, y4, y6, m =>
    if y6 < 0 then
      some (m)
    else
      (f_X4_isApart (m.1 89 5) y6 m).bind fun r1 =>
      if r1 = 0 then
        some (m)
      else
        l_X4_findApart_26 k  y3 y4 (y6 + (-1)) (q_wi m 89 9 y6)
set_option maxRecDepth 100000 in
set_option maxHeartbeats 4000000 in
theorem t_l_X4_findApart_26 {g : q_G} {n : Nat} {F : Nat → Nat → Option Nat} {Z : List Frame → Array Value → State → State → Prop} {kc ks : Nat} (hn : 89 ≤ n) (hF : q_FF F) (hp : 92 ≤ n) (hP : q_FP F)  : ∀ (k : Nat) (y3 : Int32) (y4 : Int32) (y6 : Int32) (m : q_Mm) {r : q_Mm}, l_X4_findApart_26 k y3 y4 y6 m = some r → (q_V g mX4_findApart q_T Z kc ks 56 [(0, q_r g 89), (3, .int y3), (4, .int y4)] [] (q_mk n F r)) → q_V g mX4_findApart q_T Z kc ks 26 [(0, q_r g 89), (3, .int y3), (4, .int y4), (6, .int y6)] [] (q_mk n F m) := by
  intro k
  induction k with
  | zero => intro y3 y4 y6 m r h; cases h
  | succ k ih =>
    intro y3 y4 y6 m r h hx0
    unfold l_X4_findApart_26 at h
    refine q_iload dX4_findApart_26 rfl ?_
    refine q_if_lt 56 dX4_findApart_28 (by decide) (fun hc => ?_) (fun hc => ?_)
    · have h := q_it hc h
      refine q_drop [0, 3, 4] (ls' := [(0, _), (3, _), (4, _)]) rfl ?_
      cases h
      exact hx0
    · have h := q_if hc h
      refine q_aload_n dX4_findApart_31 rfl ?_
      refine q_aload_n dX4_findApart_32 rfl ?_
      refine u_geti dX4_findApart_33 fX4_23 rfl rfl (Nat.lt_of_lt_of_le (Nat.le_of_ble_eq_true rfl) hp) ?_
      refine q_iload dX4_findApart_36 rfl ?_
      obtain ⟨r1, hr2, h⟩ := q_bd h
      refine c_V1 (as := [_, _]) (st := []) (ci := 4) dX4_findApart_38 okX4_isApart lX4_59 ⟨rfl, rfl⟩ ⟨Nat.le_of_ble_eq_true rfl, Nat.le_of_ble_eq_true rfl⟩ (by decide) rfl rfl (Nat.lt_of_lt_of_le (Nat.le_of_ble_eq_true rfl) hp) rfl rfl (Nat.le_of_ble_eq_true rfl) (Nat.le_of_ble_eq_true rfl) (t_X4_isApart hn hF hp hP  hr2) ?_
      refine q_if_eq 56 dX4_findApart_41 (by decide) (fun hc => ?_) (fun hc => ?_)
      · have h := q_it hc h
        refine q_drop [0, 3, 4] (ls' := [(0, _), (3, _), (4, _)]) rfl ?_
        cases h
        exact hx0
      · have h := q_if hc h
        refine q_aload_n dX4_findApart_44 rfl ?_
        refine q_iload dX4_findApart_45 rfl ?_
        refine u_puti dX4_findApart_47 fX4_35 rfl rfl (Nat.lt_of_lt_of_le (Nat.le_of_ble_eq_true rfl) hp) rfl rfl rfl ?_
        refine q_iinc1 (w := (-1)) (ls' := [(0, _), (3, _), (4, _), (6, _)]) [0, 3, 4, 6] dX4_findApart_50 rfl (by decide) (Nat.le_of_ble_eq_true rfl) rfl ?_
        refine q_goto 26 dX4_findApart_53 (by decide) ?_
        exact ih _ _ _ _ h hx0
def f_X4_findApart (x1 : Int32) (x2 : Int32) (x3 : Int32) (x4 : Int32) (x5 : Int32) (m : q_Mm) : Option (Int32 × q_Mm) :=
  (l_X4_findApart_26 7000  x3 x4 41 (q_wi (q_wi (q_wi (q_wi m 89 4 x1) 89 5 x2) 89 8 x5) 89 9 42)).bind fun r3 =>
  (f_X4_search x3 0 r3).bind fun r5 =>
  if 536870912 ≤ (r5.1 89 10) then
    if 536870912 ≤ (r5.1 89 10) then
      some ((0, r5))
    else
      some ((1, r5))
  else
    if (f_X4_foundFuel  r5) ≤ x4 then
      if 536870912 ≤ (r5.1 89 10) then
        some ((0, r5))
      else
        some ((1, r5))
    else
      (f_X4_search x4 (x3 - x4) r5).bind fun r7 =>
      if 536870912 ≤ (r7.1 89 10) then
        some ((0, r7))
      else
        some ((1, r7))
set_option maxRecDepth 100000 in
set_option maxHeartbeats 4000000 in
theorem t_X4_findApart {g : q_G} {n : Nat} {F : Nat → Nat → Option Nat} (hn : 89 ≤ n) (hF : q_FF F) (hp : 92 ≤ n) (hP : q_FP F)  {x1 : Int32} {x2 : Int32} {x3 : Int32} {x4 : Int32} {x5 : Int32} {m : q_Mm} {r : Int32 × q_Mm} (h : f_X4_findApart x1 x2 x3 x4 x5 m = some r) : q_Cn g mX4_findApart [q_r g 89, .int x1, .int x2, .int x3, .int x4, .int x5] (q_mk n F m) (q_Q (some (.int r.1)) (q_mk n F r.2)) := by
  unfold f_X4_findApart at h
  show q_V g mX4_findApart q_T _ _ _ 0 [(0, q_r g 89), (1, .int x1), (2, .int x2), (3, .int x3), (4, .int x4), (5, .int x5)] [] (q_mk n F m)
  refine q_aload_n dX4_findApart_0 rfl ?_
  refine q_iload_n dX4_findApart_1 rfl ?_
  refine u_puti dX4_findApart_2 fX4_19 rfl rfl (Nat.lt_of_lt_of_le (Nat.le_of_ble_eq_true rfl) hp) rfl rfl rfl ?_
  refine q_aload_n dX4_findApart_5 rfl ?_
  refine q_iload_n dX4_findApart_6 rfl ?_
  refine u_puti dX4_findApart_7 fX4_23 rfl rfl (Nat.lt_of_lt_of_le (Nat.le_of_ble_eq_true rfl) hp) rfl rfl rfl ?_
  refine q_aload_n dX4_findApart_10 rfl ?_
  refine q_iload dX4_findApart_11 rfl ?_
  refine u_puti dX4_findApart_13 fX4_32 rfl rfl (Nat.lt_of_lt_of_le (Nat.le_of_ble_eq_true rfl) hp) rfl rfl rfl ?_
  refine q_aload_n dX4_findApart_16 rfl ?_
  refine q_bipush (v := 42) dX4_findApart_17 (by decide) ?_
  refine u_puti dX4_findApart_19 fX4_35 rfl rfl (Nat.lt_of_lt_of_le (Nat.le_of_ble_eq_true rfl) hp) rfl rfl rfl ?_
  refine q_bipush (v := 41) dX4_findApart_22 (by decide) ?_
  refine q_istore (ls' := [(0, _), (3, _), (4, _), (6, _)]) [0, 3, 4, 6] dX4_findApart_24 (Nat.le_of_ble_eq_true rfl) rfl ?_
  obtain ⟨r3, hr4, h⟩ := q_bd h
  refine t_l_X4_findApart_26 hn hF hp hP  7000 _ _ _ _ hr4 ?_
  refine q_aload_n dX4_findApart_56 rfl ?_
  refine q_iload_n dX4_findApart_57 rfl ?_
  refine q_iconst (v := 0) dX4_findApart_58 (by decide) ?_
  obtain ⟨r5, hr6, h⟩ := q_bd h
  refine c_V0 (as := [_, _]) (st := []) (ci := 4) dX4_findApart_59 okX4_search lX4_55 ⟨rfl, rfl⟩ ⟨Nat.le_of_ble_eq_true rfl, Nat.le_of_ble_eq_true rfl⟩ (by decide) rfl rfl (Nat.lt_of_lt_of_le (Nat.le_of_ble_eq_true rfl) hp) rfl rfl (Nat.le_of_ble_eq_true rfl) (Nat.le_of_ble_eq_true rfl) (t_X4_search hn hF hp hP  hr6) ?_
  refine q_aload_n dX4_findApart_62 rfl ?_
  refine u_geti dX4_findApart_63 fX4_39 rfl rfl (Nat.lt_of_lt_of_le (Nat.le_of_ble_eq_true rfl) hp) ?_
  refine q_ldc dX4_findApart_66 kX4_38 ?_
  refine q_icmp_ge 90 dX4_findApart_68 (by decide) (fun hc => ?_) (fun hc => ?_)
  · have h := q_it hc h
    refine q_aload_n dX4_findApart_90 rfl ?_
    refine u_geti dX4_findApart_91 fX4_39 rfl rfl (Nat.lt_of_lt_of_le (Nat.le_of_ble_eq_true rfl) hp) ?_
    refine q_ldc dX4_findApart_94 kX4_38 ?_
    refine q_icmp_ge 103 dX4_findApart_96 (by decide) (fun hc => ?_) (fun hc => ?_)
    · have h := q_it hc h
      refine q_iconst (v := 0) dX4_findApart_103 (by decide) ?_
      cases h
      exact q_zret dX4_findApart_104 rfl rfl ⟨rfl, rfl⟩
    · have h := q_if hc h
      refine q_iconst (v := 1) dX4_findApart_99 (by decide) ?_
      refine q_goto 104 dX4_findApart_100 (by decide) ?_
      cases h
      exact q_zret dX4_findApart_104 rfl rfl ⟨rfl, rfl⟩
  · have h := q_if hc h
    refine q_aload_n dX4_findApart_71 rfl ?_
    refine c_V1 (as := []) (st := []) (ci := 4) dX4_findApart_72 okX4_foundFuel lX4_63 ⟨rfl, rfl⟩ ⟨Nat.le_of_ble_eq_true rfl, Nat.le_of_ble_eq_true rfl⟩ (by decide) rfl rfl (Nat.lt_of_lt_of_le (Nat.le_of_ble_eq_true rfl) hp) rfl rfl (Nat.le_of_ble_eq_true rfl) (Nat.le_of_ble_eq_true rfl) (t_X4_foundFuel hn hF hp hP  rfl) ?_
    refine q_iload dX4_findApart_75 rfl ?_
    refine q_icmp_le 90 dX4_findApart_77 (by decide) (fun hc => ?_) (fun hc => ?_)
    · have h := q_it hc h
      refine q_aload_n dX4_findApart_90 rfl ?_
      refine u_geti dX4_findApart_91 fX4_39 rfl rfl (Nat.lt_of_lt_of_le (Nat.le_of_ble_eq_true rfl) hp) ?_
      refine q_ldc dX4_findApart_94 kX4_38 ?_
      refine q_icmp_ge 103 dX4_findApart_96 (by decide) (fun hc => ?_) (fun hc => ?_)
      · have h := q_it hc h
        refine q_iconst (v := 0) dX4_findApart_103 (by decide) ?_
        cases h
        exact q_zret dX4_findApart_104 rfl rfl ⟨rfl, rfl⟩
      · have h := q_if hc h
        refine q_iconst (v := 1) dX4_findApart_99 (by decide) ?_
        refine q_goto 104 dX4_findApart_100 (by decide) ?_
        cases h
        exact q_zret dX4_findApart_104 rfl rfl ⟨rfl, rfl⟩
    · have h := q_if hc h
      refine q_aload_n dX4_findApart_80 rfl ?_
      refine q_iload dX4_findApart_81 rfl ?_
      refine q_iload_n dX4_findApart_83 rfl ?_
      refine q_iload dX4_findApart_84 rfl ?_
      refine q_isub dX4_findApart_86 ?_
      obtain ⟨r7, hr8, h⟩ := q_bd h
      refine c_V0 (as := [_, _]) (st := []) (ci := 4) dX4_findApart_87 okX4_search lX4_55 ⟨rfl, rfl⟩ ⟨Nat.le_of_ble_eq_true rfl, Nat.le_of_ble_eq_true rfl⟩ (by decide) rfl rfl (Nat.lt_of_lt_of_le (Nat.le_of_ble_eq_true rfl) hp) rfl rfl (Nat.le_of_ble_eq_true rfl) (Nat.le_of_ble_eq_true rfl) (t_X4_search hn hF hp hP  hr8) ?_
      refine q_aload_n dX4_findApart_90 rfl ?_
      refine u_geti dX4_findApart_91 fX4_39 rfl rfl (Nat.lt_of_lt_of_le (Nat.le_of_ble_eq_true rfl) hp) ?_
      refine q_ldc dX4_findApart_94 kX4_38 ?_
      refine q_icmp_ge 103 dX4_findApart_96 (by decide) (fun hc => ?_) (fun hc => ?_)
      · have h := q_it hc h
        refine q_iconst (v := 0) dX4_findApart_103 (by decide) ?_
        cases h
        exact q_zret dX4_findApart_104 rfl rfl ⟨rfl, rfl⟩
      · have h := q_if hc h
        refine q_iconst (v := 1) dX4_findApart_99 (by decide) ?_
        refine q_goto 104 dX4_findApart_100 (by decide) ?_
        cases h
        exact q_zret dX4_findApart_104 rfl rfl ⟨rfl, rfl⟩
def f_X4_keptMove (x1 : Int32) (x2 : Int32) (x3 : Int32) (m : q_Mm) : Option (Int32) :=
  if q_in (f_X4_longOf x1 x2 x3 m) 3969 = true then
  some ((((m.2 91 (f_X4_longOf x1 x2 x3 m).toNatClampNeg) >>> ((f_X4_shiftOf x3 m).toInt64 &&& 63)) &&& 15).toInt32)
  else none
set_option maxRecDepth 100000 in
set_option maxHeartbeats 4000000 in
theorem t_X4_keptMove {g : q_G} {n : Nat} {F : Nat → Nat → Option Nat} (hn : 89 ≤ n) (hF : q_FF F) (hp : 92 ≤ n) (hP : q_FP F)  {x1 : Int32} {x2 : Int32} {x3 : Int32} {m : q_Mm} {r : Int32} (h : f_X4_keptMove x1 x2 x3 m = some r) : q_Cn g mX4_keptMove [q_r g 89, .int x1, .int x2, .int x3] (q_mk n F m) (q_Q (some (.int r)) (q_mk n F m)) := by
  unfold f_X4_keptMove at h
  show q_V g mX4_keptMove q_T _ _ _ 0 [(0, q_r g 89), (1, .int x1), (2, .int x2), (3, .int x3)] [] (q_mk n F m)
  refine q_aload_n dX4_keptMove_0 rfl ?_
  refine u_getr dX4_keptMove_1 fX4_15 rfl rfl (Nat.lt_of_lt_of_le (Nat.le_of_ble_eq_true rfl) hp) (hP 89 3 91 rfl) ?_
  refine q_aload_n dX4_keptMove_4 rfl ?_
  refine q_iload_n dX4_keptMove_5 rfl ?_
  refine q_iload_n dX4_keptMove_6 rfl ?_
  refine q_iload_n dX4_keptMove_7 rfl ?_
  refine c_V1 (as := [_, _, _]) (st := [_]) (ci := 4) dX4_keptMove_8 okX4_longOf lX4_109 ⟨rfl, rfl⟩ ⟨Nat.le_of_ble_eq_true rfl, Nat.le_of_ble_eq_true rfl⟩ (by decide) rfl rfl (Nat.lt_of_lt_of_le (Nat.le_of_ble_eq_true rfl) hp) rfl rfl (Nat.le_of_ble_eq_true rfl) (Nat.le_of_ble_eq_true rfl) (t_X4_longOf hn hF hp hP  rfl) ?_
  obtain ⟨hi1, h⟩ := q_is h
  refine u_lald dX4_keptMove_11 rfl (Nat.lt_of_lt_of_le (Nat.le_of_ble_eq_true rfl) hp) (q_in_vp hi1) ?_
  refine q_iload_n dX4_keptMove_12 rfl ?_
  refine c_S1 (as := [_]) (st := [_]) dX4_keptMove_13 okX4_shiftOf lX4_114 ⟨rfl, rfl⟩ ⟨Nat.le_of_ble_eq_true rfl, Nat.le_of_ble_eq_true rfl⟩ rfl rfl (Nat.le_of_ble_eq_true rfl) (Nat.le_of_ble_eq_true rfl) (t_X4_shiftOf hn hF hp hP  rfl) ?_
  refine q_lshr dX4_keptMove_16 ?_
  refine q_ldc2 dX4_keptMove_17 kX4_112 ?_
  refine q_land dX4_keptMove_20 ?_
  refine q_l2i dX4_keptMove_21 ?_
  cases h
  exact q_iret dX4_keptMove_22 rfl ⟨rfl, rfl⟩
def l_X4_write_30 : Nat → Nat → Int32 → Int32 → Int32 → Int32 → Int32 → q_Mm → Option (Int32 × q_Mm)
  | 0, _, _, _, _, _, _, _ => none
  | k + 1, b1, y3, y4, y5, y6, y7, m =>
    if 40 ≤ y7 then
      some (y7, m)
    else
      if (y5 + y6) ≤ 0 then
        some (y7, m)
      else
        if (f_X4_endsAt y4 (f_X4_dayOf y5 y6 m) m) = 0 then
          (f_X4_keptMove y5 y6 y4 m).bind fun r2 =>
          if (q_min r2 (9 - 1)) = 0 then
            if y6 ≤ 0 then
              if q_in (q_min r2 (9 - 1)) 9 = true then
              if q_in (q_min r2 (9 - 1)) 9 = true then
              if q_in (y7 + 1) 41 = true then
              l_X4_write_30 k b1 y3 (y4 + ((12 * (q_sv 3 (q_min r2 (9 - 1)).toNatClampNeg)) + (q_sv 2 (q_min r2 (9 - 1)).toNatClampNeg))) (y5 + (-1)) y6 (y7 + 1) (q_wi m (b1 + 1) ((y7 + 1).toNatClampNeg) (y4 + ((12 * (q_sv 3 (q_min r2 (9 - 1)).toNatClampNeg)) + (q_sv 2 (q_min r2 (9 - 1)).toNatClampNeg))))
              else none
              else none
              else none
            else
              if q_in (q_min r2 (9 - 1)) 9 = true then
              if q_in (q_min r2 (9 - 1)) 9 = true then
              if q_in (y7 + 1) 41 = true then
              l_X4_write_30 k b1 y3 (y4 + ((12 * (q_sv 3 (q_min r2 (9 - 1)).toNatClampNeg)) + (q_sv 2 (q_min r2 (9 - 1)).toNatClampNeg))) y5 (y6 + (-1)) (y7 + 1) (q_wi m (b1 + 1) ((y7 + 1).toNatClampNeg) (y4 + ((12 * (q_sv 3 (q_min r2 (9 - 1)).toNatClampNeg)) + (q_sv 2 (q_min r2 (9 - 1)).toNatClampNeg))))
              else none
              else none
              else none
          else
            if q_in (q_min r2 (9 - 1)) 9 = true then
            if q_in (q_min r2 (9 - 1)) 9 = true then
            if q_in (y7 + 1) 41 = true then
            l_X4_write_30 k b1 y3 (y4 + ((12 * (q_sv 3 (q_min r2 (9 - 1)).toNatClampNeg)) + (q_sv 2 (q_min r2 (9 - 1)).toNatClampNeg))) (y5 + (-1)) y6 (y7 + 1) (q_wi m (b1 + 1) ((y7 + 1).toNatClampNeg) (y4 + ((12 * (q_sv 3 (q_min r2 (9 - 1)).toNatClampNeg)) + (q_sv 2 (q_min r2 (9 - 1)).toNatClampNeg))))
            else none
            else none
            else none
        else
          some (y7, m)
set_option maxRecDepth 100000 in
set_option maxHeartbeats 4000000 in
theorem t_l_X4_write_30 {g : q_G} {n : Nat} {F : Nat → Nat → Option Nat} {Z : List Frame → Array Value → State → State → Prop} {kc ks : Nat} (hn : 89 ≤ n) (hF : q_FF F) (hp : 92 ≤ n) (hP : q_FP F) {b1 : Nat} (hb1 : q_isVoy b1) : ∀ (k : Nat) (y3 : Int32) (y4 : Int32) (y5 : Int32) (y6 : Int32) (y7 : Int32) (m : q_Mm) {r : Int32 × q_Mm}, l_X4_write_30 k b1 y3 y4 y5 y6 y7 m = some r → (q_V g mX4_write q_T Z kc ks 138 [(0, q_r g 89), (1, q_r g b1), (3, .int y3), (7, .int r.1)] [] (q_mk n F r.2)) → q_V g mX4_write q_T Z kc ks 30 [(0, q_r g 89), (1, q_r g b1), (3, .int y3), (4, .int y4), (5, .int y5), (6, .int y6), (7, .int y7)] [] (q_mk n F m) := by
  intro k
  induction k with
  | zero => intro y3 y4 y5 y6 y7 m r h; cases h
  | succ k ih =>
    intro y3 y4 y5 y6 y7 m r h hx0
    unfold l_X4_write_30 at h
    refine q_iload dX4_write_30 rfl ?_
    refine q_bipush (v := 40) dX4_write_32 (by decide) ?_
    refine q_icmp_ge 138 dX4_write_34 (by decide) (fun hc => ?_) (fun hc => ?_)
    · have h := q_it hc h
      refine q_drop [0, 1, 3, 7] (ls' := [(0, _), (1, _), (3, _), (7, _)]) rfl ?_
      cases h
      exact hx0
    · have h := q_if hc h
      refine q_iload dX4_write_37 rfl ?_
      refine q_iload dX4_write_39 rfl ?_
      refine q_iadd dX4_write_41 ?_
      refine q_if_le 138 dX4_write_42 (by decide) (fun hc => ?_) (fun hc => ?_)
      · have h := q_it hc h
        refine q_drop [0, 1, 3, 7] (ls' := [(0, _), (1, _), (3, _), (7, _)]) rfl ?_
        cases h
        exact hx0
      · have h := q_if hc h
        refine q_aload_n dX4_write_45 rfl ?_
        refine q_iload dX4_write_46 rfl ?_
        refine q_aload_n dX4_write_48 rfl ?_
        refine q_iload dX4_write_49 rfl ?_
        refine q_iload dX4_write_51 rfl ?_
        refine c_V1 (as := [_, _]) (st := [_, _]) (ci := 4) dX4_write_53 okX4_dayOf lX4_77 ⟨rfl, rfl⟩ ⟨Nat.le_of_ble_eq_true rfl, Nat.le_of_ble_eq_true rfl⟩ (by decide) rfl rfl (Nat.lt_of_lt_of_le (Nat.le_of_ble_eq_true rfl) hp) rfl rfl (Nat.le_of_ble_eq_true rfl) (Nat.le_of_ble_eq_true rfl) (t_X4_dayOf hn hF hp hP  rfl) ?_
        refine c_V1 (as := [_, _]) (st := []) (ci := 4) dX4_write_56 okX4_endsAt lX4_80 ⟨rfl, rfl⟩ ⟨Nat.le_of_ble_eq_true rfl, Nat.le_of_ble_eq_true rfl⟩ (by decide) rfl rfl (Nat.lt_of_lt_of_le (Nat.le_of_ble_eq_true rfl) hp) rfl rfl (Nat.le_of_ble_eq_true rfl) (Nat.le_of_ble_eq_true rfl) (t_X4_endsAt hn hF hp hP  rfl) ?_
        refine q_if_ne 138 dX4_write_59 (by decide) (fun hc => ?_) (fun hc => ?_)
        · have h := q_if hc h
          refine q_drop [0, 1, 3, 7] (ls' := [(0, _), (1, _), (3, _), (7, _)]) rfl ?_
          cases h
          exact hx0
        · have h := q_it hc h
          refine q_aload_n dX4_write_62 rfl ?_
          refine q_iload dX4_write_63 rfl ?_
          refine q_iload dX4_write_65 rfl ?_
          refine q_iload dX4_write_67 rfl ?_
          obtain ⟨r2, hr3, h⟩ := q_bd h
          refine c_V1 (as := [_, _, _]) (st := []) (ci := 4) dX4_write_69 okX4_keptMove lX4_122 ⟨rfl, rfl⟩ ⟨Nat.le_of_ble_eq_true rfl, Nat.le_of_ble_eq_true rfl⟩ (by decide) rfl rfl (Nat.lt_of_lt_of_le (Nat.le_of_ble_eq_true rfl) hp) rfl rfl (Nat.le_of_ble_eq_true rfl) (Nat.le_of_ble_eq_true rfl) (t_X4_keptMove hn hF hp hP  hr3) ?_
          refine q_gets (i := 2) dX4_write_72 (by decide) fX4_87 ?_
          refine q_slen (i := 2) (v := 9) dX4_write_75 (by decide) (by decide) ?_
          refine q_iconst (v := 1) dX4_write_76 (by decide) ?_
          refine q_isub dX4_write_77 ?_
          refine q_mmin dX4_write_78 lX4_49 (Nat.le_of_ble_eq_true rfl) (Nat.le_of_ble_eq_true rfl) ?_
          refine q_istore (ls' := [(0, _), (1, _), (3, _), (4, _), (5, _), (6, _), (7, _), (8, _)]) [0, 1, 3, 4, 5, 6, 7, 8] dX4_write_81 (Nat.le_of_ble_eq_true rfl) rfl ?_
          refine q_iload dX4_write_83 rfl ?_
          refine q_if_ne 99 dX4_write_85 (by decide) (fun hc => ?_) (fun hc => ?_)
          · have h := q_if hc h
            refine q_iinc1 (w := (-1)) (ls' := [(0, _), (1, _), (3, _), (4, _), (5, _), (6, _), (7, _), (8, _)]) [0, 1, 3, 4, 5, 6, 7, 8] dX4_write_99 rfl (by decide) (Nat.le_of_ble_eq_true rfl) rfl ?_
            refine q_iload dX4_write_102 rfl ?_
            refine q_bipush (v := 12) dX4_write_104 (by decide) ?_
            refine q_gets (i := 3) dX4_write_106 (by decide) fX4_90 ?_
            refine q_iload dX4_write_109 rfl ?_
            obtain ⟨hi4, h⟩ := q_is h
            refine q_sald (i := 3) dX4_write_111 (by decide) (q_in_vp hi4) ?_
            refine q_imul dX4_write_112 ?_
            refine q_gets (i := 2) dX4_write_113 (by decide) fX4_87 ?_
            refine q_iload dX4_write_116 rfl ?_
            obtain ⟨hi5, h⟩ := q_is h
            refine q_sald (i := 2) dX4_write_118 (by decide) (q_in_vp hi5) ?_
            refine q_iadd dX4_write_119 ?_
            refine q_iadd dX4_write_120 ?_
            refine q_istore (ls' := [(0, _), (1, _), (3, _), (4, _), (5, _), (6, _), (7, _)]) [0, 1, 3, 4, 5, 6, 7] dX4_write_121 (Nat.le_of_ble_eq_true rfl) rfl ?_
            refine q_iinc1 (w := 1) (ls' := [(0, _), (1, _), (3, _), (4, _), (5, _), (6, _), (7, _)]) [0, 1, 3, 4, 5, 6, 7] dX4_write_123 rfl (by decide) (Nat.le_of_ble_eq_true rfl) rfl ?_
            refine q_aload_n dX4_write_126 rfl ?_
            refine u_getr dX4_write_127 fX4_119 rfl (q_voy_0 hb1) (q_lt0 (q_voy_n hb1 hn)) (q_voy_F1 hF hb1) ?_
            refine q_iload dX4_write_130 rfl ?_
            refine q_iload dX4_write_132 rfl ?_
            obtain ⟨hi6, h⟩ := q_is h
            refine u_iast dX4_write_134 (q_voy_1 hb1) (q_lt1 (q_voy_n hb1 hn)) (q_in_vp hi6) ?_
            refine q_goto 30 dX4_write_135 (by decide) ?_
            exact ih _ _ _ _ _ _ h hx0
          · have h := q_it hc h
            refine q_iload dX4_write_88 rfl ?_
            refine q_if_le 99 dX4_write_90 (by decide) (fun hc => ?_) (fun hc => ?_)
            · have h := q_it hc h
              refine q_iinc1 (w := (-1)) (ls' := [(0, _), (1, _), (3, _), (4, _), (5, _), (6, _), (7, _), (8, _)]) [0, 1, 3, 4, 5, 6, 7, 8] dX4_write_99 rfl (by decide) (Nat.le_of_ble_eq_true rfl) rfl ?_
              refine q_iload dX4_write_102 rfl ?_
              refine q_bipush (v := 12) dX4_write_104 (by decide) ?_
              refine q_gets (i := 3) dX4_write_106 (by decide) fX4_90 ?_
              refine q_iload dX4_write_109 rfl ?_
              obtain ⟨hi7, h⟩ := q_is h
              refine q_sald (i := 3) dX4_write_111 (by decide) (q_in_vp hi7) ?_
              refine q_imul dX4_write_112 ?_
              refine q_gets (i := 2) dX4_write_113 (by decide) fX4_87 ?_
              refine q_iload dX4_write_116 rfl ?_
              obtain ⟨hi8, h⟩ := q_is h
              refine q_sald (i := 2) dX4_write_118 (by decide) (q_in_vp hi8) ?_
              refine q_iadd dX4_write_119 ?_
              refine q_iadd dX4_write_120 ?_
              refine q_istore (ls' := [(0, _), (1, _), (3, _), (4, _), (5, _), (6, _), (7, _)]) [0, 1, 3, 4, 5, 6, 7] dX4_write_121 (Nat.le_of_ble_eq_true rfl) rfl ?_
              refine q_iinc1 (w := 1) (ls' := [(0, _), (1, _), (3, _), (4, _), (5, _), (6, _), (7, _)]) [0, 1, 3, 4, 5, 6, 7] dX4_write_123 rfl (by decide) (Nat.le_of_ble_eq_true rfl) rfl ?_
              refine q_aload_n dX4_write_126 rfl ?_
              refine u_getr dX4_write_127 fX4_119 rfl (q_voy_0 hb1) (q_lt0 (q_voy_n hb1 hn)) (q_voy_F1 hF hb1) ?_
              refine q_iload dX4_write_130 rfl ?_
              refine q_iload dX4_write_132 rfl ?_
              obtain ⟨hi9, h⟩ := q_is h
              refine u_iast dX4_write_134 (q_voy_1 hb1) (q_lt1 (q_voy_n hb1 hn)) (q_in_vp hi9) ?_
              refine q_goto 30 dX4_write_135 (by decide) ?_
              exact ih _ _ _ _ _ _ h hx0
            · have h := q_if hc h
              refine q_iinc1 (w := (-1)) (ls' := [(0, _), (1, _), (3, _), (4, _), (5, _), (6, _), (7, _), (8, _)]) [0, 1, 3, 4, 5, 6, 7, 8] dX4_write_93 rfl (by decide) (Nat.le_of_ble_eq_true rfl) rfl ?_
              refine q_goto 102 dX4_write_96 (by decide) ?_
              refine q_iload dX4_write_102 rfl ?_
              refine q_bipush (v := 12) dX4_write_104 (by decide) ?_
              refine q_gets (i := 3) dX4_write_106 (by decide) fX4_90 ?_
              refine q_iload dX4_write_109 rfl ?_
              obtain ⟨hi10, h⟩ := q_is h
              refine q_sald (i := 3) dX4_write_111 (by decide) (q_in_vp hi10) ?_
              refine q_imul dX4_write_112 ?_
              refine q_gets (i := 2) dX4_write_113 (by decide) fX4_87 ?_
              refine q_iload dX4_write_116 rfl ?_
              obtain ⟨hi11, h⟩ := q_is h
              refine q_sald (i := 2) dX4_write_118 (by decide) (q_in_vp hi11) ?_
              refine q_iadd dX4_write_119 ?_
              refine q_iadd dX4_write_120 ?_
              refine q_istore (ls' := [(0, _), (1, _), (3, _), (4, _), (5, _), (6, _), (7, _)]) [0, 1, 3, 4, 5, 6, 7] dX4_write_121 (Nat.le_of_ble_eq_true rfl) rfl ?_
              refine q_iinc1 (w := 1) (ls' := [(0, _), (1, _), (3, _), (4, _), (5, _), (6, _), (7, _)]) [0, 1, 3, 4, 5, 6, 7] dX4_write_123 rfl (by decide) (Nat.le_of_ble_eq_true rfl) rfl ?_
              refine q_aload_n dX4_write_126 rfl ?_
              refine u_getr dX4_write_127 fX4_119 rfl (q_voy_0 hb1) (q_lt0 (q_voy_n hb1 hn)) (q_voy_F1 hF hb1) ?_
              refine q_iload dX4_write_130 rfl ?_
              refine q_iload dX4_write_132 rfl ?_
              obtain ⟨hi12, h⟩ := q_is h
              refine u_iast dX4_write_134 (q_voy_1 hb1) (q_lt1 (q_voy_n hb1 hn)) (q_in_vp hi12) ?_
              refine q_goto 30 dX4_write_135 (by decide) ?_
              exact ih _ _ _ _ _ _ h hx0
def f_X4_write (a1 : Nat) (x2 : Int32) (x3 : Int32) (m : q_Mm) : Option (q_Mm) :=
  if q_in x2 41 = true then
  (l_X4_write_30 7000 a1 x3 (m.1 89 4) (m.1 89 6) (m.1 89 7) x2 (q_wi m (a1 + 1) x2.toNatClampNeg (m.1 89 4))).bind fun r13 =>
  some (q_wi (q_wi (q_wi r13.2 a1 2 r13.1) a1 3 (x3 + (f_X4_foundFuel  (q_wi r13.2 a1 2 r13.1)))) a1 0 1)
  else none
set_option maxRecDepth 100000 in
set_option maxHeartbeats 4000000 in
theorem t_X4_write {g : q_G} {n : Nat} {F : Nat → Nat → Option Nat} (hn : 89 ≤ n) (hF : q_FF F) (hp : 92 ≤ n) (hP : q_FP F) {a1 : Nat} (ha1 : q_isVoy a1) {x2 : Int32} {x3 : Int32} {m : q_Mm} {r : q_Mm} (h : f_X4_write a1 x2 x3 m = some r) : q_Cn g mX4_write [q_r g 89, q_r g a1, .int x2, .int x3] (q_mk n F m) (q_Q none (q_mk n F r)) := by
  unfold f_X4_write at h
  show q_V g mX4_write q_T _ _ _ 0 [(0, q_r g 89), (1, q_r g a1), (2, .int x2), (3, .int x3)] [] (q_mk n F m)
  refine q_aload_n dX4_write_0 rfl ?_
  refine u_geti dX4_write_1 fX4_19 rfl rfl (Nat.lt_of_lt_of_le (Nat.le_of_ble_eq_true rfl) hp) ?_
  refine q_istore (ls' := [(0, _), (1, _), (2, _), (3, _), (4, _)]) [0, 1, 2, 3, 4] dX4_write_4 (Nat.le_of_ble_eq_true rfl) rfl ?_
  refine q_aload_n dX4_write_6 rfl ?_
  refine u_geti dX4_write_7 fX4_26 rfl rfl (Nat.lt_of_lt_of_le (Nat.le_of_ble_eq_true rfl) hp) ?_
  refine q_istore (ls' := [(0, _), (1, _), (2, _), (3, _), (4, _), (5, _)]) [0, 1, 2, 3, 4, 5] dX4_write_10 (Nat.le_of_ble_eq_true rfl) rfl ?_
  refine q_aload_n dX4_write_12 rfl ?_
  refine u_geti dX4_write_13 fX4_29 rfl rfl (Nat.lt_of_lt_of_le (Nat.le_of_ble_eq_true rfl) hp) ?_
  refine q_istore (ls' := [(0, _), (1, _), (2, _), (3, _), (4, _), (5, _), (6, _)]) [0, 1, 2, 3, 4, 5, 6] dX4_write_16 (Nat.le_of_ble_eq_true rfl) rfl ?_
  refine q_iload_n dX4_write_18 rfl ?_
  refine q_istore (ls' := [(0, _), (1, _), (3, _), (4, _), (5, _), (6, _), (7, _)]) [0, 1, 3, 4, 5, 6, 7] dX4_write_19 (Nat.le_of_ble_eq_true rfl) rfl ?_
  refine q_aload_n dX4_write_21 rfl ?_
  refine u_getr dX4_write_22 fX4_119 rfl (q_voy_0 ha1) (q_lt0 (q_voy_n ha1 hn)) (q_voy_F1 hF ha1) ?_
  refine q_iload dX4_write_25 rfl ?_
  refine q_iload dX4_write_27 rfl ?_
  obtain ⟨hi1, h⟩ := q_is h
  refine u_iast dX4_write_29 (q_voy_1 ha1) (q_lt1 (q_voy_n ha1 hn)) (q_in_vp hi1) ?_
  obtain ⟨r13, hr14, h⟩ := q_bd h
  refine t_l_X4_write_30 hn hF hp hP ha1 7000 _ _ _ _ _ _ hr14 ?_
  refine q_aload_n dX4_write_138 rfl ?_
  refine q_iload dX4_write_139 rfl ?_
  refine u_puti dX4_write_141 fX4_125 rfl (q_voy_0 ha1) (q_lt0 (q_voy_n ha1 hn)) rfl rfl rfl ?_
  refine q_aload_n dX4_write_144 rfl ?_
  refine q_iload_n dX4_write_145 rfl ?_
  refine q_aload_n dX4_write_146 rfl ?_
  refine c_V1 (as := []) (st := [_, _]) (ci := 4) dX4_write_147 okX4_foundFuel lX4_63 ⟨rfl, rfl⟩ ⟨Nat.le_of_ble_eq_true rfl, Nat.le_of_ble_eq_true rfl⟩ (by decide) rfl rfl (Nat.lt_of_lt_of_le (Nat.le_of_ble_eq_true rfl) hp) rfl rfl (Nat.le_of_ble_eq_true rfl) (Nat.le_of_ble_eq_true rfl) (t_X4_foundFuel hn hF hp hP  rfl) ?_
  refine q_iadd dX4_write_150 ?_
  refine u_puti dX4_write_151 fX4_128 rfl (q_voy_0 ha1) (q_lt0 (q_voy_n ha1 hn)) rfl rfl rfl ?_
  refine q_aload_n dX4_write_154 rfl ?_
  refine q_iconst (v := 1) dX4_write_155 (by decide) ?_
  refine u_puti dX4_write_156 fX4_131 rfl (q_voy_0 ha1) (q_lt0 (q_voy_n ha1 hn)) rfl rfl rfl ?_
  cases h
  exact q_vret dX4_write_159 rfl ⟨rfl, rfl⟩
def l_X5_turnsAt_2 : Nat → Nat → Int32 → Int32 → q_Mm → Option ((Unit) ⊕ (Unit))
  | 0, _, _, _, _ => none
  | k + 1, b0, y1, y2, m =>
    if (m.1 b0 2) ≤ y2 then
      some (.inr ())
    else
      if q_in y2 12 = true then
      if (m.1 (b0 + 1) y2.toNatClampNeg) = y1 then
        some (.inl ())
      else
        l_X5_turnsAt_2 k b0 y1 (y2 + 1) m
      else none
set_option maxRecDepth 100000 in
set_option maxHeartbeats 4000000 in
theorem t_l_X5_turnsAt_2 {g : q_G} {n : Nat} {F : Nat → Nat → Option Nat} {Z : List Frame → Array Value → State → State → Prop} {kc ks : Nat} (hn : 89 ≤ n) (hF : q_FF F) {b0 : Nat} (hb0 : q_isPlan b0) : ∀ (k : Nat) (y1 : Int32) (y2 : Int32) (m : q_Mm) {rr : (Unit) ⊕ (Unit)}, l_X5_turnsAt_2 k b0 y1 y2 m = some rr → (∀ r, rr = .inl r → q_V g mX5_turnsAt q_T Z kc ks 20 [] [] (q_mk n F m)) → (∀ r, rr = .inr r → q_V g mX5_turnsAt q_T Z kc ks 28 [] [] (q_mk n F m)) → q_V g mX5_turnsAt q_T Z kc ks 2 [(0, q_r g b0), (1, .int y1), (2, .int y2)] [] (q_mk n F m) := by
  intro k
  induction k with
  | zero => intro y1 y2 m rr h; cases h
  | succ k ih =>
    intro y1 y2 m rr h hx0 hx1
    unfold l_X5_turnsAt_2 at h
    refine q_iload_n dX5_turnsAt_2 rfl ?_
    refine q_aload_n dX5_turnsAt_3 rfl ?_
    refine u_geti dX5_turnsAt_4 fX5_18 rfl (q_plan_0 hb0) (q_lt0 (q_plan_n hb0 hn)) ?_
    refine q_icmp_ge 28 dX5_turnsAt_7 (by decide) (fun hc => ?_) (fun hc => ?_)
    · have h := q_it hc h
      refine q_drop [] (ls' := []) rfl ?_
      cases h
      exact hx1 _ rfl
    · have h := q_if hc h
      refine q_aload_n dX5_turnsAt_10 rfl ?_
      refine u_getr dX5_turnsAt_11 fX5_9 rfl (q_plan_0 hb0) (q_lt0 (q_plan_n hb0 hn)) (q_plan_F1 hF hb0) ?_
      refine q_iload_n dX5_turnsAt_14 rfl ?_
      obtain ⟨hi1, h⟩ := q_is h
      refine u_iald dX5_turnsAt_15 (q_plan_1 hb0) (q_lt1 (q_plan_n hb0 hn)) (q_in_vp hi1) ?_
      refine q_iload_n dX5_turnsAt_16 rfl ?_
      refine q_icmp_ne 22 dX5_turnsAt_17 (by decide) (fun hc => ?_) (fun hc => ?_)
      · have h := q_if hc h
        refine q_iinc1 (w := 1) (ls' := [(0, _), (1, _), (2, _)]) [0, 1, 2] dX5_turnsAt_22 rfl (by decide) (Nat.le_of_ble_eq_true rfl) rfl ?_
        refine q_goto 2 dX5_turnsAt_25 (by decide) ?_
        exact ih _ _ _ h hx0 hx1
      · have h := q_it hc h
        refine q_drop [] (ls' := []) rfl ?_
        cases h
        exact hx0 _ rfl
def f_X5_turnsAt (a0 : Nat) (x1 : Int32) (m : q_Mm) : Option (Int32) :=
  (l_X5_turnsAt_2 7000 a0 x1 0 m).bind fun r2 => match r2 with
  | .inl r4 =>
    some (1)
  | .inr r5 =>
    some (0)
set_option maxRecDepth 100000 in
set_option maxHeartbeats 4000000 in
theorem t_X5_turnsAt {g : q_G} {n : Nat} {F : Nat → Nat → Option Nat} (hn : 89 ≤ n) (hF : q_FF F) {a0 : Nat} (ha0 : q_isPlan a0) {x1 : Int32} {m : q_Mm} {r : Int32} (h : f_X5_turnsAt a0 x1 m = some r) : q_Cn g mX5_turnsAt [q_r g a0, .int x1] (q_mk n F m) (q_Q (some (.int r)) (q_mk n F m)) := by
  unfold f_X5_turnsAt at h
  show q_V g mX5_turnsAt q_T _ _ _ 0 [(0, q_r g a0), (1, .int x1)] [] (q_mk n F m)
  refine q_iconst (v := 0) dX5_turnsAt_0 (by decide) ?_
  refine q_istore_n (ls' := [(0, _), (1, _), (2, _)]) [0, 1, 2] dX5_turnsAt_1 (Nat.le_of_ble_eq_true rfl) rfl ?_
  obtain ⟨r2, hr3, h⟩ := q_bd h
  refine t_l_X5_turnsAt_2 hn hF ha0 7000 _ _ _ hr3 ?_ ?_
  · intro r4 er4
    subst er4
    dsimp only at h
    refine q_iconst (v := 1) dX5_turnsAt_20 (by decide) ?_
    cases h
    exact q_zret dX5_turnsAt_21 rfl rfl ⟨rfl, rfl⟩
  · intro r5 er5
    subst er5
    dsimp only at h
    refine q_iconst (v := 0) dX5_turnsAt_28 (by decide) ?_
    cases h
    exact q_zret dX5_turnsAt_29 rfl rfl ⟨rfl, rfl⟩
def l_X5_insert_5 : Nat → Nat → Int32 → Int32 → Int32 → q_Mm → Option (Int32 × q_Mm)
  | 0, _, _, _, _, _ => none
  | k + 1, b0, y1, y2, y3, m =>
    if y3 ≤ 0 then
      some (y3, m)
    else
      if q_in (y3 - 1) 12 = true then
      if (m.1 (b0 + 1) (y3 - 1).toNatClampNeg) ≤ y1 then
        some (y3, m)
      else
        if q_in (y3 - 1) 12 = true then
        if q_in y3 12 = true then
        if q_in (y3 - 1) 12 = true then
        if q_in y3 12 = true then
        l_X5_insert_5 k b0 y1 y2 (y3 + (-1)) (q_wi (q_wi m (b0 + 1) y3.toNatClampNeg (m.1 (b0 + 1) (y3 - 1).toNatClampNeg)) (b0 + 2) y3.toNatClampNeg ((q_wi m (b0 + 1) y3.toNatClampNeg (m.1 (b0 + 1) (y3 - 1).toNatClampNeg)).1 (b0 + 2) (y3 - 1).toNatClampNeg))
        else none
        else none
        else none
        else none
      else none
set_option maxRecDepth 100000 in
set_option maxHeartbeats 4000000 in
theorem t_l_X5_insert_5 {g : q_G} {n : Nat} {F : Nat → Nat → Option Nat} {Z : List Frame → Array Value → State → State → Prop} {kc ks : Nat} (hn : 89 ≤ n) (hF : q_FF F) {b0 : Nat} (hb0 : q_isPlan b0) : ∀ (k : Nat) (y1 : Int32) (y2 : Int32) (y3 : Int32) (m : q_Mm) {r : Int32 × q_Mm}, l_X5_insert_5 k b0 y1 y2 y3 m = some r → (q_V g mX5_insert q_T Z kc ks 55 [(0, q_r g b0), (1, .int y1), (2, .int y2), (3, .int r.1)] [] (q_mk n F r.2)) → q_V g mX5_insert q_T Z kc ks 5 [(0, q_r g b0), (1, .int y1), (2, .int y2), (3, .int y3)] [] (q_mk n F m) := by
  intro k
  induction k with
  | zero => intro y1 y2 y3 m r h; cases h
  | succ k ih =>
    intro y1 y2 y3 m r h hx0
    unfold l_X5_insert_5 at h
    refine q_iload_n dX5_insert_5 rfl ?_
    refine q_if_le 55 dX5_insert_6 (by decide) (fun hc => ?_) (fun hc => ?_)
    · have h := q_it hc h
      cases h
      exact hx0
    · have h := q_if hc h
      refine q_aload_n dX5_insert_9 rfl ?_
      refine u_getr dX5_insert_10 fX5_9 rfl (q_plan_0 hb0) (q_lt0 (q_plan_n hb0 hn)) (q_plan_F1 hF hb0) ?_
      refine q_iload_n dX5_insert_13 rfl ?_
      refine q_iconst (v := 1) dX5_insert_14 (by decide) ?_
      refine q_isub dX5_insert_15 ?_
      obtain ⟨hi1, h⟩ := q_is h
      refine u_iald dX5_insert_16 (q_plan_1 hb0) (q_lt1 (q_plan_n hb0 hn)) (q_in_vp hi1) ?_
      refine q_iload_n dX5_insert_17 rfl ?_
      refine q_icmp_le 55 dX5_insert_18 (by decide) (fun hc => ?_) (fun hc => ?_)
      · have h := q_it hc h
        cases h
        exact hx0
      · have h := q_if hc h
        refine q_aload_n dX5_insert_21 rfl ?_
        refine u_getr dX5_insert_22 fX5_9 rfl (q_plan_0 hb0) (q_lt0 (q_plan_n hb0 hn)) (q_plan_F1 hF hb0) ?_
        refine q_iload_n dX5_insert_25 rfl ?_
        refine q_aload_n dX5_insert_26 rfl ?_
        refine u_getr dX5_insert_27 fX5_9 rfl (q_plan_0 hb0) (q_lt0 (q_plan_n hb0 hn)) (q_plan_F1 hF hb0) ?_
        refine q_iload_n dX5_insert_30 rfl ?_
        refine q_iconst (v := 1) dX5_insert_31 (by decide) ?_
        refine q_isub dX5_insert_32 ?_
        obtain ⟨hi2, h⟩ := q_is h
        refine u_iald dX5_insert_33 (q_plan_1 hb0) (q_lt1 (q_plan_n hb0 hn)) (q_in_vp hi2) ?_
        obtain ⟨hi3, h⟩ := q_is h
        refine u_iast dX5_insert_34 (q_plan_1 hb0) (q_lt1 (q_plan_n hb0 hn)) (q_in_vp hi3) ?_
        refine q_aload_n dX5_insert_35 rfl ?_
        refine u_getr dX5_insert_36 fX5_15 rfl (q_plan_0 hb0) (q_lt0 (q_plan_n hb0 hn)) (q_plan_F2 hF hb0) ?_
        refine q_iload_n dX5_insert_39 rfl ?_
        refine q_aload_n dX5_insert_40 rfl ?_
        refine u_getr dX5_insert_41 fX5_15 rfl (q_plan_0 hb0) (q_lt0 (q_plan_n hb0 hn)) (q_plan_F2 hF hb0) ?_
        refine q_iload_n dX5_insert_44 rfl ?_
        refine q_iconst (v := 1) dX5_insert_45 (by decide) ?_
        refine q_isub dX5_insert_46 ?_
        obtain ⟨hi4, h⟩ := q_is h
        refine u_iald dX5_insert_47 (q_plan_2 hb0) (q_lt2 (q_plan_n hb0 hn)) (q_in_vp hi4) ?_
        obtain ⟨hi5, h⟩ := q_is h
        refine u_iast dX5_insert_48 (q_plan_2 hb0) (q_lt2 (q_plan_n hb0 hn)) (q_in_vp hi5) ?_
        refine q_iinc1 (w := (-1)) (ls' := [(0, _), (1, _), (2, _), (3, _)]) [0, 1, 2, 3] dX5_insert_49 rfl (by decide) (Nat.le_of_ble_eq_true rfl) rfl ?_
        refine q_goto 5 dX5_insert_52 (by decide) ?_
        exact ih _ _ _ _ h hx0
def f_X5_insert (a0 : Nat) (x1 : Int32) (x2 : Int32) (m : q_Mm) : Option (q_Mm) :=
  (l_X5_insert_5 7000 a0 x1 x2 (m.1 a0 2) m).bind fun r6 =>
  if q_in r6.1 12 = true then
  if q_in r6.1 12 = true then
  some (q_wi (q_wi (q_wi r6.2 (a0 + 1) r6.1.toNatClampNeg x1) (a0 + 2) r6.1.toNatClampNeg x2) a0 2 (((q_wi (q_wi r6.2 (a0 + 1) r6.1.toNatClampNeg x1) (a0 + 2) r6.1.toNatClampNeg x2).1 a0 2) + 1))
  else none
  else none
set_option maxRecDepth 100000 in
set_option maxHeartbeats 4000000 in
theorem t_X5_insert {g : q_G} {n : Nat} {F : Nat → Nat → Option Nat} (hn : 89 ≤ n) (hF : q_FF F) {a0 : Nat} (ha0 : q_isPlan a0) {x1 : Int32} {x2 : Int32} {m : q_Mm} {r : q_Mm} (h : f_X5_insert a0 x1 x2 m = some r) : q_Cn g mX5_insert [q_r g a0, .int x1, .int x2] (q_mk n F m) (q_Q none (q_mk n F r)) := by
  unfold f_X5_insert at h
  show q_V g mX5_insert q_T _ _ _ 0 [(0, q_r g a0), (1, .int x1), (2, .int x2)] [] (q_mk n F m)
  refine q_aload_n dX5_insert_0 rfl ?_
  refine u_geti dX5_insert_1 fX5_18 rfl (q_plan_0 ha0) (q_lt0 (q_plan_n ha0 hn)) ?_
  refine q_istore_n (ls' := [(0, _), (1, _), (2, _), (3, _)]) [0, 1, 2, 3] dX5_insert_4 (Nat.le_of_ble_eq_true rfl) rfl ?_
  obtain ⟨r6, hr7, h⟩ := q_bd h
  refine t_l_X5_insert_5 hn hF ha0 7000 _ _ _ _ hr7 ?_
  refine q_aload_n dX5_insert_55 rfl ?_
  refine u_getr dX5_insert_56 fX5_9 rfl (q_plan_0 ha0) (q_lt0 (q_plan_n ha0 hn)) (q_plan_F1 hF ha0) ?_
  refine q_iload_n dX5_insert_59 rfl ?_
  refine q_iload_n dX5_insert_60 rfl ?_
  obtain ⟨hi8, h⟩ := q_is h
  refine u_iast dX5_insert_61 (q_plan_1 ha0) (q_lt1 (q_plan_n ha0 hn)) (q_in_vp hi8) ?_
  refine q_aload_n dX5_insert_62 rfl ?_
  refine u_getr dX5_insert_63 fX5_15 rfl (q_plan_0 ha0) (q_lt0 (q_plan_n ha0 hn)) (q_plan_F2 hF ha0) ?_
  refine q_iload_n dX5_insert_66 rfl ?_
  refine q_iload_n dX5_insert_67 rfl ?_
  obtain ⟨hi9, h⟩ := q_is h
  refine u_iast dX5_insert_68 (q_plan_2 ha0) (q_lt2 (q_plan_n ha0 hn)) (q_in_vp hi9) ?_
  refine q_aload_n dX5_insert_69 rfl ?_
  refine q_dup dX5_insert_70 rfl ?_
  refine u_geti dX5_insert_71 fX5_18 rfl (q_plan_0 ha0) (q_lt0 (q_plan_n ha0 hn)) ?_
  refine q_iconst (v := 1) dX5_insert_74 (by decide) ?_
  refine q_iadd dX5_insert_75 ?_
  refine u_puti dX5_insert_76 fX5_18 rfl (q_plan_0 ha0) (q_lt0 (q_plan_n ha0 hn)) rfl rfl rfl ?_
  cases h
  exact q_vret dX5_insert_79 rfl ⟨rfl, rfl⟩
