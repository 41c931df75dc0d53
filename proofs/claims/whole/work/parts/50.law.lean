abbrev mL_law : q_M := (yL_law, cL_law, 4, some .boolean, 10, 414, 600000, 7302250)
def q_E (g : q_G) (b0 L : Nat) (xs : Nat → Int32) : State → Prop := fun s => va_X b0 L xs s s.heap ∧ b0 < s.heap.size ∧ ¬ q_A g b0 ∧ s.heap.size ≤ g.2.1
section QL
variable {g : q_G} {M : q_M} {Z : List Frame → Array Value → State → State → Prop} {kc ks pc b0 L : Nat} {xs : Nat → Int32} {ls : List (Nat × Value)} {st : List Value} {S : q_S}
theorem q_scr {i : Int32} (hd : decode M.2.1 pc = .ok (.iaload, 1)) (hin : vp_in i L) (k : q_V g M (q_E g b0 L xs) Z kc ks (pc + 1) ls (.int (xs i.toNatClampNeg) :: st) S) : q_V g M (q_E g b0 L xs) Z kc ks pc ls (.int i :: .ref b0 :: st) S := by
  intro p e s m args below meth c H locs cells slots la C P hS c1 c2 hl
  have hE := C.2.2.2.2.2.2.2.2.2.1
  exact va_sld C.1 C.2.1 hE.1 hE.2.1 hE.2.2.1 hS hin hd (k p e s m args below meth c H locs cells slots la C P hS c1 c2 hl)
theorem q_scrlen (hd : decode M.2.1 pc = .ok (.arraylength, 1)) (k : q_V g M (q_E g b0 L xs) Z kc ks (pc + 1) ls (.int (nI L) :: st) S) : q_V g M (q_E g b0 L xs) Z kc ks pc ls (.ref b0 :: st) S := by
  intro p e s m args below meth c H locs cells slots la C P hS c1 c2 hl
  have hE := C.2.2.2.2.2.2.2.2.2.1
  exact va_slen C.1 C.2.1 hE.1 hE.2.1 hE.2.2.1 hS hd (k p e s m args below meth c H locs cells slots la C P hS c1 c2 hl)
theorem q_mono {E : State → Prop} {kc' ks' : Nat} (h1 : kc' ≤ kc) (h2 : ks' ≤ ks) (k : q_V g M E Z kc' ks' pc ls st S) : q_V g M E Z kc ks pc ls st S := by
  intro p e s m args below meth c H locs cells slots la C P hS c1 c2 hl
  exact k p e s m args below meth c H locs cells slots la C P hS (by omega) (by omega) hl
end QL
theorem q_ixv {k L : Nat} (j : Nat) (h : k + j < L) (hL : L ≤ 3584) : vp_in (nI k + Int32.ofNat j) L := by
  show vp_in (nI k + nI j) L
  rw [nI_add]
  exact vp_in_nI h (by omega)
def q_OK_turn (Inv : q_Mm → Prop) : Prop := ∀ (x1 x2 x3 : Int32) (m : q_Mm), Inv m → ∃ r m1 m2, f_X9_turn x1 x2 x3 m = some (r, m1) ∧ f_X10_turn x1 x2 x3 m1 = some (r, m2) ∧ Inv m2
set_option maxRecDepth 100000 in
set_option maxHeartbeats 4000000 in
theorem q_law_turn {g : q_G} {Z : List Frame → Array Value → State → State → Prop} {kc ks b0 L k : Nat} {xs : Nat → Int32} (hL : L ≤ 3584) (hk : k + 6 < L) {Inv : q_Mm → Prop} (hO : q_OK_turn Inv) {b : Bool} {n : Nat} {F : Nat → Nat → Option Nat} {m : q_Mm} (hst : q_pst b n F) (hn : 89 ≤ n) (hF : q_FF F) (hI : Inv m)
    (kk : ∀ (b : Bool) (n : Nat) (F : Nat → Nat → Option Nat) (m : q_Mm), q_pst b n F → 89 ≤ n → q_FF F → Inv m → q_V g mL_law (q_E g b0 L xs) Z kc ks 1334 [(0, .ref b0), (1, q_r g 0), (2, q_r g 58), (3, .int (nI k))] [] (q_mk n F m)) : q_V g mL_law (q_E g b0 L xs) Z (kc + 3) (ks + 9884) 168 [(0, .ref b0), (1, q_r g 0), (2, q_r g 58), (3, .int (nI k))] [] (q_mk n F m) := by
  obtain ⟨r, m1, m2, h1, h2, hI2⟩ := hO (xs (nI k + 1).toNatClampNeg) (xs (nI k + 2).toNatClampNeg) (xs (nI k + 3).toNatClampNeg) m hI
  refine q_mono (kc' := kc) (ks' := ks) (Nat.le_add_right _ _) (Nat.le_add_right _ _) ?_
  refine q_aload_n dL_law_168 rfl ?_
  refine q_aloadX_n dL_law_169 rfl ?_
  refine q_iload_n dL_law_170 rfl ?_
  refine q_iconst (v := 1) dL_law_171 (by decide) ?_
  refine q_iadd dL_law_172 ?_
  refine q_scr dL_law_173 (q_ixv 1 (by omega) hL) ?_
  refine q_aloadX_n dL_law_174 rfl ?_
  refine q_iload_n dL_law_175 rfl ?_
  refine q_iconst (v := 2) dL_law_176 (by decide) ?_
  refine q_iadd dL_law_177 ?_
  refine q_scr dL_law_178 (q_ixv 2 (by omega) hL) ?_
  refine q_aloadX_n dL_law_179 rfl ?_
  refine q_iload_n dL_law_180 rfl ?_
  refine q_iconst (v := 3) dL_law_181 (by decide) ?_
  refine q_iadd dL_law_182 ?_
  refine q_scr dL_law_183 (q_ixv 3 (by omega) hL) ?_
  refine c_V1 (as := [_, _, _]) (st := []) (ci := 9) dL_law_184 okX9_turn lL_13 ⟨rfl, rfl⟩ ⟨Nat.le_of_ble_eq_true rfl, Nat.le_of_ble_eq_true rfl⟩ (by decide) rfl rfl (Nat.lt_of_lt_of_le (Nat.le_of_ble_eq_true rfl) hn) rfl rfl (Nat.le_of_ble_eq_true rfl) (Nat.le_of_ble_eq_true rfl) (t_X9_turn hn hF h1) ?_
  refine q_aload_n dL_law_187 rfl ?_
  refine q_aloadX_n dL_law_188 rfl ?_
  refine q_iload_n dL_law_189 rfl ?_
  refine q_iconst (v := 1) dL_law_190 (by decide) ?_
  refine q_iadd dL_law_191 ?_
  refine q_scr dL_law_192 (q_ixv 1 (by omega) hL) ?_
  refine q_aloadX_n dL_law_193 rfl ?_
  refine q_iload_n dL_law_194 rfl ?_
  refine q_iconst (v := 2) dL_law_195 (by decide) ?_
  refine q_iadd dL_law_196 ?_
  refine q_scr dL_law_197 (q_ixv 2 (by omega) hL) ?_
  refine q_aloadX_n dL_law_198 rfl ?_
  refine q_iload_n dL_law_199 rfl ?_
  refine q_iconst (v := 3) dL_law_200 (by decide) ?_
  refine q_iadd dL_law_201 ?_
  refine q_scr dL_law_202 (q_ixv 3 (by omega) hL) ?_
  refine c_V1 (as := [_, _, _]) (st := [_]) (ci := 10) dL_law_203 okX10_turn lL_17 ⟨rfl, rfl⟩ ⟨Nat.le_of_ble_eq_true rfl, Nat.le_of_ble_eq_true rfl⟩ (by decide) rfl rfl (Nat.lt_of_lt_of_le (Nat.le_of_ble_eq_true rfl) hn) rfl rfl (Nat.le_of_ble_eq_true rfl) (Nat.le_of_ble_eq_true rfl) (t_X10_turn hn hF h2) ?_
  exact q_icmp_eq 1334 dL_law_206 (by decide) (fun _ => kk b n F _ hst hn hF hI2) (fun hc => absurd rfl hc)
def q_OK_clear (Inv : q_Mm → Prop) : Prop := ∀ (x1 : Int32) (m : q_Mm), Inv m → ∃ r m1 m2, f_X9_clear x1 m = some (r, m1) ∧ f_X10_clear x1 m1 = some (r, m2) ∧ Inv m2
set_option maxRecDepth 100000 in
set_option maxHeartbeats 4000000 in
theorem q_law_clear {g : q_G} {Z : List Frame → Array Value → State → State → Prop} {kc ks b0 L k : Nat} {xs : Nat → Int32} (hL : L ≤ 3584) (hk : k + 6 < L) {Inv : q_Mm → Prop} (hO : q_OK_clear Inv) {b : Bool} {n : Nat} {F : Nat → Nat → Option Nat} {m : q_Mm} (hst : q_pst b n F) (hn : 89 ≤ n) (hF : q_FF F) (hI : Inv m)
    (kk : ∀ (b : Bool) (n : Nat) (F : Nat → Nat → Option Nat) (m : q_Mm), q_pst b n F → 89 ≤ n → q_FF F → Inv m → q_V g mL_law (q_E g b0 L xs) Z kc ks 1334 [(0, .ref b0), (1, q_r g 0), (2, q_r g 58), (3, .int (nI k))] [] (q_mk n F m)) : q_V g mL_law (q_E g b0 L xs) Z (kc + 3) (ks + 9884) 211 [(0, .ref b0), (1, q_r g 0), (2, q_r g 58), (3, .int (nI k))] [] (q_mk n F m) := by
  obtain ⟨r, m1, m2, h1, h2, hI2⟩ := hO (xs (nI k + 1).toNatClampNeg) m hI
  refine q_mono (kc' := kc) (ks' := ks) (Nat.le_add_right _ _) (Nat.le_add_right _ _) ?_
  refine q_aload_n dL_law_211 rfl ?_
  refine q_aloadX_n dL_law_212 rfl ?_
  refine q_iload_n dL_law_213 rfl ?_
  refine q_iconst (v := 1) dL_law_214 (by decide) ?_
  refine q_iadd dL_law_215 ?_
  refine q_scr dL_law_216 (q_ixv 1 (by omega) hL) ?_
  refine c_V1 (as := [_]) (st := []) (ci := 9) dL_law_217 okX9_clear lL_18 ⟨rfl, rfl⟩ ⟨Nat.le_of_ble_eq_true rfl, Nat.le_of_ble_eq_true rfl⟩ (by decide) rfl rfl (Nat.lt_of_lt_of_le (Nat.le_of_ble_eq_true rfl) hn) rfl rfl (Nat.le_of_ble_eq_true rfl) (Nat.le_of_ble_eq_true rfl) (t_X9_clear hn hF h1) ?_
  refine q_aload_n dL_law_220 rfl ?_
  refine q_aloadX_n dL_law_221 rfl ?_
  refine q_iload_n dL_law_222 rfl ?_
  refine q_iconst (v := 1) dL_law_223 (by decide) ?_
  refine q_iadd dL_law_224 ?_
  refine q_scr dL_law_225 (q_ixv 1 (by omega) hL) ?_
  refine c_V1 (as := [_]) (st := [_]) (ci := 10) dL_law_226 okX10_clear lL_22 ⟨rfl, rfl⟩ ⟨Nat.le_of_ble_eq_true rfl, Nat.le_of_ble_eq_true rfl⟩ (by decide) rfl rfl (Nat.lt_of_lt_of_le (Nat.le_of_ble_eq_true rfl) hn) rfl rfl (Nat.le_of_ble_eq_true rfl) (Nat.le_of_ble_eq_true rfl) (t_X10_clear hn hF h2) ?_
  exact q_icmp_eq 1334 dL_law_229 (by decide) (fun _ => kk b n F _ hst hn hF hI2) (fun hc => absurd rfl hc)
def q_OK_ofTurn (Inv : q_Mm → Prop) : Prop := ∀ (x1 x2 x3 : Int32) (m : q_Mm), Inv m → ∃ r, f_X9_ofTurn x1 x2 x3 m = some r ∧ f_X10_ofTurn x1 x2 x3 m = some r ∧ Inv m
set_option maxRecDepth 100000 in
set_option maxHeartbeats 4000000 in
theorem q_law_ofTurn {g : q_G} {Z : List Frame → Array Value → State → State → Prop} {kc ks b0 L k : Nat} {xs : Nat → Int32} (hL : L ≤ 3584) (hk : k + 6 < L) {Inv : q_Mm → Prop} (hO : q_OK_ofTurn Inv) {b : Bool} {n : Nat} {F : Nat → Nat → Option Nat} {m : q_Mm} (hst : q_pst b n F) (hn : 89 ≤ n) (hF : q_FF F) (hI : Inv m)
    (kk : ∀ (b : Bool) (n : Nat) (F : Nat → Nat → Option Nat) (m : q_Mm), q_pst b n F → 89 ≤ n → q_FF F → Inv m → q_V g mL_law (q_E g b0 L xs) Z kc ks 1334 [(0, .ref b0), (1, q_r g 0), (2, q_r g 58), (3, .int (nI k))] [] (q_mk n F m)) : q_V g mL_law (q_E g b0 L xs) Z (kc + 3) (ks + 9884) 234 [(0, .ref b0), (1, q_r g 0), (2, q_r g 58), (3, .int (nI k))] [] (q_mk n F m) := by
  obtain ⟨r, h1, h2, hI2⟩ := hO (xs (nI k + 1).toNatClampNeg) (xs (nI k + 2).toNatClampNeg) (xs (nI k + 3).toNatClampNeg) m hI
  refine q_mono (kc' := kc) (ks' := ks) (Nat.le_add_right _ _) (Nat.le_add_right _ _) ?_
  refine q_aload_n dL_law_234 rfl ?_
  refine q_aloadX_n dL_law_235 rfl ?_
  refine q_iload_n dL_law_236 rfl ?_
  refine q_iconst (v := 1) dL_law_237 (by decide) ?_
  refine q_iadd dL_law_238 ?_
  refine q_scr dL_law_239 (q_ixv 1 (by omega) hL) ?_
  refine q_aloadX_n dL_law_240 rfl ?_
  refine q_iload_n dL_law_241 rfl ?_
  refine q_iconst (v := 2) dL_law_242 (by decide) ?_
  refine q_iadd dL_law_243 ?_
  refine q_scr dL_law_244 (q_ixv 2 (by omega) hL) ?_
  refine q_aloadX_n dL_law_245 rfl ?_
  refine q_iload_n dL_law_246 rfl ?_
  refine q_iconst (v := 3) dL_law_247 (by decide) ?_
  refine q_iadd dL_law_248 ?_
  refine q_scr dL_law_249 (q_ixv 3 (by omega) hL) ?_
  refine c_V1 (as := [_, _, _]) (st := []) (ci := 9) dL_law_250 okX9_ofTurn lL_23 ⟨rfl, rfl⟩ ⟨Nat.le_of_ble_eq_true rfl, Nat.le_of_ble_eq_true rfl⟩ (by decide) rfl rfl (Nat.lt_of_lt_of_le (Nat.le_of_ble_eq_true rfl) hn) rfl rfl (Nat.le_of_ble_eq_true rfl) (Nat.le_of_ble_eq_true rfl) (t_X9_ofTurn hn hF h1) ?_
  refine q_aload_n dL_law_253 rfl ?_
  refine q_aloadX_n dL_law_254 rfl ?_
  refine q_iload_n dL_law_255 rfl ?_
  refine q_iconst (v := 1) dL_law_256 (by decide) ?_
  refine q_iadd dL_law_257 ?_
  refine q_scr dL_law_258 (q_ixv 1 (by omega) hL) ?_
  refine q_aloadX_n dL_law_259 rfl ?_
  refine q_iload_n dL_law_260 rfl ?_
  refine q_iconst (v := 2) dL_law_261 (by decide) ?_
  refine q_iadd dL_law_262 ?_
  refine q_scr dL_law_263 (q_ixv 2 (by omega) hL) ?_
  refine q_aloadX_n dL_law_264 rfl ?_
  refine q_iload_n dL_law_265 rfl ?_
  refine q_iconst (v := 3) dL_law_266 (by decide) ?_
  refine q_iadd dL_law_267 ?_
  refine q_scr dL_law_268 (q_ixv 3 (by omega) hL) ?_
  refine c_V1 (as := [_, _, _]) (st := [_]) (ci := 10) dL_law_269 okX10_ofTurn lL_26 ⟨rfl, rfl⟩ ⟨Nat.le_of_ble_eq_true rfl, Nat.le_of_ble_eq_true rfl⟩ (by decide) rfl rfl (Nat.lt_of_lt_of_le (Nat.le_of_ble_eq_true rfl) hn) rfl rfl (Nat.le_of_ble_eq_true rfl) (Nat.le_of_ble_eq_true rfl) (t_X10_ofTurn hn hF h2) ?_
  exact q_icmp_eq 1334 dL_law_272 (by decide) (fun _ => kk b n F _ hst hn hF hI2) (fun hc => absurd rfl hc)
def q_OK_course (Inv : q_Mm → Prop) : Prop := ∀ (x1 x2 : Int32) (m : q_Mm), Inv m → ∃ r m2, f_X9_course x1 x2 m = some r ∧ f_X10_course x1 x2 m = some (r, m2) ∧ Inv m2
set_option maxRecDepth 100000 in
set_option maxHeartbeats 4000000 in
theorem q_law_course {g : q_G} {Z : List Frame → Array Value → State → State → Prop} {kc ks b0 L k : Nat} {xs : Nat → Int32} (hL : L ≤ 3584) (hk : k + 6 < L) {Inv : q_Mm → Prop} (hO : q_OK_course Inv) {b : Bool} {n : Nat} {F : Nat → Nat → Option Nat} {m : q_Mm} (hst : q_pst b n F) (hn : 89 ≤ n) (hF : q_FF F) (hI : Inv m)
    (kk : ∀ (b : Bool) (n : Nat) (F : Nat → Nat → Option Nat) (m : q_Mm), q_pst b n F → 89 ≤ n → q_FF F → Inv m → q_V g mL_law (q_E g b0 L xs) Z kc ks 1334 [(0, .ref b0), (1, q_r g 0), (2, q_r g 58), (3, .int (nI k))] [] (q_mk n F m)) : q_V g mL_law (q_E g b0 L xs) Z (kc + 3) (ks + 9884) 277 [(0, .ref b0), (1, q_r g 0), (2, q_r g 58), (3, .int (nI k))] [] (q_mk n F m) := by
  obtain ⟨r, m2, h1, h2, hI2⟩ := hO (xs (nI k + 1).toNatClampNeg) (xs (nI k + 2).toNatClampNeg) m hI
  refine q_mono (kc' := kc) (ks' := ks) (Nat.le_add_right _ _) (Nat.le_add_right _ _) ?_
  refine q_aload_n dL_law_277 rfl ?_
  refine q_aloadX_n dL_law_278 rfl ?_
  refine q_iload_n dL_law_279 rfl ?_
  refine q_iconst (v := 1) dL_law_280 (by decide) ?_
  refine q_iadd dL_law_281 ?_
  refine q_scr dL_law_282 (q_ixv 1 (by omega) hL) ?_
  refine q_aloadX_n dL_law_283 rfl ?_
  refine q_iload_n dL_law_284 rfl ?_
  refine q_iconst (v := 2) dL_law_285 (by decide) ?_
  refine q_iadd dL_law_286 ?_
  refine q_scr dL_law_287 (q_ixv 2 (by omega) hL) ?_
  refine c_V1 (as := [_, _]) (st := []) (ci := 9) dL_law_288 okX9_course lL_27 ⟨rfl, rfl⟩ ⟨Nat.le_of_ble_eq_true rfl, Nat.le_of_ble_eq_true rfl⟩ (by decide) rfl rfl (Nat.lt_of_lt_of_le (Nat.le_of_ble_eq_true rfl) hn) rfl rfl (Nat.le_of_ble_eq_true rfl) (Nat.le_of_ble_eq_true rfl) (t_X9_course hn hF h1) ?_
  refine q_aload_n dL_law_291 rfl ?_
  refine q_aloadX_n dL_law_292 rfl ?_
  refine q_iload_n dL_law_293 rfl ?_
  refine q_iconst (v := 1) dL_law_294 (by decide) ?_
  refine q_iadd dL_law_295 ?_
  refine q_scr dL_law_296 (q_ixv 1 (by omega) hL) ?_
  refine q_aloadX_n dL_law_297 rfl ?_
  refine q_iload_n dL_law_298 rfl ?_
  refine q_iconst (v := 2) dL_law_299 (by decide) ?_
  refine q_iadd dL_law_300 ?_
  refine q_scr dL_law_301 (q_ixv 2 (by omega) hL) ?_
  refine c_V1 (as := [_, _]) (st := [_]) (ci := 10) dL_law_302 okX10_course lL_31 ⟨rfl, rfl⟩ ⟨Nat.le_of_ble_eq_true rfl, Nat.le_of_ble_eq_true rfl⟩ (by decide) rfl rfl (Nat.lt_of_lt_of_le (Nat.le_of_ble_eq_true rfl) hn) rfl rfl (Nat.le_of_ble_eq_true rfl) (Nat.le_of_ble_eq_true rfl) (t_X10_course hn hF h2) ?_
  exact q_icmp_eq 1334 dL_law_305 (by decide) (fun _ => kk b n F _ hst hn hF hI2) (fun hc => absurd rfl hc)
def q_OK_ground (Inv : q_Mm → Prop) : Prop := ∀ (x1 x2 x3 : Int32) (m : q_Mm), Inv m → ∃ r m2, f_X9_ground x1 x2 x3 m = some r ∧ f_X10_ground x1 x2 x3 m = some (r, m2) ∧ Inv m2
set_option maxRecDepth 100000 in
set_option maxHeartbeats 4000000 in
theorem q_law_ground {g : q_G} {Z : List Frame → Array Value → State → State → Prop} {kc ks b0 L k : Nat} {xs : Nat → Int32} (hL : L ≤ 3584) (hk : k + 6 < L) {Inv : q_Mm → Prop} (hO : q_OK_ground Inv) {b : Bool} {n : Nat} {F : Nat → Nat → Option Nat} {m : q_Mm} (hst : q_pst b n F) (hn : 89 ≤ n) (hF : q_FF F) (hI : Inv m)
    (kk : ∀ (b : Bool) (n : Nat) (F : Nat → Nat → Option Nat) (m : q_Mm), q_pst b n F → 89 ≤ n → q_FF F → Inv m → q_V g mL_law (q_E g b0 L xs) Z kc ks 1334 [(0, .ref b0), (1, q_r g 0), (2, q_r g 58), (3, .int (nI k))] [] (q_mk n F m)) : q_V g mL_law (q_E g b0 L xs) Z (kc + 3) (ks + 9884) 310 [(0, .ref b0), (1, q_r g 0), (2, q_r g 58), (3, .int (nI k))] [] (q_mk n F m) := by
  obtain ⟨r, m2, h1, h2, hI2⟩ := hO (xs (nI k + 1).toNatClampNeg) (xs (nI k + 2).toNatClampNeg) (xs (nI k + 3).toNatClampNeg) m hI
  refine q_mono (kc' := kc) (ks' := ks) (Nat.le_add_right _ _) (Nat.le_add_right _ _) ?_
  refine q_aload_n dL_law_310 rfl ?_
  refine q_aloadX_n dL_law_311 rfl ?_
  refine q_iload_n dL_law_312 rfl ?_
  refine q_iconst (v := 1) dL_law_313 (by decide) ?_
  refine q_iadd dL_law_314 ?_
  refine q_scr dL_law_315 (q_ixv 1 (by omega) hL) ?_
  refine q_aloadX_n dL_law_316 rfl ?_
  refine q_iload_n dL_law_317 rfl ?_
  refine q_iconst (v := 2) dL_law_318 (by decide) ?_
  refine q_iadd dL_law_319 ?_
  refine q_scr dL_law_320 (q_ixv 2 (by omega) hL) ?_
  refine q_aloadX_n dL_law_321 rfl ?_
  refine q_iload_n dL_law_322 rfl ?_
  refine q_iconst (v := 3) dL_law_323 (by decide) ?_
  refine q_iadd dL_law_324 ?_
  refine q_scr dL_law_325 (q_ixv 3 (by omega) hL) ?_
  refine c_V1 (as := [_, _, _]) (st := []) (ci := 9) dL_law_326 okX9_ground lL_32 ⟨rfl, rfl⟩ ⟨Nat.le_of_ble_eq_true rfl, Nat.le_of_ble_eq_true rfl⟩ (by decide) rfl rfl (Nat.lt_of_lt_of_le (Nat.le_of_ble_eq_true rfl) hn) rfl rfl (Nat.le_of_ble_eq_true rfl) (Nat.le_of_ble_eq_true rfl) (t_X9_ground hn hF h1) ?_
  refine q_aload_n dL_law_329 rfl ?_
  refine q_aloadX_n dL_law_330 rfl ?_
  refine q_iload_n dL_law_331 rfl ?_
  refine q_iconst (v := 1) dL_law_332 (by decide) ?_
  refine q_iadd dL_law_333 ?_
  refine q_scr dL_law_334 (q_ixv 1 (by omega) hL) ?_
  refine q_aloadX_n dL_law_335 rfl ?_
  refine q_iload_n dL_law_336 rfl ?_
  refine q_iconst (v := 2) dL_law_337 (by decide) ?_
  refine q_iadd dL_law_338 ?_
  refine q_scr dL_law_339 (q_ixv 2 (by omega) hL) ?_
  refine q_aloadX_n dL_law_340 rfl ?_
  refine q_iload_n dL_law_341 rfl ?_
  refine q_iconst (v := 3) dL_law_342 (by decide) ?_
  refine q_iadd dL_law_343 ?_
  refine q_scr dL_law_344 (q_ixv 3 (by omega) hL) ?_
  refine c_V1 (as := [_, _, _]) (st := [_]) (ci := 10) dL_law_345 okX10_ground lL_36 ⟨rfl, rfl⟩ ⟨Nat.le_of_ble_eq_true rfl, Nat.le_of_ble_eq_true rfl⟩ (by decide) rfl rfl (Nat.lt_of_lt_of_le (Nat.le_of_ble_eq_true rfl) hn) rfl rfl (Nat.le_of_ble_eq_true rfl) (Nat.le_of_ble_eq_true rfl) (t_X10_ground hn hF h2) ?_
  exact q_lcmp_eq 1334 dL_law_348 dL_law_349 (by decide) (fun _ => kk b n F _ hst hn hF hI2) (fun hc => absurd rfl hc)
def q_OK_steer (Inv : q_Mm → Prop) : Prop := ∀ (x1 : Int32) (m : q_Mm), Inv m → ∃ r m1 m2, f_X9_steer x1 m = (r, m1) ∧ f_X10_steer x1 m1 = (r, m2) ∧ Inv m2
set_option maxRecDepth 100000 in
set_option maxHeartbeats 4000000 in
theorem q_law_steer {g : q_G} {Z : List Frame → Array Value → State → State → Prop} {kc ks b0 L k : Nat} {xs : Nat → Int32} (hL : L ≤ 3584) (hk : k + 6 < L) {Inv : q_Mm → Prop} (hO : q_OK_steer Inv) {b : Bool} {n : Nat} {F : Nat → Nat → Option Nat} {m : q_Mm} (hst : q_pst b n F) (hn : 89 ≤ n) (hF : q_FF F) (hI : Inv m)
    (kk : ∀ (b : Bool) (n : Nat) (F : Nat → Nat → Option Nat) (m : q_Mm), q_pst b n F → 89 ≤ n → q_FF F → Inv m → q_V g mL_law (q_E g b0 L xs) Z kc ks 1334 [(0, .ref b0), (1, q_r g 0), (2, q_r g 58), (3, .int (nI k))] [] (q_mk n F m)) : q_V g mL_law (q_E g b0 L xs) Z (kc + 3) (ks + 9884) 354 [(0, .ref b0), (1, q_r g 0), (2, q_r g 58), (3, .int (nI k))] [] (q_mk n F m) := by
  obtain ⟨r, m1, m2, h1, h2, hI2⟩ := hO (xs (nI k + 1).toNatClampNeg) m hI
  refine q_mono (kc' := kc) (ks' := ks) (Nat.le_add_right _ _) (Nat.le_add_right _ _) ?_
  refine q_aload_n dL_law_354 rfl ?_
  refine q_aloadX_n dL_law_355 rfl ?_
  refine q_iload_n dL_law_356 rfl ?_
  refine q_iconst (v := 1) dL_law_357 (by decide) ?_
  refine q_iadd dL_law_358 ?_
  refine q_scr dL_law_359 (q_ixv 1 (by omega) hL) ?_
  refine c_V1 (as := [_]) (st := []) (ci := 9) dL_law_360 okX9_steer lL_37 ⟨rfl, rfl⟩ ⟨Nat.le_of_ble_eq_true rfl, Nat.le_of_ble_eq_true rfl⟩ (by decide) rfl rfl (Nat.lt_of_lt_of_le (Nat.le_of_ble_eq_true rfl) hn) rfl rfl (Nat.le_of_ble_eq_true rfl) (Nat.le_of_ble_eq_true rfl) (t_X9_steer hn hF h1) ?_
  refine q_aload_n dL_law_363 rfl ?_
  refine q_aloadX_n dL_law_364 rfl ?_
  refine q_iload_n dL_law_365 rfl ?_
  refine q_iconst (v := 1) dL_law_366 (by decide) ?_
  refine q_iadd dL_law_367 ?_
  refine q_scr dL_law_368 (q_ixv 1 (by omega) hL) ?_
  refine c_V1 (as := [_]) (st := [_]) (ci := 10) dL_law_369 okX10_steer lL_40 ⟨rfl, rfl⟩ ⟨Nat.le_of_ble_eq_true rfl, Nat.le_of_ble_eq_true rfl⟩ (by decide) rfl rfl (Nat.lt_of_lt_of_le (Nat.le_of_ble_eq_true rfl) hn) rfl rfl (Nat.le_of_ble_eq_true rfl) (Nat.le_of_ble_eq_true rfl) (t_X10_steer hn hF h2) ?_
  exact q_icmp_eq 1334 dL_law_372 (by decide) (fun _ => kk b n F _ hst hn hF hI2) (fun hc => absurd rfl hc)
def q_OK_ship (Inv : q_Mm → Prop) : Prop := ∀ (x1 x2 x3 x4 : Int32) (m : q_Mm), Inv m → ∃ r m1 m2, f_X9_ship x1 x2 x3 x4 m = some (r, m1) ∧ f_X10_ship x1 x2 x3 x4 m1 = some (r, m2) ∧ Inv m2
set_option maxRecDepth 100000 in
set_option maxHeartbeats 4000000 in
theorem q_law_ship {g : q_G} {Z : List Frame → Array Value → State → State → Prop} {kc ks b0 L k : Nat} {xs : Nat → Int32} (hL : L ≤ 3584) (hk : k + 6 < L) {Inv : q_Mm → Prop} (hO : q_OK_ship Inv) {b : Bool} {n : Nat} {F : Nat → Nat → Option Nat} {m : q_Mm} (hst : q_pst b n F) (hn : 89 ≤ n) (hF : q_FF F) (hI : Inv m)
    (kk : ∀ (b : Bool) (n : Nat) (F : Nat → Nat → Option Nat) (m : q_Mm), q_pst b n F → 89 ≤ n → q_FF F → Inv m → q_V g mL_law (q_E g b0 L xs) Z kc ks 1334 [(0, .ref b0), (1, q_r g 0), (2, q_r g 58), (3, .int (nI k))] [] (q_mk n F m)) : q_V g mL_law (q_E g b0 L xs) Z (kc + 3) (ks + 9884) 377 [(0, .ref b0), (1, q_r g 0), (2, q_r g 58), (3, .int (nI k))] [] (q_mk n F m) := by
  obtain ⟨r, m1, m2, h1, h2, hI2⟩ := hO (xs (nI k + 1).toNatClampNeg) (xs (nI k + 2).toNatClampNeg) (xs (nI k + 3).toNatClampNeg) (xs (nI k + 4).toNatClampNeg) m hI
  refine q_mono (kc' := kc) (ks' := ks) (Nat.le_add_right _ _) (Nat.le_add_right _ _) ?_
  refine q_aload_n dL_law_377 rfl ?_
  refine q_aloadX_n dL_law_378 rfl ?_
  refine q_iload_n dL_law_379 rfl ?_
  refine q_iconst (v := 1) dL_law_380 (by decide) ?_
  refine q_iadd dL_law_381 ?_
  refine q_scr dL_law_382 (q_ixv 1 (by omega) hL) ?_
  refine q_aloadX_n dL_law_383 rfl ?_
  refine q_iload_n dL_law_384 rfl ?_
  refine q_iconst (v := 2) dL_law_385 (by decide) ?_
  refine q_iadd dL_law_386 ?_
  refine q_scr dL_law_387 (q_ixv 2 (by omega) hL) ?_
  refine q_aloadX_n dL_law_388 rfl ?_
  refine q_iload_n dL_law_389 rfl ?_
  refine q_iconst (v := 3) dL_law_390 (by decide) ?_
  refine q_iadd dL_law_391 ?_
  refine q_scr dL_law_392 (q_ixv 3 (by omega) hL) ?_
  refine q_aloadX_n dL_law_393 rfl ?_
  refine q_iload_n dL_law_394 rfl ?_
  refine q_iconst (v := 4) dL_law_395 (by decide) ?_
  refine q_iadd dL_law_396 ?_
  refine q_scr dL_law_397 (q_ixv 4 (by omega) hL) ?_
  refine c_V1 (as := [_, _, _, _]) (st := []) (ci := 9) dL_law_398 okX9_ship lL_41 ⟨rfl, rfl⟩ ⟨Nat.le_of_ble_eq_true rfl, Nat.le_of_ble_eq_true rfl⟩ (by decide) rfl rfl (Nat.lt_of_lt_of_le (Nat.le_of_ble_eq_true rfl) hn) rfl rfl (Nat.le_of_ble_eq_true rfl) (Nat.le_of_ble_eq_true rfl) (t_X9_ship hn hF h1) ?_
  refine q_aload_n dL_law_401 rfl ?_
  refine q_aloadX_n dL_law_402 rfl ?_
  refine q_iload_n dL_law_403 rfl ?_
  refine q_iconst (v := 1) dL_law_404 (by decide) ?_
  refine q_iadd dL_law_405 ?_
  refine q_scr dL_law_406 (q_ixv 1 (by omega) hL) ?_
  refine q_aloadX_n dL_law_407 rfl ?_
  refine q_iload_n dL_law_408 rfl ?_
  refine q_iconst (v := 2) dL_law_409 (by decide) ?_
  refine q_iadd dL_law_410 ?_
  refine q_scr dL_law_411 (q_ixv 2 (by omega) hL) ?_
  refine q_aloadX_n dL_law_412 rfl ?_
  refine q_iload_n dL_law_413 rfl ?_
  refine q_iconst (v := 3) dL_law_414 (by decide) ?_
  refine q_iadd dL_law_415 ?_
  refine q_scr dL_law_416 (q_ixv 3 (by omega) hL) ?_
  refine q_aloadX_n dL_law_417 rfl ?_
  refine q_iload_n dL_law_418 rfl ?_
  refine q_iconst (v := 4) dL_law_419 (by decide) ?_
  refine q_iadd dL_law_420 ?_
  refine q_scr dL_law_421 (q_ixv 4 (by omega) hL) ?_
  refine c_V1 (as := [_, _, _, _]) (st := [_]) (ci := 10) dL_law_422 okX10_ship lL_45 ⟨rfl, rfl⟩ ⟨Nat.le_of_ble_eq_true rfl, Nat.le_of_ble_eq_true rfl⟩ (by decide) rfl rfl (Nat.lt_of_lt_of_le (Nat.le_of_ble_eq_true rfl) hn) rfl rfl (Nat.le_of_ble_eq_true rfl) (Nat.le_of_ble_eq_true rfl) (t_X10_ship hn hF h2) ?_
  exact q_icmp_eq 1334 dL_law_425 (by decide) (fun _ => kk b n F _ hst hn hF hI2) (fun hc => absurd rfl hc)
def q_OK_miss (Inv : q_Mm → Prop) : Prop := ∀ (x1 x2 x3 : Int32) (m : q_Mm), Inv m → ∃ r m1 m2, f_X9_miss x1 x2 x3 m = some (r, m1) ∧ f_X10_miss x1 x2 x3 m1 = some (r, m2) ∧ Inv m2
set_option maxRecDepth 100000 in
set_option maxHeartbeats 4000000 in
theorem q_law_miss {g : q_G} {Z : List Frame → Array Value → State → State → Prop} {kc ks b0 L k : Nat} {xs : Nat → Int32} (hL : L ≤ 3584) (hk : k + 6 < L) {Inv : q_Mm → Prop} (hO : q_OK_miss Inv) {b : Bool} {n : Nat} {F : Nat → Nat → Option Nat} {m : q_Mm} (hst : q_pst b n F) (hn : 89 ≤ n) (hF : q_FF F) (hI : Inv m)
    (kk : ∀ (b : Bool) (n : Nat) (F : Nat → Nat → Option Nat) (m : q_Mm), q_pst b n F → 89 ≤ n → q_FF F → Inv m → q_V g mL_law (q_E g b0 L xs) Z kc ks 1334 [(0, .ref b0), (1, q_r g 0), (2, q_r g 58), (3, .int (nI k))] [] (q_mk n F m)) : q_V g mL_law (q_E g b0 L xs) Z (kc + 3) (ks + 9884) 430 [(0, .ref b0), (1, q_r g 0), (2, q_r g 58), (3, .int (nI k))] [] (q_mk n F m) := by
  obtain ⟨r, m1, m2, h1, h2, hI2⟩ := hO (xs (nI k + 1).toNatClampNeg) (xs (nI k + 2).toNatClampNeg) (xs (nI k + 3).toNatClampNeg) m hI
  refine q_mono (kc' := kc) (ks' := ks) (Nat.le_add_right _ _) (Nat.le_add_right _ _) ?_
  refine q_aload_n dL_law_430 rfl ?_
  refine q_aloadX_n dL_law_431 rfl ?_
  refine q_iload_n dL_law_432 rfl ?_
  refine q_iconst (v := 1) dL_law_433 (by decide) ?_
  refine q_iadd dL_law_434 ?_
  refine q_scr dL_law_435 (q_ixv 1 (by omega) hL) ?_
  refine q_aloadX_n dL_law_436 rfl ?_
  refine q_iload_n dL_law_437 rfl ?_
  refine q_iconst (v := 2) dL_law_438 (by decide) ?_
  refine q_iadd dL_law_439 ?_
  refine q_scr dL_law_440 (q_ixv 2 (by omega) hL) ?_
  refine q_aloadX_n dL_law_441 rfl ?_
  refine q_iload_n dL_law_442 rfl ?_
  refine q_iconst (v := 3) dL_law_443 (by decide) ?_
  refine q_iadd dL_law_444 ?_
  refine q_scr dL_law_445 (q_ixv 3 (by omega) hL) ?_
  refine c_V1 (as := [_, _, _]) (st := []) (ci := 9) dL_law_446 okX9_miss lL_46 ⟨rfl, rfl⟩ ⟨Nat.le_of_ble_eq_true rfl, Nat.le_of_ble_eq_true rfl⟩ (by decide) rfl rfl (Nat.lt_of_lt_of_le (Nat.le_of_ble_eq_true rfl) hn) rfl rfl (Nat.le_of_ble_eq_true rfl) (Nat.le_of_ble_eq_true rfl) (t_X9_miss hn hF h1) ?_
  refine q_aload_n dL_law_449 rfl ?_
  refine q_aloadX_n dL_law_450 rfl ?_
  refine q_iload_n dL_law_451 rfl ?_
  refine q_iconst (v := 1) dL_law_452 (by decide) ?_
  refine q_iadd dL_law_453 ?_
  refine q_scr dL_law_454 (q_ixv 1 (by omega) hL) ?_
  refine q_aloadX_n dL_law_455 rfl ?_
  refine q_iload_n dL_law_456 rfl ?_
  refine q_iconst (v := 2) dL_law_457 (by decide) ?_
  refine q_iadd dL_law_458 ?_
  refine q_scr dL_law_459 (q_ixv 2 (by omega) hL) ?_
  refine q_aloadX_n dL_law_460 rfl ?_
  refine q_iload_n dL_law_461 rfl ?_
  refine q_iconst (v := 3) dL_law_462 (by decide) ?_
  refine q_iadd dL_law_463 ?_
  refine q_scr dL_law_464 (q_ixv 3 (by omega) hL) ?_
  refine c_V1 (as := [_, _, _]) (st := [_]) (ci := 10) dL_law_465 okX10_miss lL_49 ⟨rfl, rfl⟩ ⟨Nat.le_of_ble_eq_true rfl, Nat.le_of_ble_eq_true rfl⟩ (by decide) rfl rfl (Nat.lt_of_lt_of_le (Nat.le_of_ble_eq_true rfl) hn) rfl rfl (Nat.le_of_ble_eq_true rfl) (Nat.le_of_ble_eq_true rfl) (t_X10_miss hn hF h2) ?_
  exact q_icmp_eq 1334 dL_law_468 (by decide) (fun _ => kk b n F _ hst hn hF hI2) (fun hc => absurd rfl hc)
def q_OK_fog (Inv : q_Mm → Prop) : Prop := ∀ (x1 x2 : Int32) (m : q_Mm), Inv m → ∃ r m1 m2, f_X9_fog x1 x2 m = (r, m1) ∧ f_X10_fog x1 x2 m1 = (r, m2) ∧ Inv m2
set_option maxRecDepth 100000 in
set_option maxHeartbeats 4000000 in
theorem q_law_fog {g : q_G} {Z : List Frame → Array Value → State → State → Prop} {kc ks b0 L k : Nat} {xs : Nat → Int32} (hL : L ≤ 3584) (hk : k + 6 < L) {Inv : q_Mm → Prop} (hO : q_OK_fog Inv) {b : Bool} {n : Nat} {F : Nat → Nat → Option Nat} {m : q_Mm} (hst : q_pst b n F) (hn : 89 ≤ n) (hF : q_FF F) (hI : Inv m)
    (kk : ∀ (b : Bool) (n : Nat) (F : Nat → Nat → Option Nat) (m : q_Mm), q_pst b n F → 89 ≤ n → q_FF F → Inv m → q_V g mL_law (q_E g b0 L xs) Z kc ks 1334 [(0, .ref b0), (1, q_r g 0), (2, q_r g 58), (3, .int (nI k))] [] (q_mk n F m)) : q_V g mL_law (q_E g b0 L xs) Z (kc + 3) (ks + 9884) 473 [(0, .ref b0), (1, q_r g 0), (2, q_r g 58), (3, .int (nI k))] [] (q_mk n F m) := by
  obtain ⟨r, m1, m2, h1, h2, hI2⟩ := hO (xs (nI k + 1).toNatClampNeg) (xs (nI k + 2).toNatClampNeg) m hI
  refine q_mono (kc' := kc) (ks' := ks) (Nat.le_add_right _ _) (Nat.le_add_right _ _) ?_
  refine q_aload_n dL_law_473 rfl ?_
  refine q_aloadX_n dL_law_474 rfl ?_
  refine q_iload_n dL_law_475 rfl ?_
  refine q_iconst (v := 1) dL_law_476 (by decide) ?_
  refine q_iadd dL_law_477 ?_
  refine q_scr dL_law_478 (q_ixv 1 (by omega) hL) ?_
  refine q_aloadX_n dL_law_479 rfl ?_
  refine q_iload_n dL_law_480 rfl ?_
  refine q_iconst (v := 2) dL_law_481 (by decide) ?_
  refine q_iadd dL_law_482 ?_
  refine q_scr dL_law_483 (q_ixv 2 (by omega) hL) ?_
  refine c_V1 (as := [_, _]) (st := []) (ci := 9) dL_law_484 okX9_fog lL_50 ⟨rfl, rfl⟩ ⟨Nat.le_of_ble_eq_true rfl, Nat.le_of_ble_eq_true rfl⟩ (by decide) rfl rfl (Nat.lt_of_lt_of_le (Nat.le_of_ble_eq_true rfl) hn) rfl rfl (Nat.le_of_ble_eq_true rfl) (Nat.le_of_ble_eq_true rfl) (t_X9_fog hn hF h1) ?_
  refine q_aload_n dL_law_487 rfl ?_
  refine q_aloadX_n dL_law_488 rfl ?_
  refine q_iload_n dL_law_489 rfl ?_
  refine q_iconst (v := 1) dL_law_490 (by decide) ?_
  refine q_iadd dL_law_491 ?_
  refine q_scr dL_law_492 (q_ixv 1 (by omega) hL) ?_
  refine q_aloadX_n dL_law_493 rfl ?_
  refine q_iload_n dL_law_494 rfl ?_
  refine q_iconst (v := 2) dL_law_495 (by decide) ?_
  refine q_iadd dL_law_496 ?_
  refine q_scr dL_law_497 (q_ixv 2 (by omega) hL) ?_
  refine c_V1 (as := [_, _]) (st := [_]) (ci := 10) dL_law_498 okX10_fog lL_53 ⟨rfl, rfl⟩ ⟨Nat.le_of_ble_eq_true rfl, Nat.le_of_ble_eq_true rfl⟩ (by decide) rfl rfl (Nat.lt_of_lt_of_le (Nat.le_of_ble_eq_true rfl) hn) rfl rfl (Nat.le_of_ble_eq_true rfl) (Nat.le_of_ble_eq_true rfl) (t_X10_fog hn hF h2) ?_
  exact q_icmp_eq 1334 dL_law_501 (by decide) (fun _ => kk b n F _ hst hn hF hI2) (fun hc => absurd rfl hc)
def q_OK_place (Inv : q_Mm → Prop) : Prop := ∀ (x1 x2 x3 : Int32) (m : q_Mm), Inv m → ∃ r m1 m2, f_X9_place x1 x2 x3 m = some (r, m1) ∧ f_X10_place x1 x2 x3 m1 = some (r, m2) ∧ Inv m2
set_option maxRecDepth 100000 in
set_option maxHeartbeats 4000000 in
theorem q_law_place {g : q_G} {Z : List Frame → Array Value → State → State → Prop} {kc ks b0 L k : Nat} {xs : Nat → Int32} (hL : L ≤ 3584) (hk : k + 6 < L) {Inv : q_Mm → Prop} (hO : q_OK_place Inv) {b : Bool} {n : Nat} {F : Nat → Nat → Option Nat} {m : q_Mm} (hst : q_pst b n F) (hn : 89 ≤ n) (hF : q_FF F) (hI : Inv m)
    (kk : ∀ (b : Bool) (n : Nat) (F : Nat → Nat → Option Nat) (m : q_Mm), q_pst b n F → 89 ≤ n → q_FF F → Inv m → q_V g mL_law (q_E g b0 L xs) Z kc ks 1334 [(0, .ref b0), (1, q_r g 0), (2, q_r g 58), (3, .int (nI k))] [] (q_mk n F m)) : q_V g mL_law (q_E g b0 L xs) Z (kc + 3) (ks + 9884) 506 [(0, .ref b0), (1, q_r g 0), (2, q_r g 58), (3, .int (nI k))] [] (q_mk n F m) := by
  obtain ⟨r, m1, m2, h1, h2, hI2⟩ := hO (xs (nI k + 1).toNatClampNeg) (xs (nI k + 2).toNatClampNeg) (xs (nI k + 3).toNatClampNeg) m hI
  refine q_mono (kc' := kc) (ks' := ks) (Nat.le_add_right _ _) (Nat.le_add_right _ _) ?_
  refine q_aload_n dL_law_506 rfl ?_
  refine q_aloadX_n dL_law_507 rfl ?_
  refine q_iload_n dL_law_508 rfl ?_
  refine q_iconst (v := 1) dL_law_509 (by decide) ?_
  refine q_iadd dL_law_510 ?_
  refine q_scr dL_law_511 (q_ixv 1 (by omega) hL) ?_
  refine q_aloadX_n dL_law_512 rfl ?_
  refine q_iload_n dL_law_513 rfl ?_
  refine q_iconst (v := 2) dL_law_514 (by decide) ?_
  refine q_iadd dL_law_515 ?_
  refine q_scr dL_law_516 (q_ixv 2 (by omega) hL) ?_
  refine q_aloadX_n dL_law_517 rfl ?_
  refine q_iload_n dL_law_518 rfl ?_
  refine q_iconst (v := 3) dL_law_519 (by decide) ?_
  refine q_iadd dL_law_520 ?_
  refine q_scr dL_law_521 (q_ixv 3 (by omega) hL) ?_
  refine c_V1 (as := [_, _, _]) (st := []) (ci := 9) dL_law_522 okX9_place lL_54 ⟨rfl, rfl⟩ ⟨Nat.le_of_ble_eq_true rfl, Nat.le_of_ble_eq_true rfl⟩ (by decide) rfl rfl (Nat.lt_of_lt_of_le (Nat.le_of_ble_eq_true rfl) hn) rfl rfl (Nat.le_of_ble_eq_true rfl) (Nat.le_of_ble_eq_true rfl) (t_X9_place hn hF h1) ?_
  refine q_aload_n dL_law_525 rfl ?_
  refine q_aloadX_n dL_law_526 rfl ?_
  refine q_iload_n dL_law_527 rfl ?_
  refine q_iconst (v := 1) dL_law_528 (by decide) ?_
  refine q_iadd dL_law_529 ?_
  refine q_scr dL_law_530 (q_ixv 1 (by omega) hL) ?_
  refine q_aloadX_n dL_law_531 rfl ?_
  refine q_iload_n dL_law_532 rfl ?_
  refine q_iconst (v := 2) dL_law_533 (by decide) ?_
  refine q_iadd dL_law_534 ?_
  refine q_scr dL_law_535 (q_ixv 2 (by omega) hL) ?_
  refine q_aloadX_n dL_law_536 rfl ?_
  refine q_iload_n dL_law_537 rfl ?_
  refine q_iconst (v := 3) dL_law_538 (by decide) ?_
  refine q_iadd dL_law_539 ?_
  refine q_scr dL_law_540 (q_ixv 3 (by omega) hL) ?_
  refine c_V1 (as := [_, _, _]) (st := [_]) (ci := 10) dL_law_541 okX10_place lL_57 ⟨rfl, rfl⟩ ⟨Nat.le_of_ble_eq_true rfl, Nat.le_of_ble_eq_true rfl⟩ (by decide) rfl rfl (Nat.lt_of_lt_of_le (Nat.le_of_ble_eq_true rfl) hn) rfl rfl (Nat.le_of_ble_eq_true rfl) (Nat.le_of_ble_eq_true rfl) (t_X10_place hn hF h2) ?_
  exact q_lcmp_eq 1334 dL_law_544 dL_law_545 (by decide) (fun _ => kk b n F _ hst hn hF hI2) (fun hc => absurd rfl hc)
def q_OK_nearest (Inv : q_Mm → Prop) : Prop := ∀ (x1 x2 : Int32) (m : q_Mm), Inv m → ∃ r m1 m2, f_X9_nearest x1 x2 m = some (r, m1) ∧ f_X10_nearest x1 x2 m1 = some (r, m2) ∧ Inv m2
set_option maxRecDepth 100000 in
set_option maxHeartbeats 4000000 in
theorem q_law_nearest {g : q_G} {Z : List Frame → Array Value → State → State → Prop} {kc ks b0 L k : Nat} {xs : Nat → Int32} (hL : L ≤ 3584) (hk : k + 6 < L) {Inv : q_Mm → Prop} (hO : q_OK_nearest Inv) {b : Bool} {n : Nat} {F : Nat → Nat → Option Nat} {m : q_Mm} (hst : q_pst b n F) (hn : 89 ≤ n) (hF : q_FF F) (hI : Inv m)
    (kk : ∀ (b : Bool) (n : Nat) (F : Nat → Nat → Option Nat) (m : q_Mm), q_pst b n F → 89 ≤ n → q_FF F → Inv m → q_V g mL_law (q_E g b0 L xs) Z kc ks 1334 [(0, .ref b0), (1, q_r g 0), (2, q_r g 58), (3, .int (nI k))] [] (q_mk n F m)) : q_V g mL_law (q_E g b0 L xs) Z (kc + 3) (ks + 9884) 550 [(0, .ref b0), (1, q_r g 0), (2, q_r g 58), (3, .int (nI k))] [] (q_mk n F m) := by
  obtain ⟨r, m1, m2, h1, h2, hI2⟩ := hO (xs (nI k + 1).toNatClampNeg) (xs (nI k + 2).toNatClampNeg) m hI
  refine q_mono (kc' := kc) (ks' := ks) (Nat.le_add_right _ _) (Nat.le_add_right _ _) ?_
  refine q_aload_n dL_law_550 rfl ?_
  refine q_aloadX_n dL_law_551 rfl ?_
  refine q_iload_n dL_law_552 rfl ?_
  refine q_iconst (v := 1) dL_law_553 (by decide) ?_
  refine q_iadd dL_law_554 ?_
  refine q_scr dL_law_555 (q_ixv 1 (by omega) hL) ?_
  refine q_aloadX_n dL_law_556 rfl ?_
  refine q_iload_n dL_law_557 rfl ?_
  refine q_iconst (v := 2) dL_law_558 (by decide) ?_
  refine q_iadd dL_law_559 ?_
  refine q_scr dL_law_560 (q_ixv 2 (by omega) hL) ?_
  refine c_V1 (as := [_, _]) (st := []) (ci := 9) dL_law_561 okX9_nearest lL_58 ⟨rfl, rfl⟩ ⟨Nat.le_of_ble_eq_true rfl, Nat.le_of_ble_eq_true rfl⟩ (by decide) rfl rfl (Nat.lt_of_lt_of_le (Nat.le_of_ble_eq_true rfl) hn) rfl rfl (Nat.le_of_ble_eq_true rfl) (Nat.le_of_ble_eq_true rfl) (t_X9_nearest hn hF h1) ?_
  refine q_aload_n dL_law_564 rfl ?_
  refine q_aloadX_n dL_law_565 rfl ?_
  refine q_iload_n dL_law_566 rfl ?_
  refine q_iconst (v := 1) dL_law_567 (by decide) ?_
  refine q_iadd dL_law_568 ?_
  refine q_scr dL_law_569 (q_ixv 1 (by omega) hL) ?_
  refine q_aloadX_n dL_law_570 rfl ?_
  refine q_iload_n dL_law_571 rfl ?_
  refine q_iconst (v := 2) dL_law_572 (by decide) ?_
  refine q_iadd dL_law_573 ?_
  refine q_scr dL_law_574 (q_ixv 2 (by omega) hL) ?_
  refine c_V1 (as := [_, _]) (st := [_]) (ci := 10) dL_law_575 okX10_nearest lL_62 ⟨rfl, rfl⟩ ⟨Nat.le_of_ble_eq_true rfl, Nat.le_of_ble_eq_true rfl⟩ (by decide) rfl rfl (Nat.lt_of_lt_of_le (Nat.le_of_ble_eq_true rfl) hn) rfl rfl (Nat.le_of_ble_eq_true rfl) (Nat.le_of_ble_eq_true rfl) (t_X10_nearest hn hF h2) ?_
  exact q_lcmp_eq 1334 dL_law_578 dL_law_579 (by decide) (fun _ => kk b n F _ hst hn hF hI2) (fun hc => absurd rfl hc)
def q_OK_close (Inv : q_Mm → Prop) : Prop := ∀ (x1 x2 : Int32) (m : q_Mm), Inv m → ∃ r m1 m2, f_X9_close x1 x2 m = some (r, m1) ∧ f_X10_close x1 x2 m1 = some (r, m2) ∧ Inv m2
set_option maxRecDepth 100000 in
set_option maxHeartbeats 4000000 in
theorem q_law_close {g : q_G} {Z : List Frame → Array Value → State → State → Prop} {kc ks b0 L k : Nat} {xs : Nat → Int32} (hL : L ≤ 3584) (hk : k + 6 < L) {Inv : q_Mm → Prop} (hO : q_OK_close Inv) {b : Bool} {n : Nat} {F : Nat → Nat → Option Nat} {m : q_Mm} (hst : q_pst b n F) (hn : 89 ≤ n) (hF : q_FF F) (hI : Inv m)
    (kk : ∀ (b : Bool) (n : Nat) (F : Nat → Nat → Option Nat) (m : q_Mm), q_pst b n F → 89 ≤ n → q_FF F → Inv m → q_V g mL_law (q_E g b0 L xs) Z kc ks 1334 [(0, .ref b0), (1, q_r g 0), (2, q_r g 58), (3, .int (nI k))] [] (q_mk n F m)) : q_V g mL_law (q_E g b0 L xs) Z (kc + 3) (ks + 9884) 584 [(0, .ref b0), (1, q_r g 0), (2, q_r g 58), (3, .int (nI k))] [] (q_mk n F m) := by
  obtain ⟨r, m1, m2, h1, h2, hI2⟩ := hO (xs (nI k + 1).toNatClampNeg) (xs (nI k + 2).toNatClampNeg) m hI
  refine q_mono (kc' := kc) (ks' := ks) (Nat.le_add_right _ _) (Nat.le_add_right _ _) ?_
  refine q_aload_n dL_law_584 rfl ?_
  refine q_aloadX_n dL_law_585 rfl ?_
  refine q_iload_n dL_law_586 rfl ?_
  refine q_iconst (v := 1) dL_law_587 (by decide) ?_
  refine q_iadd dL_law_588 ?_
  refine q_scr dL_law_589 (q_ixv 1 (by omega) hL) ?_
  refine q_aloadX_n dL_law_590 rfl ?_
  refine q_iload_n dL_law_591 rfl ?_
  refine q_iconst (v := 2) dL_law_592 (by decide) ?_
  refine q_iadd dL_law_593 ?_
  refine q_scr dL_law_594 (q_ixv 2 (by omega) hL) ?_
  refine c_V1 (as := [_, _]) (st := []) (ci := 9) dL_law_595 okX9_close lL_63 ⟨rfl, rfl⟩ ⟨Nat.le_of_ble_eq_true rfl, Nat.le_of_ble_eq_true rfl⟩ (by decide) rfl rfl (Nat.lt_of_lt_of_le (Nat.le_of_ble_eq_true rfl) hn) rfl rfl (Nat.le_of_ble_eq_true rfl) (Nat.le_of_ble_eq_true rfl) (t_X9_close hn hF h1) ?_
  refine q_aload_n dL_law_598 rfl ?_
  refine q_aloadX_n dL_law_599 rfl ?_
  refine q_iload_n dL_law_600 rfl ?_
  refine q_iconst (v := 1) dL_law_601 (by decide) ?_
  refine q_iadd dL_law_602 ?_
  refine q_scr dL_law_603 (q_ixv 1 (by omega) hL) ?_
  refine q_aloadX_n dL_law_604 rfl ?_
  refine q_iload_n dL_law_605 rfl ?_
  refine q_iconst (v := 2) dL_law_606 (by decide) ?_
  refine q_iadd dL_law_607 ?_
  refine q_scr dL_law_608 (q_ixv 2 (by omega) hL) ?_
  refine c_V1 (as := [_, _]) (st := [_]) (ci := 10) dL_law_609 okX10_close lL_66 ⟨rfl, rfl⟩ ⟨Nat.le_of_ble_eq_true rfl, Nat.le_of_ble_eq_true rfl⟩ (by decide) rfl rfl (Nat.lt_of_lt_of_le (Nat.le_of_ble_eq_true rfl) hn) rfl rfl (Nat.le_of_ble_eq_true rfl) (Nat.le_of_ble_eq_true rfl) (t_X10_close hn hF h2) ?_
  exact q_icmp_eq 1334 dL_law_612 (by decide) (fun _ => kk b n F _ hst hn hF hI2) (fun hc => absurd rfl hc)
def q_OK_centre (Inv : q_Mm → Prop) : Prop := ∀ (x1 : Int32) (m : q_Mm), Inv m → ∃ r m1 m2, f_X9_centre x1 m = (r, m1) ∧ f_X10_centre x1 m1 = (r, m2) ∧ Inv m2
set_option maxRecDepth 100000 in
set_option maxHeartbeats 4000000 in
theorem q_law_centre {g : q_G} {Z : List Frame → Array Value → State → State → Prop} {kc ks b0 L k : Nat} {xs : Nat → Int32} (hL : L ≤ 3584) (hk : k + 6 < L) {Inv : q_Mm → Prop} (hO : q_OK_centre Inv) {b : Bool} {n : Nat} {F : Nat → Nat → Option Nat} {m : q_Mm} (hst : q_pst b n F) (hn : 89 ≤ n) (hF : q_FF F) (hI : Inv m)
    (kk : ∀ (b : Bool) (n : Nat) (F : Nat → Nat → Option Nat) (m : q_Mm), q_pst b n F → 89 ≤ n → q_FF F → Inv m → q_V g mL_law (q_E g b0 L xs) Z kc ks 1334 [(0, .ref b0), (1, q_r g 0), (2, q_r g 58), (3, .int (nI k))] [] (q_mk n F m)) : q_V g mL_law (q_E g b0 L xs) Z (kc + 3) (ks + 9884) 617 [(0, .ref b0), (1, q_r g 0), (2, q_r g 58), (3, .int (nI k))] [] (q_mk n F m) := by
  obtain ⟨r, m1, m2, h1, h2, hI2⟩ := hO (xs (nI k + 1).toNatClampNeg) m hI
  refine q_mono (kc' := kc) (ks' := ks) (Nat.le_add_right _ _) (Nat.le_add_right _ _) ?_
  refine q_aload_n dL_law_617 rfl ?_
  refine q_aloadX_n dL_law_618 rfl ?_
  refine q_iload_n dL_law_619 rfl ?_
  refine q_iconst (v := 1) dL_law_620 (by decide) ?_
  refine q_iadd dL_law_621 ?_
  refine q_scr dL_law_622 (q_ixv 1 (by omega) hL) ?_
  refine c_V1 (as := [_]) (st := []) (ci := 9) dL_law_623 okX9_centre lL_67 ⟨rfl, rfl⟩ ⟨Nat.le_of_ble_eq_true rfl, Nat.le_of_ble_eq_true rfl⟩ (by decide) rfl rfl (Nat.lt_of_lt_of_le (Nat.le_of_ble_eq_true rfl) hn) rfl rfl (Nat.le_of_ble_eq_true rfl) (Nat.le_of_ble_eq_true rfl) (t_X9_centre hn hF h1) ?_
  refine q_aload_n dL_law_626 rfl ?_
  refine q_aloadX_n dL_law_627 rfl ?_
  refine q_iload_n dL_law_628 rfl ?_
  refine q_iconst (v := 1) dL_law_629 (by decide) ?_
  refine q_iadd dL_law_630 ?_
  refine q_scr dL_law_631 (q_ixv 1 (by omega) hL) ?_
  refine c_V1 (as := [_]) (st := [_]) (ci := 10) dL_law_632 okX10_centre lL_70 ⟨rfl, rfl⟩ ⟨Nat.le_of_ble_eq_true rfl, Nat.le_of_ble_eq_true rfl⟩ (by decide) rfl rfl (Nat.lt_of_lt_of_le (Nat.le_of_ble_eq_true rfl) hn) rfl rfl (Nat.le_of_ble_eq_true rfl) (Nat.le_of_ble_eq_true rfl) (t_X10_centre hn hF h2) ?_
  exact q_icmp_eq 1334 dL_law_635 (by decide) (fun _ => kk b n F _ hst hn hF hI2) (fun hc => absurd rfl hc)
def q_OK_lurk (Inv : q_Mm → Prop) : Prop := ∀ (x1 x2 x3 x4 : Int32) (m : q_Mm), Inv m → ∃ r m1 m2, f_X9_lurk x1 x2 x3 x4 m = (r, m1) ∧ f_X10_lurk x1 x2 x3 x4 m1 = (r, m2) ∧ Inv m2
set_option maxRecDepth 100000 in
set_option maxHeartbeats 4000000 in
theorem q_law_lurk {g : q_G} {Z : List Frame → Array Value → State → State → Prop} {kc ks b0 L k : Nat} {xs : Nat → Int32} (hL : L ≤ 3584) (hk : k + 6 < L) {Inv : q_Mm → Prop} (hO : q_OK_lurk Inv) {b : Bool} {n : Nat} {F : Nat → Nat → Option Nat} {m : q_Mm} (hst : q_pst b n F) (hn : 89 ≤ n) (hF : q_FF F) (hI : Inv m)
    (kk : ∀ (b : Bool) (n : Nat) (F : Nat → Nat → Option Nat) (m : q_Mm), q_pst b n F → 89 ≤ n → q_FF F → Inv m → q_V g mL_law (q_E g b0 L xs) Z kc ks 1334 [(0, .ref b0), (1, q_r g 0), (2, q_r g 58), (3, .int (nI k))] [] (q_mk n F m)) : q_V g mL_law (q_E g b0 L xs) Z (kc + 3) (ks + 9884) 640 [(0, .ref b0), (1, q_r g 0), (2, q_r g 58), (3, .int (nI k))] [] (q_mk n F m) := by
  obtain ⟨r, m1, m2, h1, h2, hI2⟩ := hO (xs (nI k + 1).toNatClampNeg) (xs (nI k + 2).toNatClampNeg) (xs (nI k + 3).toNatClampNeg) (xs (nI k + 4).toNatClampNeg) m hI
  refine q_mono (kc' := kc) (ks' := ks) (Nat.le_add_right _ _) (Nat.le_add_right _ _) ?_
  refine q_aload_n dL_law_640 rfl ?_
  refine q_aloadX_n dL_law_641 rfl ?_
  refine q_iload_n dL_law_642 rfl ?_
  refine q_iconst (v := 1) dL_law_643 (by decide) ?_
  refine q_iadd dL_law_644 ?_
  refine q_scr dL_law_645 (q_ixv 1 (by omega) hL) ?_
  refine q_aloadX_n dL_law_646 rfl ?_
  refine q_iload_n dL_law_647 rfl ?_
  refine q_iconst (v := 2) dL_law_648 (by decide) ?_
  refine q_iadd dL_law_649 ?_
  refine q_scr dL_law_650 (q_ixv 2 (by omega) hL) ?_
  refine q_aloadX_n dL_law_651 rfl ?_
  refine q_iload_n dL_law_652 rfl ?_
  refine q_iconst (v := 3) dL_law_653 (by decide) ?_
  refine q_iadd dL_law_654 ?_
  refine q_scr dL_law_655 (q_ixv 3 (by omega) hL) ?_
  refine q_aloadX_n dL_law_656 rfl ?_
  refine q_iload_n dL_law_657 rfl ?_
  refine q_iconst (v := 4) dL_law_658 (by decide) ?_
  refine q_iadd dL_law_659 ?_
  refine q_scr dL_law_660 (q_ixv 4 (by omega) hL) ?_
  refine c_V1 (as := [_, _, _, _]) (st := []) (ci := 9) dL_law_661 okX9_lurk lL_71 ⟨rfl, rfl⟩ ⟨Nat.le_of_ble_eq_true rfl, Nat.le_of_ble_eq_true rfl⟩ (by decide) rfl rfl (Nat.lt_of_lt_of_le (Nat.le_of_ble_eq_true rfl) hn) rfl rfl (Nat.le_of_ble_eq_true rfl) (Nat.le_of_ble_eq_true rfl) (t_X9_lurk hn hF h1) ?_
  refine q_aload_n dL_law_664 rfl ?_
  refine q_aloadX_n dL_law_665 rfl ?_
  refine q_iload_n dL_law_666 rfl ?_
  refine q_iconst (v := 1) dL_law_667 (by decide) ?_
  refine q_iadd dL_law_668 ?_
  refine q_scr dL_law_669 (q_ixv 1 (by omega) hL) ?_
  refine q_aloadX_n dL_law_670 rfl ?_
  refine q_iload_n dL_law_671 rfl ?_
  refine q_iconst (v := 2) dL_law_672 (by decide) ?_
  refine q_iadd dL_law_673 ?_
  refine q_scr dL_law_674 (q_ixv 2 (by omega) hL) ?_
  refine q_aloadX_n dL_law_675 rfl ?_
  refine q_iload_n dL_law_676 rfl ?_
  refine q_iconst (v := 3) dL_law_677 (by decide) ?_
  refine q_iadd dL_law_678 ?_
  refine q_scr dL_law_679 (q_ixv 3 (by omega) hL) ?_
  refine q_aloadX_n dL_law_680 rfl ?_
  refine q_iload_n dL_law_681 rfl ?_
  refine q_iconst (v := 4) dL_law_682 (by decide) ?_
  refine q_iadd dL_law_683 ?_
  refine q_scr dL_law_684 (q_ixv 4 (by omega) hL) ?_
  refine c_V1 (as := [_, _, _, _]) (st := [_]) (ci := 10) dL_law_685 okX10_lurk lL_74 ⟨rfl, rfl⟩ ⟨Nat.le_of_ble_eq_true rfl, Nat.le_of_ble_eq_true rfl⟩ (by decide) rfl rfl (Nat.lt_of_lt_of_le (Nat.le_of_ble_eq_true rfl) hn) rfl rfl (Nat.le_of_ble_eq_true rfl) (Nat.le_of_ble_eq_true rfl) (t_X10_lurk hn hF h2) ?_
  exact q_icmp_eq 1334 dL_law_688 (by decide) (fun _ => kk b n F _ hst hn hF hI2) (fun hc => absurd rfl hc)
def q_OK_comes (Inv : q_Mm → Prop) : Prop := ∀ (x1 : Int32) (m : q_Mm), Inv m → ∃ r m2, f_X9_comes x1 m = some r ∧ f_X10_comes x1 m = some (r, m2) ∧ Inv m2
set_option maxRecDepth 100000 in
set_option maxHeartbeats 4000000 in
theorem q_law_comes {g : q_G} {Z : List Frame → Array Value → State → State → Prop} {kc ks b0 L k : Nat} {xs : Nat → Int32} (hL : L ≤ 3584) (hk : k + 6 < L) {Inv : q_Mm → Prop} (hO : q_OK_comes Inv) {b : Bool} {n : Nat} {F : Nat → Nat → Option Nat} {m : q_Mm} (hst : q_pst b n F) (hn : 89 ≤ n) (hF : q_FF F) (hI : Inv m)
    (kk : ∀ (b : Bool) (n : Nat) (F : Nat → Nat → Option Nat) (m : q_Mm), q_pst b n F → 89 ≤ n → q_FF F → Inv m → q_V g mL_law (q_E g b0 L xs) Z kc ks 1334 [(0, .ref b0), (1, q_r g 0), (2, q_r g 58), (3, .int (nI k))] [] (q_mk n F m)) : q_V g mL_law (q_E g b0 L xs) Z (kc + 3) (ks + 9884) 693 [(0, .ref b0), (1, q_r g 0), (2, q_r g 58), (3, .int (nI k))] [] (q_mk n F m) := by
  obtain ⟨r, m2, h1, h2, hI2⟩ := hO (xs (nI k + 1).toNatClampNeg) m hI
  refine q_mono (kc' := kc) (ks' := ks) (Nat.le_add_right _ _) (Nat.le_add_right _ _) ?_
  refine q_aload_n dL_law_693 rfl ?_
  refine q_aloadX_n dL_law_694 rfl ?_
  refine q_iload_n dL_law_695 rfl ?_
  refine q_iconst (v := 1) dL_law_696 (by decide) ?_
  refine q_iadd dL_law_697 ?_
  refine q_scr dL_law_698 (q_ixv 1 (by omega) hL) ?_
  refine c_V1 (as := [_]) (st := []) (ci := 9) dL_law_699 okX9_comes lL_75 ⟨rfl, rfl⟩ ⟨Nat.le_of_ble_eq_true rfl, Nat.le_of_ble_eq_true rfl⟩ (by decide) rfl rfl (Nat.lt_of_lt_of_le (Nat.le_of_ble_eq_true rfl) hn) rfl rfl (Nat.le_of_ble_eq_true rfl) (Nat.le_of_ble_eq_true rfl) (t_X9_comes hn hF h1) ?_
  refine q_aload_n dL_law_702 rfl ?_
  refine q_aloadX_n dL_law_703 rfl ?_
  refine q_iload_n dL_law_704 rfl ?_
  refine q_iconst (v := 1) dL_law_705 (by decide) ?_
  refine q_iadd dL_law_706 ?_
  refine q_scr dL_law_707 (q_ixv 1 (by omega) hL) ?_
  refine c_V1 (as := [_]) (st := [_]) (ci := 10) dL_law_708 okX10_comes lL_78 ⟨rfl, rfl⟩ ⟨Nat.le_of_ble_eq_true rfl, Nat.le_of_ble_eq_true rfl⟩ (by decide) rfl rfl (Nat.lt_of_lt_of_le (Nat.le_of_ble_eq_true rfl) hn) rfl rfl (Nat.le_of_ble_eq_true rfl) (Nat.le_of_ble_eq_true rfl) (t_X10_comes hn hF h2) ?_
  exact q_icmp_eq 1334 dL_law_711 (by decide) (fun _ => kk b n F _ hst hn hF hI2) (fun hc => absurd rfl hc)
def q_OK_gets (Inv : q_Mm → Prop) : Prop := ∀ (x1 x2 : Int32) (m : q_Mm), Inv m → ∃ r m1 m2, f_X9_gets x1 x2 m = some (r, m1) ∧ f_X10_gets x1 x2 m1 = some (r, m2) ∧ Inv m2
set_option maxRecDepth 100000 in
set_option maxHeartbeats 4000000 in
theorem q_law_gets {g : q_G} {Z : List Frame → Array Value → State → State → Prop} {kc ks b0 L k : Nat} {xs : Nat → Int32} (hL : L ≤ 3584) (hk : k + 6 < L) {Inv : q_Mm → Prop} (hO : q_OK_gets Inv) {b : Bool} {n : Nat} {F : Nat → Nat → Option Nat} {m : q_Mm} (hst : q_pst b n F) (hn : 89 ≤ n) (hF : q_FF F) (hI : Inv m)
    (kk : ∀ (b : Bool) (n : Nat) (F : Nat → Nat → Option Nat) (m : q_Mm), q_pst b n F → 89 ≤ n → q_FF F → Inv m → q_V g mL_law (q_E g b0 L xs) Z kc ks 1334 [(0, .ref b0), (1, q_r g 0), (2, q_r g 58), (3, .int (nI k))] [] (q_mk n F m)) : q_V g mL_law (q_E g b0 L xs) Z (kc + 3) (ks + 9884) 716 [(0, .ref b0), (1, q_r g 0), (2, q_r g 58), (3, .int (nI k))] [] (q_mk n F m) := by
  obtain ⟨r, m1, m2, h1, h2, hI2⟩ := hO (xs (nI k + 1).toNatClampNeg) (xs (nI k + 2).toNatClampNeg) m hI
  refine q_mono (kc' := kc) (ks' := ks) (Nat.le_add_right _ _) (Nat.le_add_right _ _) ?_
  refine q_aload_n dL_law_716 rfl ?_
  refine q_aloadX_n dL_law_717 rfl ?_
  refine q_iload_n dL_law_718 rfl ?_
  refine q_iconst (v := 1) dL_law_719 (by decide) ?_
  refine q_iadd dL_law_720 ?_
  refine q_scr dL_law_721 (q_ixv 1 (by omega) hL) ?_
  refine q_aloadX_n dL_law_722 rfl ?_
  refine q_iload_n dL_law_723 rfl ?_
  refine q_iconst (v := 2) dL_law_724 (by decide) ?_
  refine q_iadd dL_law_725 ?_
  refine q_scr dL_law_726 (q_ixv 2 (by omega) hL) ?_
  refine c_V1 (as := [_, _]) (st := []) (ci := 9) dL_law_727 okX9_gets lL_79 ⟨rfl, rfl⟩ ⟨Nat.le_of_ble_eq_true rfl, Nat.le_of_ble_eq_true rfl⟩ (by decide) rfl rfl (Nat.lt_of_lt_of_le (Nat.le_of_ble_eq_true rfl) hn) rfl rfl (Nat.le_of_ble_eq_true rfl) (Nat.le_of_ble_eq_true rfl) (t_X9_gets hn hF h1) ?_
  refine q_aload_n dL_law_730 rfl ?_
  refine q_aloadX_n dL_law_731 rfl ?_
  refine q_iload_n dL_law_732 rfl ?_
  refine q_iconst (v := 1) dL_law_733 (by decide) ?_
  refine q_iadd dL_law_734 ?_
  refine q_scr dL_law_735 (q_ixv 1 (by omega) hL) ?_
  refine q_aloadX_n dL_law_736 rfl ?_
  refine q_iload_n dL_law_737 rfl ?_
  refine q_iconst (v := 2) dL_law_738 (by decide) ?_
  refine q_iadd dL_law_739 ?_
  refine q_scr dL_law_740 (q_ixv 2 (by omega) hL) ?_
  refine c_V1 (as := [_, _]) (st := [_]) (ci := 10) dL_law_741 okX10_gets lL_82 ⟨rfl, rfl⟩ ⟨Nat.le_of_ble_eq_true rfl, Nat.le_of_ble_eq_true rfl⟩ (by decide) rfl rfl (Nat.lt_of_lt_of_le (Nat.le_of_ble_eq_true rfl) hn) rfl rfl (Nat.le_of_ble_eq_true rfl) (Nat.le_of_ble_eq_true rfl) (t_X10_gets hn hF h2) ?_
  exact q_icmp_eq 1334 dL_law_744 (by decide) (fun _ => kk b n F _ hst hn hF hI2) (fun hc => absurd rfl hc)
def q_OK_worst (Inv : q_Mm → Prop) : Prop := ∀ (x1 x2 x3 x4 x5 x6 : Int32) (m : q_Mm), Inv m → ∃ r m1 m2, f_X9_worst x1 x2 x3 x4 x5 x6 m = some (r, m1) ∧ f_X10_worst x1 x2 x3 x4 x5 x6 m1 = some (r, m2) ∧ Inv m2
set_option maxRecDepth 100000 in
set_option maxHeartbeats 4000000 in
theorem q_law_worst {g : q_G} {Z : List Frame → Array Value → State → State → Prop} {kc ks b0 L k : Nat} {xs : Nat → Int32} (hL : L ≤ 3584) (hk : k + 6 < L) {Inv : q_Mm → Prop} (hO : q_OK_worst Inv) {b : Bool} {n : Nat} {F : Nat → Nat → Option Nat} {m : q_Mm} (hst : q_pst b n F) (hn : 89 ≤ n) (hF : q_FF F) (hI : Inv m)
    (kk : ∀ (b : Bool) (n : Nat) (F : Nat → Nat → Option Nat) (m : q_Mm), q_pst b n F → 89 ≤ n → q_FF F → Inv m → q_V g mL_law (q_E g b0 L xs) Z kc ks 1334 [(0, .ref b0), (1, q_r g 0), (2, q_r g 58), (3, .int (nI k))] [] (q_mk n F m)) : q_V g mL_law (q_E g b0 L xs) Z (kc + 3) (ks + 9884) 749 [(0, .ref b0), (1, q_r g 0), (2, q_r g 58), (3, .int (nI k))] [] (q_mk n F m) := by
  obtain ⟨r, m1, m2, h1, h2, hI2⟩ := hO (xs (nI k + 1).toNatClampNeg) (xs (nI k + 2).toNatClampNeg) (xs (nI k + 3).toNatClampNeg) (xs (nI k + 4).toNatClampNeg) (xs (nI k + 5).toNatClampNeg) (xs (nI k + 6).toNatClampNeg) m hI
  refine q_mono (kc' := kc) (ks' := ks) (Nat.le_add_right _ _) (Nat.le_add_right _ _) ?_
  refine q_aload_n dL_law_749 rfl ?_
  refine q_aloadX_n dL_law_750 rfl ?_
  refine q_iload_n dL_law_751 rfl ?_
  refine q_iconst (v := 1) dL_law_752 (by decide) ?_
  refine q_iadd dL_law_753 ?_
  refine q_scr dL_law_754 (q_ixv 1 (by omega) hL) ?_
  refine q_aloadX_n dL_law_755 rfl ?_
  refine q_iload_n dL_law_756 rfl ?_
  refine q_iconst (v := 2) dL_law_757 (by decide) ?_
  refine q_iadd dL_law_758 ?_
  refine q_scr dL_law_759 (q_ixv 2 (by omega) hL) ?_
  refine q_aloadX_n dL_law_760 rfl ?_
  refine q_iload_n dL_law_761 rfl ?_
  refine q_iconst (v := 3) dL_law_762 (by decide) ?_
  refine q_iadd dL_law_763 ?_
  refine q_scr dL_law_764 (q_ixv 3 (by omega) hL) ?_
  refine q_aloadX_n dL_law_765 rfl ?_
  refine q_iload_n dL_law_766 rfl ?_
  refine q_iconst (v := 4) dL_law_767 (by decide) ?_
  refine q_iadd dL_law_768 ?_
  refine q_scr dL_law_769 (q_ixv 4 (by omega) hL) ?_
  refine q_aloadX_n dL_law_770 rfl ?_
  refine q_iload_n dL_law_771 rfl ?_
  refine q_iconst (v := 5) dL_law_772 (by decide) ?_
  refine q_iadd dL_law_773 ?_
  refine q_scr dL_law_774 (q_ixv 5 (by omega) hL) ?_
  refine q_aloadX_n dL_law_775 rfl ?_
  refine q_iload_n dL_law_776 rfl ?_
  refine q_bipush (v := 6) dL_law_777 (by decide) ?_
  refine q_iadd dL_law_779 ?_
  refine q_scr dL_law_780 (q_ixv 6 (by omega) hL) ?_
  refine c_V1 (as := [_, _, _, _, _, _]) (st := []) (ci := 9) dL_law_781 okX9_worst lL_83 ⟨rfl, rfl⟩ ⟨Nat.le_of_ble_eq_true rfl, Nat.le_of_ble_eq_true rfl⟩ (by decide) rfl rfl (Nat.lt_of_lt_of_le (Nat.le_of_ble_eq_true rfl) hn) rfl rfl (Nat.le_of_ble_eq_true rfl) (Nat.le_of_ble_eq_true rfl) (t_X9_worst hn hF h1) ?_
  refine q_aload_n dL_law_784 rfl ?_
  refine q_aloadX_n dL_law_785 rfl ?_
  refine q_iload_n dL_law_786 rfl ?_
  refine q_iconst (v := 1) dL_law_787 (by decide) ?_
  refine q_iadd dL_law_788 ?_
  refine q_scr dL_law_789 (q_ixv 1 (by omega) hL) ?_
  refine q_aloadX_n dL_law_790 rfl ?_
  refine q_iload_n dL_law_791 rfl ?_
  refine q_iconst (v := 2) dL_law_792 (by decide) ?_
  refine q_iadd dL_law_793 ?_
  refine q_scr dL_law_794 (q_ixv 2 (by omega) hL) ?_
  refine q_aloadX_n dL_law_795 rfl ?_
  refine q_iload_n dL_law_796 rfl ?_
  refine q_iconst (v := 3) dL_law_797 (by decide) ?_
  refine q_iadd dL_law_798 ?_
  refine q_scr dL_law_799 (q_ixv 3 (by omega) hL) ?_
  refine q_aloadX_n dL_law_800 rfl ?_
  refine q_iload_n dL_law_801 rfl ?_
  refine q_iconst (v := 4) dL_law_802 (by decide) ?_
  refine q_iadd dL_law_803 ?_
  refine q_scr dL_law_804 (q_ixv 4 (by omega) hL) ?_
  refine q_aloadX_n dL_law_805 rfl ?_
  refine q_iload_n dL_law_806 rfl ?_
  refine q_iconst (v := 5) dL_law_807 (by decide) ?_
  refine q_iadd dL_law_808 ?_
  refine q_scr dL_law_809 (q_ixv 5 (by omega) hL) ?_
  refine q_aloadX_n dL_law_810 rfl ?_
  refine q_iload_n dL_law_811 rfl ?_
  refine q_bipush (v := 6) dL_law_812 (by decide) ?_
  refine q_iadd dL_law_814 ?_
  refine q_scr dL_law_815 (q_ixv 6 (by omega) hL) ?_
  refine c_V1 (as := [_, _, _, _, _, _]) (st := [_]) (ci := 10) dL_law_816 okX10_worst lL_87 ⟨rfl, rfl⟩ ⟨Nat.le_of_ble_eq_true rfl, Nat.le_of_ble_eq_true rfl⟩ (by decide) rfl rfl (Nat.lt_of_lt_of_le (Nat.le_of_ble_eq_true rfl) hn) rfl rfl (Nat.le_of_ble_eq_true rfl) (Nat.le_of_ble_eq_true rfl) (t_X10_worst hn hF h2) ?_
  exact q_icmp_eq 1334 dL_law_819 (by decide) (fun _ => kk b n F _ hst hn hF hI2) (fun hc => absurd rfl hc)
def q_OK_mix (Inv : q_Mm → Prop) : Prop := ∀ (x1 x2 x3 : Int32) (m : q_Mm), Inv m → ∃ r m1 m2, f_X9_mix x1 x2 x3 m = some (r, m1) ∧ f_X10_mix x1 x2 x3 m1 = some (r, m2) ∧ Inv m2
set_option maxRecDepth 100000 in
set_option maxHeartbeats 4000000 in
theorem q_law_mix {g : q_G} {Z : List Frame → Array Value → State → State → Prop} {kc ks b0 L k : Nat} {xs : Nat → Int32} (hL : L ≤ 3584) (hk : k + 6 < L) {Inv : q_Mm → Prop} (hO : q_OK_mix Inv) {b : Bool} {n : Nat} {F : Nat → Nat → Option Nat} {m : q_Mm} (hst : q_pst b n F) (hn : 89 ≤ n) (hF : q_FF F) (hI : Inv m)
    (kk : ∀ (b : Bool) (n : Nat) (F : Nat → Nat → Option Nat) (m : q_Mm), q_pst b n F → 89 ≤ n → q_FF F → Inv m → q_V g mL_law (q_E g b0 L xs) Z kc ks 1334 [(0, .ref b0), (1, q_r g 0), (2, q_r g 58), (3, .int (nI k))] [] (q_mk n F m)) : q_V g mL_law (q_E g b0 L xs) Z (kc + 3) (ks + 9884) 824 [(0, .ref b0), (1, q_r g 0), (2, q_r g 58), (3, .int (nI k))] [] (q_mk n F m) := by
  obtain ⟨r, m1, m2, h1, h2, hI2⟩ := hO (xs (nI k + 1).toNatClampNeg) (xs (nI k + 2).toNatClampNeg) (xs (nI k + 3).toNatClampNeg) m hI
  refine q_mono (kc' := kc) (ks' := ks) (Nat.le_add_right _ _) (Nat.le_add_right _ _) ?_
  refine q_aload_n dL_law_824 rfl ?_
  refine q_aloadX_n dL_law_825 rfl ?_
  refine q_iload_n dL_law_826 rfl ?_
  refine q_iconst (v := 1) dL_law_827 (by decide) ?_
  refine q_iadd dL_law_828 ?_
  refine q_scr dL_law_829 (q_ixv 1 (by omega) hL) ?_
  refine q_aloadX_n dL_law_830 rfl ?_
  refine q_iload_n dL_law_831 rfl ?_
  refine q_iconst (v := 2) dL_law_832 (by decide) ?_
  refine q_iadd dL_law_833 ?_
  refine q_scr dL_law_834 (q_ixv 2 (by omega) hL) ?_
  refine q_aloadX_n dL_law_835 rfl ?_
  refine q_iload_n dL_law_836 rfl ?_
  refine q_iconst (v := 3) dL_law_837 (by decide) ?_
  refine q_iadd dL_law_838 ?_
  refine q_scr dL_law_839 (q_ixv 3 (by omega) hL) ?_
  refine c_V1 (as := [_, _, _]) (st := []) (ci := 9) dL_law_840 okX9_mix lL_88 ⟨rfl, rfl⟩ ⟨Nat.le_of_ble_eq_true rfl, Nat.le_of_ble_eq_true rfl⟩ (by decide) rfl rfl (Nat.lt_of_lt_of_le (Nat.le_of_ble_eq_true rfl) hn) rfl rfl (Nat.le_of_ble_eq_true rfl) (Nat.le_of_ble_eq_true rfl) (t_X9_mix hn hF h1) ?_
  refine q_aload_n dL_law_843 rfl ?_
  refine q_aloadX_n dL_law_844 rfl ?_
  refine q_iload_n dL_law_845 rfl ?_
  refine q_iconst (v := 1) dL_law_846 (by decide) ?_
  refine q_iadd dL_law_847 ?_
  refine q_scr dL_law_848 (q_ixv 1 (by omega) hL) ?_
  refine q_aloadX_n dL_law_849 rfl ?_
  refine q_iload_n dL_law_850 rfl ?_
  refine q_iconst (v := 2) dL_law_851 (by decide) ?_
  refine q_iadd dL_law_852 ?_
  refine q_scr dL_law_853 (q_ixv 2 (by omega) hL) ?_
  refine q_aloadX_n dL_law_854 rfl ?_
  refine q_iload_n dL_law_855 rfl ?_
  refine q_iconst (v := 3) dL_law_856 (by decide) ?_
  refine q_iadd dL_law_857 ?_
  refine q_scr dL_law_858 (q_ixv 3 (by omega) hL) ?_
  refine c_V1 (as := [_, _, _]) (st := [_]) (ci := 10) dL_law_859 okX10_mix lL_91 ⟨rfl, rfl⟩ ⟨Nat.le_of_ble_eq_true rfl, Nat.le_of_ble_eq_true rfl⟩ (by decide) rfl rfl (Nat.lt_of_lt_of_le (Nat.le_of_ble_eq_true rfl) hn) rfl rfl (Nat.le_of_ble_eq_true rfl) (Nat.le_of_ble_eq_true rfl) (t_X10_mix hn hF h2) ?_
  exact q_icmp_eq 1334 dL_law_862 (by decide) (fun _ => kk b n F _ hst hn hF hI2) (fun hc => absurd rfl hc)
def q_OK_post (Inv : q_Mm → Prop) : Prop := ∀ (x1 x2 x3 : Int32) (m : q_Mm), Inv m → ∃ r m1 m2, f_X9_post x1 x2 x3 m = some (r, m1) ∧ f_X10_post x1 x2 x3 m1 = some (r, m2) ∧ Inv m2
set_option maxRecDepth 100000 in
set_option maxHeartbeats 4000000 in
theorem q_law_post {g : q_G} {Z : List Frame → Array Value → State → State → Prop} {kc ks b0 L k : Nat} {xs : Nat → Int32} (hL : L ≤ 3584) (hk : k + 6 < L) {Inv : q_Mm → Prop} (hO : q_OK_post Inv) {b : Bool} {n : Nat} {F : Nat → Nat → Option Nat} {m : q_Mm} (hst : q_pst b n F) (hn : 89 ≤ n) (hF : q_FF F) (hI : Inv m)
    (kk : ∀ (b : Bool) (n : Nat) (F : Nat → Nat → Option Nat) (m : q_Mm), q_pst b n F → 89 ≤ n → q_FF F → Inv m → q_V g mL_law (q_E g b0 L xs) Z kc ks 1334 [(0, .ref b0), (1, q_r g 0), (2, q_r g 58), (3, .int (nI k))] [] (q_mk n F m)) : q_V g mL_law (q_E g b0 L xs) Z (kc + 3) (ks + 9884) 867 [(0, .ref b0), (1, q_r g 0), (2, q_r g 58), (3, .int (nI k))] [] (q_mk n F m) := by
  obtain ⟨r, m1, m2, h1, h2, hI2⟩ := hO (xs (nI k + 1).toNatClampNeg) (xs (nI k + 2).toNatClampNeg) (xs (nI k + 3).toNatClampNeg) m hI
  refine q_mono (kc' := kc) (ks' := ks) (Nat.le_add_right _ _) (Nat.le_add_right _ _) ?_
  refine q_aload_n dL_law_867 rfl ?_
  refine q_aloadX_n dL_law_868 rfl ?_
  refine q_iload_n dL_law_869 rfl ?_
  refine q_iconst (v := 1) dL_law_870 (by decide) ?_
  refine q_iadd dL_law_871 ?_
  refine q_scr dL_law_872 (q_ixv 1 (by omega) hL) ?_
  refine q_aloadX_n dL_law_873 rfl ?_
  refine q_iload_n dL_law_874 rfl ?_
  refine q_iconst (v := 2) dL_law_875 (by decide) ?_
  refine q_iadd dL_law_876 ?_
  refine q_scr dL_law_877 (q_ixv 2 (by omega) hL) ?_
  refine q_aloadX_n dL_law_878 rfl ?_
  refine q_iload_n dL_law_879 rfl ?_
  refine q_iconst (v := 3) dL_law_880 (by decide) ?_
  refine q_iadd dL_law_881 ?_
  refine q_scr dL_law_882 (q_ixv 3 (by omega) hL) ?_
  refine c_V1 (as := [_, _, _]) (st := []) (ci := 9) dL_law_883 okX9_post lL_92 ⟨rfl, rfl⟩ ⟨Nat.le_of_ble_eq_true rfl, Nat.le_of_ble_eq_true rfl⟩ (by decide) rfl rfl (Nat.lt_of_lt_of_le (Nat.le_of_ble_eq_true rfl) hn) rfl rfl (Nat.le_of_ble_eq_true rfl) (Nat.le_of_ble_eq_true rfl) (t_X9_post hn hF h1) ?_
  refine q_aload_n dL_law_886 rfl ?_
  refine q_aloadX_n dL_law_887 rfl ?_
  refine q_iload_n dL_law_888 rfl ?_
  refine q_iconst (v := 1) dL_law_889 (by decide) ?_
  refine q_iadd dL_law_890 ?_
  refine q_scr dL_law_891 (q_ixv 1 (by omega) hL) ?_
  refine q_aloadX_n dL_law_892 rfl ?_
  refine q_iload_n dL_law_893 rfl ?_
  refine q_iconst (v := 2) dL_law_894 (by decide) ?_
  refine q_iadd dL_law_895 ?_
  refine q_scr dL_law_896 (q_ixv 2 (by omega) hL) ?_
  refine q_aloadX_n dL_law_897 rfl ?_
  refine q_iload_n dL_law_898 rfl ?_
  refine q_iconst (v := 3) dL_law_899 (by decide) ?_
  refine q_iadd dL_law_900 ?_
  refine q_scr dL_law_901 (q_ixv 3 (by omega) hL) ?_
  refine c_V1 (as := [_, _, _]) (st := [_]) (ci := 10) dL_law_902 okX10_post lL_95 ⟨rfl, rfl⟩ ⟨Nat.le_of_ble_eq_true rfl, Nat.le_of_ble_eq_true rfl⟩ (by decide) rfl rfl (Nat.lt_of_lt_of_le (Nat.le_of_ble_eq_true rfl) hn) rfl rfl (Nat.le_of_ble_eq_true rfl) (Nat.le_of_ble_eq_true rfl) (t_X10_post hn hF h2) ?_
  exact q_icmp_eq 1334 dL_law_905 (by decide) (fun _ => kk b n F _ hst hn hF hI2) (fun hc => absurd rfl hc)
def q_OK_seen (Inv : q_Mm → Prop) : Prop := ∀ (x1 x2 : Int32) (m : q_Mm), Inv m → ∃ r m1 m2, f_X9_seen x1 x2 m = some (r, m1) ∧ f_X10_seen x1 x2 m1 = some (r, m2) ∧ Inv m2
set_option maxRecDepth 100000 in
set_option maxHeartbeats 4000000 in
theorem q_law_seen {g : q_G} {Z : List Frame → Array Value → State → State → Prop} {kc ks b0 L k : Nat} {xs : Nat → Int32} (hL : L ≤ 3584) (hk : k + 6 < L) {Inv : q_Mm → Prop} (hO : q_OK_seen Inv) {b : Bool} {n : Nat} {F : Nat → Nat → Option Nat} {m : q_Mm} (hst : q_pst b n F) (hn : 89 ≤ n) (hF : q_FF F) (hI : Inv m)
    (kk : ∀ (b : Bool) (n : Nat) (F : Nat → Nat → Option Nat) (m : q_Mm), q_pst b n F → 89 ≤ n → q_FF F → Inv m → q_V g mL_law (q_E g b0 L xs) Z kc ks 1334 [(0, .ref b0), (1, q_r g 0), (2, q_r g 58), (3, .int (nI k))] [] (q_mk n F m)) : q_V g mL_law (q_E g b0 L xs) Z (kc + 3) (ks + 9884) 910 [(0, .ref b0), (1, q_r g 0), (2, q_r g 58), (3, .int (nI k))] [] (q_mk n F m) := by
  obtain ⟨r, m1, m2, h1, h2, hI2⟩ := hO (xs (nI k + 1).toNatClampNeg) (xs (nI k + 2).toNatClampNeg) m hI
  refine q_mono (kc' := kc) (ks' := ks) (Nat.le_add_right _ _) (Nat.le_add_right _ _) ?_
  refine q_aload_n dL_law_910 rfl ?_
  refine q_aloadX_n dL_law_911 rfl ?_
  refine q_iload_n dL_law_912 rfl ?_
  refine q_iconst (v := 1) dL_law_913 (by decide) ?_
  refine q_iadd dL_law_914 ?_
  refine q_scr dL_law_915 (q_ixv 1 (by omega) hL) ?_
  refine q_aloadX_n dL_law_916 rfl ?_
  refine q_iload_n dL_law_917 rfl ?_
  refine q_iconst (v := 2) dL_law_918 (by decide) ?_
  refine q_iadd dL_law_919 ?_
  refine q_scr dL_law_920 (q_ixv 2 (by omega) hL) ?_
  refine c_V1 (as := [_, _]) (st := []) (ci := 9) dL_law_921 okX9_seen lL_96 ⟨rfl, rfl⟩ ⟨Nat.le_of_ble_eq_true rfl, Nat.le_of_ble_eq_true rfl⟩ (by decide) rfl rfl (Nat.lt_of_lt_of_le (Nat.le_of_ble_eq_true rfl) hn) rfl rfl (Nat.le_of_ble_eq_true rfl) (Nat.le_of_ble_eq_true rfl) (t_X9_seen hn hF h1) ?_
  refine q_aload_n dL_law_924 rfl ?_
  refine q_aloadX_n dL_law_925 rfl ?_
  refine q_iload_n dL_law_926 rfl ?_
  refine q_iconst (v := 1) dL_law_927 (by decide) ?_
  refine q_iadd dL_law_928 ?_
  refine q_scr dL_law_929 (q_ixv 1 (by omega) hL) ?_
  refine q_aloadX_n dL_law_930 rfl ?_
  refine q_iload_n dL_law_931 rfl ?_
  refine q_iconst (v := 2) dL_law_932 (by decide) ?_
  refine q_iadd dL_law_933 ?_
  refine q_scr dL_law_934 (q_ixv 2 (by omega) hL) ?_
  refine c_V1 (as := [_, _]) (st := [_]) (ci := 10) dL_law_935 okX10_seen lL_99 ⟨rfl, rfl⟩ ⟨Nat.le_of_ble_eq_true rfl, Nat.le_of_ble_eq_true rfl⟩ (by decide) rfl rfl (Nat.lt_of_lt_of_le (Nat.le_of_ble_eq_true rfl) hn) rfl rfl (Nat.le_of_ble_eq_true rfl) (Nat.le_of_ble_eq_true rfl) (t_X10_seen hn hF h2) ?_
  exact q_icmp_eq 1334 dL_law_938 (by decide) (fun _ => kk b n F _ hst hn hF hI2) (fun hc => absurd rfl hc)
def q_OK_best (Inv : q_Mm → Prop) : Prop := ∀ (x1 x2 : Int32) (m : q_Mm), Inv m → ∃ r m1 m2, f_X9_best x1 x2 m = some (r, m1) ∧ f_X10_best x1 x2 m1 = some (r, m2) ∧ Inv m2
set_option maxRecDepth 100000 in
set_option maxHeartbeats 4000000 in
theorem q_law_best {g : q_G} {Z : List Frame → Array Value → State → State → Prop} {kc ks b0 L k : Nat} {xs : Nat → Int32} (hL : L ≤ 3584) (hk : k + 6 < L) {Inv : q_Mm → Prop} (hO : q_OK_best Inv) {b : Bool} {n : Nat} {F : Nat → Nat → Option Nat} {m : q_Mm} (hst : q_pst b n F) (hn : 89 ≤ n) (hF : q_FF F) (hI : Inv m)
    (kk : ∀ (b : Bool) (n : Nat) (F : Nat → Nat → Option Nat) (m : q_Mm), q_pst b n F → 89 ≤ n → q_FF F → Inv m → q_V g mL_law (q_E g b0 L xs) Z kc ks 1334 [(0, .ref b0), (1, q_r g 0), (2, q_r g 58), (3, .int (nI k))] [] (q_mk n F m)) : q_V g mL_law (q_E g b0 L xs) Z (kc + 3) (ks + 9884) 943 [(0, .ref b0), (1, q_r g 0), (2, q_r g 58), (3, .int (nI k))] [] (q_mk n F m) := by
  obtain ⟨r, m1, m2, h1, h2, hI2⟩ := hO (xs (nI k + 1).toNatClampNeg) (xs (nI k + 2).toNatClampNeg) m hI
  refine q_mono (kc' := kc) (ks' := ks) (Nat.le_add_right _ _) (Nat.le_add_right _ _) ?_
  refine q_aload_n dL_law_943 rfl ?_
  refine q_aloadX_n dL_law_944 rfl ?_
  refine q_iload_n dL_law_945 rfl ?_
  refine q_iconst (v := 1) dL_law_946 (by decide) ?_
  refine q_iadd dL_law_947 ?_
  refine q_scr dL_law_948 (q_ixv 1 (by omega) hL) ?_
  refine q_aloadX_n dL_law_949 rfl ?_
  refine q_iload_n dL_law_950 rfl ?_
  refine q_iconst (v := 2) dL_law_951 (by decide) ?_
  refine q_iadd dL_law_952 ?_
  refine q_scr dL_law_953 (q_ixv 2 (by omega) hL) ?_
  refine c_V1 (as := [_, _]) (st := []) (ci := 9) dL_law_954 okX9_best lL_100 ⟨rfl, rfl⟩ ⟨Nat.le_of_ble_eq_true rfl, Nat.le_of_ble_eq_true rfl⟩ (by decide) rfl rfl (Nat.lt_of_lt_of_le (Nat.le_of_ble_eq_true rfl) hn) rfl rfl (Nat.le_of_ble_eq_true rfl) (Nat.le_of_ble_eq_true rfl) (t_X9_best hn hF h1) ?_
  refine q_aload_n dL_law_957 rfl ?_
  refine q_aloadX_n dL_law_958 rfl ?_
  refine q_iload_n dL_law_959 rfl ?_
  refine q_iconst (v := 1) dL_law_960 (by decide) ?_
  refine q_iadd dL_law_961 ?_
  refine q_scr dL_law_962 (q_ixv 1 (by omega) hL) ?_
  refine q_aloadX_n dL_law_963 rfl ?_
  refine q_iload_n dL_law_964 rfl ?_
  refine q_iconst (v := 2) dL_law_965 (by decide) ?_
  refine q_iadd dL_law_966 ?_
  refine q_scr dL_law_967 (q_ixv 2 (by omega) hL) ?_
  refine c_V1 (as := [_, _]) (st := [_]) (ci := 10) dL_law_968 okX10_best lL_103 ⟨rfl, rfl⟩ ⟨Nat.le_of_ble_eq_true rfl, Nat.le_of_ble_eq_true rfl⟩ (by decide) rfl rfl (Nat.lt_of_lt_of_le (Nat.le_of_ble_eq_true rfl) hn) rfl rfl (Nat.le_of_ble_eq_true rfl) (Nat.le_of_ble_eq_true rfl) (t_X10_best hn hF h2) ?_
  exact q_icmp_eq 1334 dL_law_971 (by decide) (fun _ => kk b n F _ hst hn hF hI2) (fun hc => absurd rfl hc)
def q_OK_danger (Inv : q_Mm → Prop) : Prop := ∀ (x1 x2 x3 : Int32) (m : q_Mm), Inv m → ∃ r m1 m2, f_X9_danger x1 x2 x3 m = some (r, m1) ∧ f_X10_danger x1 x2 x3 m1 = some (r, m2) ∧ Inv m2
set_option maxRecDepth 100000 in
set_option maxHeartbeats 4000000 in
theorem q_law_danger {g : q_G} {Z : List Frame → Array Value → State → State → Prop} {kc ks b0 L k : Nat} {xs : Nat → Int32} (hL : L ≤ 3584) (hk : k + 6 < L) {Inv : q_Mm → Prop} (hO : q_OK_danger Inv) {b : Bool} {n : Nat} {F : Nat → Nat → Option Nat} {m : q_Mm} (hst : q_pst b n F) (hn : 89 ≤ n) (hF : q_FF F) (hI : Inv m)
    (kk : ∀ (b : Bool) (n : Nat) (F : Nat → Nat → Option Nat) (m : q_Mm), q_pst b n F → 89 ≤ n → q_FF F → Inv m → q_V g mL_law (q_E g b0 L xs) Z kc ks 1334 [(0, .ref b0), (1, q_r g 0), (2, q_r g 58), (3, .int (nI k))] [] (q_mk n F m)) : q_V g mL_law (q_E g b0 L xs) Z (kc + 3) (ks + 9884) 976 [(0, .ref b0), (1, q_r g 0), (2, q_r g 58), (3, .int (nI k))] [] (q_mk n F m) := by
  obtain ⟨r, m1, m2, h1, h2, hI2⟩ := hO (xs (nI k + 1).toNatClampNeg) (xs (nI k + 2).toNatClampNeg) (xs (nI k + 3).toNatClampNeg) m hI
  refine q_mono (kc' := kc) (ks' := ks) (Nat.le_add_right _ _) (Nat.le_add_right _ _) ?_
  refine q_aload_n dL_law_976 rfl ?_
  refine q_aloadX_n dL_law_977 rfl ?_
  refine q_iload_n dL_law_978 rfl ?_
  refine q_iconst (v := 1) dL_law_979 (by decide) ?_
  refine q_iadd dL_law_980 ?_
  refine q_scr dL_law_981 (q_ixv 1 (by omega) hL) ?_
  refine q_aloadX_n dL_law_982 rfl ?_
  refine q_iload_n dL_law_983 rfl ?_
  refine q_iconst (v := 2) dL_law_984 (by decide) ?_
  refine q_iadd dL_law_985 ?_
  refine q_scr dL_law_986 (q_ixv 2 (by omega) hL) ?_
  refine q_aloadX_n dL_law_987 rfl ?_
  refine q_iload_n dL_law_988 rfl ?_
  refine q_iconst (v := 3) dL_law_989 (by decide) ?_
  refine q_iadd dL_law_990 ?_
  refine q_scr dL_law_991 (q_ixv 3 (by omega) hL) ?_
  refine c_V1 (as := [_, _, _]) (st := []) (ci := 9) dL_law_992 okX9_danger lL_104 ⟨rfl, rfl⟩ ⟨Nat.le_of_ble_eq_true rfl, Nat.le_of_ble_eq_true rfl⟩ (by decide) rfl rfl (Nat.lt_of_lt_of_le (Nat.le_of_ble_eq_true rfl) hn) rfl rfl (Nat.le_of_ble_eq_true rfl) (Nat.le_of_ble_eq_true rfl) (t_X9_danger hn hF h1) ?_
  refine q_aload_n dL_law_995 rfl ?_
  refine q_aloadX_n dL_law_996 rfl ?_
  refine q_iload_n dL_law_997 rfl ?_
  refine q_iconst (v := 1) dL_law_998 (by decide) ?_
  refine q_iadd dL_law_999 ?_
  refine q_scr dL_law_1000 (q_ixv 1 (by omega) hL) ?_
  refine q_aloadX_n dL_law_1001 rfl ?_
  refine q_iload_n dL_law_1002 rfl ?_
  refine q_iconst (v := 2) dL_law_1003 (by decide) ?_
  refine q_iadd dL_law_1004 ?_
  refine q_scr dL_law_1005 (q_ixv 2 (by omega) hL) ?_
  refine q_aloadX_n dL_law_1006 rfl ?_
  refine q_iload_n dL_law_1007 rfl ?_
  refine q_iconst (v := 3) dL_law_1008 (by decide) ?_
  refine q_iadd dL_law_1009 ?_
  refine q_scr dL_law_1010 (q_ixv 3 (by omega) hL) ?_
  refine c_V1 (as := [_, _, _]) (st := [_]) (ci := 10) dL_law_1011 okX10_danger lL_107 ⟨rfl, rfl⟩ ⟨Nat.le_of_ble_eq_true rfl, Nat.le_of_ble_eq_true rfl⟩ (by decide) rfl rfl (Nat.lt_of_lt_of_le (Nat.le_of_ble_eq_true rfl) hn) rfl rfl (Nat.le_of_ble_eq_true rfl) (Nat.le_of_ble_eq_true rfl) (t_X10_danger hn hF h2) ?_
  exact q_icmp_eq 1334 dL_law_1014 (by decide) (fun _ => kk b n F _ hst hn hF hI2) (fun hc => absurd rfl hc)
def q_OK_route (Inv : q_Mm → Prop) : Prop := ∀ (b : Bool) (x1 x2 x3 x4 : Int32) (m : q_Mm), Inv m → ∃ r m1 m2, f_X9_route b x1 x2 x3 x4 m = some (r, m1) ∧ f_X10_route x1 x2 x3 x4 m1 = some (r, m2) ∧ Inv m2
set_option maxRecDepth 100000 in
set_option maxHeartbeats 4000000 in
theorem q_law_route {g : q_G} {Z : List Frame → Array Value → State → State → Prop} {kc ks b0 L k : Nat} {xs : Nat → Int32} (hL : L ≤ 3584) (hk : k + 6 < L) {Inv : q_Mm → Prop} (hO : q_OK_route Inv) {b : Bool} {n : Nat} {F : Nat → Nat → Option Nat} {m : q_Mm} (hst : q_pst b n F) (hn : 89 ≤ n) (hF : q_FF F) (hI : Inv m)
    (kk : ∀ (b : Bool) (n : Nat) (F : Nat → Nat → Option Nat) (m : q_Mm), q_pst b n F → 89 ≤ n → q_FF F → Inv m → q_V g mL_law (q_E g b0 L xs) Z kc ks 1334 [(0, .ref b0), (1, q_r g 0), (2, q_r g 58), (3, .int (nI k))] [] (q_mk n F m)) : q_V g mL_law (q_E g b0 L xs) Z (kc + 3) (ks + 9884) 1019 [(0, .ref b0), (1, q_r g 0), (2, q_r g 58), (3, .int (nI k))] [] (q_mk n F m) := by
  obtain ⟨r, m1, m2, h1, h2, hI2⟩ := hO b (xs (nI k + 1).toNatClampNeg) (xs (nI k + 2).toNatClampNeg) (xs (nI k + 3).toNatClampNeg) (xs (nI k + 4).toNatClampNeg) m hI
  refine q_aload_n dL_law_1019 rfl ?_
  refine q_aloadX_n dL_law_1020 rfl ?_
  refine q_iload_n dL_law_1021 rfl ?_
  refine q_iconst (v := 1) dL_law_1022 (by decide) ?_
  refine q_iadd dL_law_1023 ?_
  refine q_scr dL_law_1024 (q_ixv 1 (by omega) hL) ?_
  refine q_aloadX_n dL_law_1025 rfl ?_
  refine q_iload_n dL_law_1026 rfl ?_
  refine q_iconst (v := 2) dL_law_1027 (by decide) ?_
  refine q_iadd dL_law_1028 ?_
  refine q_scr dL_law_1029 (q_ixv 2 (by omega) hL) ?_
  refine q_aloadX_n dL_law_1030 rfl ?_
  refine q_iload_n dL_law_1031 rfl ?_
  refine q_iconst (v := 3) dL_law_1032 (by decide) ?_
  refine q_iadd dL_law_1033 ?_
  refine q_scr dL_law_1034 (q_ixv 3 (by omega) hL) ?_
  refine q_aloadX_n dL_law_1035 rfl ?_
  refine q_iload_n dL_law_1036 rfl ?_
  refine q_iconst (v := 4) dL_law_1037 (by decide) ?_
  refine q_iadd dL_law_1038 ?_
  refine q_scr dL_law_1039 (q_ixv 4 (by omega) hL) ?_
  refine q_callV (as := [_, _, _, _]) (st := []) (ci := 9) kc ks (Nat.le_refl _) (Nat.le_refl _) dL_law_1040 okX9_route lL_108 ⟨Nat.le_of_ble_eq_true rfl, Nat.le_of_ble_eq_true rfl⟩ (by decide) rfl rfl (Nat.lt_of_lt_of_le (Nat.le_of_ble_eq_true rfl) hn) rfl rfl (Nat.le_of_ble_eq_true rfl) (Nat.le_of_ble_eq_true rfl) (t_X9_route hn hF hst h1) ?_
  rintro _ _ ⟨b, n, F, hst, hF, hn, rfl, rfl⟩
  show q_V g mL_law _ _ _ _ 1043 [(0, .ref b0), (1, q_r g 0), (2, q_r g 58), (3, .int (nI k))] (.int r :: []) (q_mk n F m1)
  refine q_aload_n dL_law_1043 rfl ?_
  refine q_aloadX_n dL_law_1044 rfl ?_
  refine q_iload_n dL_law_1045 rfl ?_
  refine q_iconst (v := 1) dL_law_1046 (by decide) ?_
  refine q_iadd dL_law_1047 ?_
  refine q_scr dL_law_1048 (q_ixv 1 (by omega) hL) ?_
  refine q_aloadX_n dL_law_1049 rfl ?_
  refine q_iload_n dL_law_1050 rfl ?_
  refine q_iconst (v := 2) dL_law_1051 (by decide) ?_
  refine q_iadd dL_law_1052 ?_
  refine q_scr dL_law_1053 (q_ixv 2 (by omega) hL) ?_
  refine q_aloadX_n dL_law_1054 rfl ?_
  refine q_iload_n dL_law_1055 rfl ?_
  refine q_iconst (v := 3) dL_law_1056 (by decide) ?_
  refine q_iadd dL_law_1057 ?_
  refine q_scr dL_law_1058 (q_ixv 3 (by omega) hL) ?_
  refine q_aloadX_n dL_law_1059 rfl ?_
  refine q_iload_n dL_law_1060 rfl ?_
  refine q_iconst (v := 4) dL_law_1061 (by decide) ?_
  refine q_iadd dL_law_1062 ?_
  refine q_scr dL_law_1063 (q_ixv 4 (by omega) hL) ?_
  refine c_V1 (as := [_, _, _, _]) (st := [_]) (ci := 10) dL_law_1064 okX10_route lL_111 ⟨rfl, rfl⟩ ⟨Nat.le_of_ble_eq_true rfl, Nat.le_of_ble_eq_true rfl⟩ (by decide) rfl rfl (Nat.lt_of_lt_of_le (Nat.le_of_ble_eq_true rfl) hn) rfl rfl (Nat.le_of_ble_eq_true rfl) (Nat.le_of_ble_eq_true rfl) (t_X10_route hn hF h2) ?_
  exact q_icmp_eq 1334 dL_law_1067 (by decide) (fun _ => kk b n F _ hst hn hF hI2) (fun hc => absurd rfl hc)
def q_OK_apart (Inv : q_Mm → Prop) : Prop := ∀ (b : Bool) (x1 x2 x3 x4 x5 : Int32) (m : q_Mm), Inv m → ∃ r m1 m2, f_X9_apart b x1 x2 x3 x4 x5 m = some (r, m1) ∧ f_X10_apart x1 x2 x3 x4 x5 m1 = some (r, m2) ∧ Inv m2
set_option maxRecDepth 100000 in
set_option maxHeartbeats 4000000 in
theorem q_law_apart {g : q_G} {Z : List Frame → Array Value → State → State → Prop} {kc ks b0 L k : Nat} {xs : Nat → Int32} (hL : L ≤ 3584) (hk : k + 6 < L) {Inv : q_Mm → Prop} (hO : q_OK_apart Inv) {b : Bool} {n : Nat} {F : Nat → Nat → Option Nat} {m : q_Mm} (hst : q_pst b n F) (hn : 89 ≤ n) (hF : q_FF F) (hI : Inv m)
    (kk : ∀ (b : Bool) (n : Nat) (F : Nat → Nat → Option Nat) (m : q_Mm), q_pst b n F → 89 ≤ n → q_FF F → Inv m → q_V g mL_law (q_E g b0 L xs) Z kc ks 1334 [(0, .ref b0), (1, q_r g 0), (2, q_r g 58), (3, .int (nI k))] [] (q_mk n F m)) : q_V g mL_law (q_E g b0 L xs) Z (kc + 3) (ks + 9884) 1072 [(0, .ref b0), (1, q_r g 0), (2, q_r g 58), (3, .int (nI k))] [] (q_mk n F m) := by
  obtain ⟨r, m1, m2, h1, h2, hI2⟩ := hO b (xs (nI k + 1).toNatClampNeg) (xs (nI k + 2).toNatClampNeg) (xs (nI k + 3).toNatClampNeg) (xs (nI k + 4).toNatClampNeg) (xs (nI k + 5).toNatClampNeg) m hI
  refine q_aload_n dL_law_1072 rfl ?_
  refine q_aloadX_n dL_law_1073 rfl ?_
  refine q_iload_n dL_law_1074 rfl ?_
  refine q_iconst (v := 1) dL_law_1075 (by decide) ?_
  refine q_iadd dL_law_1076 ?_
  refine q_scr dL_law_1077 (q_ixv 1 (by omega) hL) ?_
  refine q_aloadX_n dL_law_1078 rfl ?_
  refine q_iload_n dL_law_1079 rfl ?_
  refine q_iconst (v := 2) dL_law_1080 (by decide) ?_
  refine q_iadd dL_law_1081 ?_
  refine q_scr dL_law_1082 (q_ixv 2 (by omega) hL) ?_
  refine q_aloadX_n dL_law_1083 rfl ?_
  refine q_iload_n dL_law_1084 rfl ?_
  refine q_iconst (v := 3) dL_law_1085 (by decide) ?_
  refine q_iadd dL_law_1086 ?_
  refine q_scr dL_law_1087 (q_ixv 3 (by omega) hL) ?_
  refine q_aloadX_n dL_law_1088 rfl ?_
  refine q_iload_n dL_law_1089 rfl ?_
  refine q_iconst (v := 4) dL_law_1090 (by decide) ?_
  refine q_iadd dL_law_1091 ?_
  refine q_scr dL_law_1092 (q_ixv 4 (by omega) hL) ?_
  refine q_aloadX_n dL_law_1093 rfl ?_
  refine q_iload_n dL_law_1094 rfl ?_
  refine q_iconst (v := 5) dL_law_1095 (by decide) ?_
  refine q_iadd dL_law_1096 ?_
  refine q_scr dL_law_1097 (q_ixv 5 (by omega) hL) ?_
  refine q_callV (as := [_, _, _, _, _]) (st := []) (ci := 9) kc ks (Nat.le_refl _) (Nat.le_refl _) dL_law_1098 okX9_apart lL_112 ⟨Nat.le_of_ble_eq_true rfl, Nat.le_of_ble_eq_true rfl⟩ (by decide) rfl rfl (Nat.lt_of_lt_of_le (Nat.le_of_ble_eq_true rfl) hn) rfl rfl (Nat.le_of_ble_eq_true rfl) (Nat.le_of_ble_eq_true rfl) (t_X9_apart hn hF hst h1) ?_
  rintro _ _ ⟨b, n, F, hst, hF, hn, rfl, rfl⟩
  show q_V g mL_law _ _ _ _ 1101 [(0, .ref b0), (1, q_r g 0), (2, q_r g 58), (3, .int (nI k))] (.int r :: []) (q_mk n F m1)
  refine q_aload_n dL_law_1101 rfl ?_
  refine q_aloadX_n dL_law_1102 rfl ?_
  refine q_iload_n dL_law_1103 rfl ?_
  refine q_iconst (v := 1) dL_law_1104 (by decide) ?_
  refine q_iadd dL_law_1105 ?_
  refine q_scr dL_law_1106 (q_ixv 1 (by omega) hL) ?_
  refine q_aloadX_n dL_law_1107 rfl ?_
  refine q_iload_n dL_law_1108 rfl ?_
  refine q_iconst (v := 2) dL_law_1109 (by decide) ?_
  refine q_iadd dL_law_1110 ?_
  refine q_scr dL_law_1111 (q_ixv 2 (by omega) hL) ?_
  refine q_aloadX_n dL_law_1112 rfl ?_
  refine q_iload_n dL_law_1113 rfl ?_
  refine q_iconst (v := 3) dL_law_1114 (by decide) ?_
  refine q_iadd dL_law_1115 ?_
  refine q_scr dL_law_1116 (q_ixv 3 (by omega) hL) ?_
  refine q_aloadX_n dL_law_1117 rfl ?_
  refine q_iload_n dL_law_1118 rfl ?_
  refine q_iconst (v := 4) dL_law_1119 (by decide) ?_
  refine q_iadd dL_law_1120 ?_
  refine q_scr dL_law_1121 (q_ixv 4 (by omega) hL) ?_
  refine q_aloadX_n dL_law_1122 rfl ?_
  refine q_iload_n dL_law_1123 rfl ?_
  refine q_iconst (v := 5) dL_law_1124 (by decide) ?_
  refine q_iadd dL_law_1125 ?_
  refine q_scr dL_law_1126 (q_ixv 5 (by omega) hL) ?_
  refine c_V1 (as := [_, _, _, _, _]) (st := [_]) (ci := 10) dL_law_1127 okX10_apart lL_116 ⟨rfl, rfl⟩ ⟨Nat.le_of_ble_eq_true rfl, Nat.le_of_ble_eq_true rfl⟩ (by decide) rfl rfl (Nat.lt_of_lt_of_le (Nat.le_of_ble_eq_true rfl) hn) rfl rfl (Nat.le_of_ble_eq_true rfl) (Nat.le_of_ble_eq_true rfl) (t_X10_apart hn hF h2) ?_
  exact q_icmp_eq 1334 dL_law_1130 (by decide) (fun _ => kk b n F _ hst hn hF hI2) (fun hc => absurd rfl hc)
def q_OK_cell (Inv : q_Mm → Prop) : Prop := ∀ (x1 x2 : Int32) (m : q_Mm), Inv m → ∃ r, f_X9_cell x1 x2 m = some r ∧ f_X10_cell x1 x2 m = some r ∧ Inv m
set_option maxRecDepth 100000 in
set_option maxHeartbeats 4000000 in
theorem q_law_cell {g : q_G} {Z : List Frame → Array Value → State → State → Prop} {kc ks b0 L k : Nat} {xs : Nat → Int32} (hL : L ≤ 3584) (hk : k + 6 < L) {Inv : q_Mm → Prop} (hO : q_OK_cell Inv) {b : Bool} {n : Nat} {F : Nat → Nat → Option Nat} {m : q_Mm} (hst : q_pst b n F) (hn : 89 ≤ n) (hF : q_FF F) (hI : Inv m)
    (kk : ∀ (b : Bool) (n : Nat) (F : Nat → Nat → Option Nat) (m : q_Mm), q_pst b n F → 89 ≤ n → q_FF F → Inv m → q_V g mL_law (q_E g b0 L xs) Z kc ks 1334 [(0, .ref b0), (1, q_r g 0), (2, q_r g 58), (3, .int (nI k))] [] (q_mk n F m)) : q_V g mL_law (q_E g b0 L xs) Z (kc + 3) (ks + 9884) 1135 [(0, .ref b0), (1, q_r g 0), (2, q_r g 58), (3, .int (nI k))] [] (q_mk n F m) := by
  obtain ⟨r, h1, h2, hI2⟩ := hO (xs (nI k + 1).toNatClampNeg) (xs (nI k + 2).toNatClampNeg) m hI
  refine q_mono (kc' := kc) (ks' := ks) (Nat.le_add_right _ _) (Nat.le_add_right _ _) ?_
  refine q_aload_n dL_law_1135 rfl ?_
  refine q_aloadX_n dL_law_1136 rfl ?_
  refine q_iload_n dL_law_1137 rfl ?_
  refine q_iconst (v := 1) dL_law_1138 (by decide) ?_
  refine q_iadd dL_law_1139 ?_
  refine q_scr dL_law_1140 (q_ixv 1 (by omega) hL) ?_
  refine q_aloadX_n dL_law_1141 rfl ?_
  refine q_iload_n dL_law_1142 rfl ?_
  refine q_iconst (v := 2) dL_law_1143 (by decide) ?_
  refine q_iadd dL_law_1144 ?_
  refine q_scr dL_law_1145 (q_ixv 2 (by omega) hL) ?_
  refine c_V1 (as := [_, _]) (st := []) (ci := 9) dL_law_1146 okX9_cell lL_117 ⟨rfl, rfl⟩ ⟨Nat.le_of_ble_eq_true rfl, Nat.le_of_ble_eq_true rfl⟩ (by decide) rfl rfl (Nat.lt_of_lt_of_le (Nat.le_of_ble_eq_true rfl) hn) rfl rfl (Nat.le_of_ble_eq_true rfl) (Nat.le_of_ble_eq_true rfl) (t_X9_cell hn hF h1) ?_
  refine q_aload_n dL_law_1149 rfl ?_
  refine q_aloadX_n dL_law_1150 rfl ?_
  refine q_iload_n dL_law_1151 rfl ?_
  refine q_iconst (v := 1) dL_law_1152 (by decide) ?_
  refine q_iadd dL_law_1153 ?_
  refine q_scr dL_law_1154 (q_ixv 1 (by omega) hL) ?_
  refine q_aloadX_n dL_law_1155 rfl ?_
  refine q_iload_n dL_law_1156 rfl ?_
  refine q_iconst (v := 2) dL_law_1157 (by decide) ?_
  refine q_iadd dL_law_1158 ?_
  refine q_scr dL_law_1159 (q_ixv 2 (by omega) hL) ?_
  refine c_V1 (as := [_, _]) (st := [_]) (ci := 10) dL_law_1160 okX10_cell lL_120 ⟨rfl, rfl⟩ ⟨Nat.le_of_ble_eq_true rfl, Nat.le_of_ble_eq_true rfl⟩ (by decide) rfl rfl (Nat.lt_of_lt_of_le (Nat.le_of_ble_eq_true rfl) hn) rfl rfl (Nat.le_of_ble_eq_true rfl) (Nat.le_of_ble_eq_true rfl) (t_X10_cell hn hF h2) ?_
  exact q_icmp_eq 1334 dL_law_1163 (by decide) (fun _ => kk b n F _ hst hn hF hI2) (fun hc => absurd rfl hc)
def q_OK_word (Inv : q_Mm → Prop) : Prop := ∀ (b : Bool) (x1 x2 : Int32) (m : q_Mm), Inv m → ∃ r m1 m2, f_X9_word b x1 x2 m = some (r, m1) ∧ f_X10_word x1 x2 m1 = some (r, m2) ∧ Inv m2
set_option maxRecDepth 100000 in
set_option maxHeartbeats 4000000 in
theorem q_law_word {g : q_G} {Z : List Frame → Array Value → State → State → Prop} {kc ks b0 L k : Nat} {xs : Nat → Int32} (hL : L ≤ 3584) (hk : k + 6 < L) {Inv : q_Mm → Prop} (hO : q_OK_word Inv) {b : Bool} {n : Nat} {F : Nat → Nat → Option Nat} {m : q_Mm} (hst : q_pst b n F) (hn : 89 ≤ n) (hF : q_FF F) (hI : Inv m)
    (kk : ∀ (b : Bool) (n : Nat) (F : Nat → Nat → Option Nat) (m : q_Mm), q_pst b n F → 89 ≤ n → q_FF F → Inv m → q_V g mL_law (q_E g b0 L xs) Z kc ks 1334 [(0, .ref b0), (1, q_r g 0), (2, q_r g 58), (3, .int (nI k))] [] (q_mk n F m)) : q_V g mL_law (q_E g b0 L xs) Z (kc + 3) (ks + 9884) 1168 [(0, .ref b0), (1, q_r g 0), (2, q_r g 58), (3, .int (nI k))] [] (q_mk n F m) := by
  obtain ⟨r, m1, m2, h1, h2, hI2⟩ := hO b (xs (nI k + 1).toNatClampNeg) (xs (nI k + 2).toNatClampNeg) m hI
  refine q_aload_n dL_law_1168 rfl ?_
  refine q_aloadX_n dL_law_1169 rfl ?_
  refine q_iload_n dL_law_1170 rfl ?_
  refine q_iconst (v := 1) dL_law_1171 (by decide) ?_
  refine q_iadd dL_law_1172 ?_
  refine q_scr dL_law_1173 (q_ixv 1 (by omega) hL) ?_
  refine q_aloadX_n dL_law_1174 rfl ?_
  refine q_iload_n dL_law_1175 rfl ?_
  refine q_iconst (v := 2) dL_law_1176 (by decide) ?_
  refine q_iadd dL_law_1177 ?_
  refine q_scr dL_law_1178 (q_ixv 2 (by omega) hL) ?_
  refine q_callV (as := [_, _]) (st := []) (ci := 9) kc ks (Nat.le_refl _) (Nat.le_refl _) dL_law_1179 okX9_word lL_121 ⟨Nat.le_of_ble_eq_true rfl, Nat.le_of_ble_eq_true rfl⟩ (by decide) rfl rfl (Nat.lt_of_lt_of_le (Nat.le_of_ble_eq_true rfl) hn) rfl rfl (Nat.le_of_ble_eq_true rfl) (Nat.le_of_ble_eq_true rfl) (t_X9_word hn hF hst h1) ?_
  rintro _ _ ⟨b, n, F, hst, hF, hn, rfl, rfl⟩
  show q_V g mL_law _ _ _ _ 1182 [(0, .ref b0), (1, q_r g 0), (2, q_r g 58), (3, .int (nI k))] (.int r :: []) (q_mk n F m1)
  refine q_aload_n dL_law_1182 rfl ?_
  refine q_aloadX_n dL_law_1183 rfl ?_
  refine q_iload_n dL_law_1184 rfl ?_
  refine q_iconst (v := 1) dL_law_1185 (by decide) ?_
  refine q_iadd dL_law_1186 ?_
  refine q_scr dL_law_1187 (q_ixv 1 (by omega) hL) ?_
  refine q_aloadX_n dL_law_1188 rfl ?_
  refine q_iload_n dL_law_1189 rfl ?_
  refine q_iconst (v := 2) dL_law_1190 (by decide) ?_
  refine q_iadd dL_law_1191 ?_
  refine q_scr dL_law_1192 (q_ixv 2 (by omega) hL) ?_
  refine c_V1 (as := [_, _]) (st := [_]) (ci := 10) dL_law_1193 okX10_word lL_124 ⟨rfl, rfl⟩ ⟨Nat.le_of_ble_eq_true rfl, Nat.le_of_ble_eq_true rfl⟩ (by decide) rfl rfl (Nat.lt_of_lt_of_le (Nat.le_of_ble_eq_true rfl) hn) rfl rfl (Nat.le_of_ble_eq_true rfl) (Nat.le_of_ble_eq_true rfl) (t_X10_word hn hF h2) ?_
  exact q_icmp_eq 1334 dL_law_1196 (by decide) (fun _ => kk b n F _ hst hn hF hI2) (fun hc => absurd rfl hc)
def q_OK_sight (Inv : q_Mm → Prop) : Prop := ∀ (x1 x2 x3 : Int32) (m : q_Mm), Inv m → ∃ r m1 m2, f_X9_sight x1 x2 x3 m = some (r, m1) ∧ f_X10_sight x1 x2 x3 m1 = some (r, m2) ∧ Inv m2
set_option maxRecDepth 100000 in
set_option maxHeartbeats 4000000 in
theorem q_law_sight {g : q_G} {Z : List Frame → Array Value → State → State → Prop} {kc ks b0 L k : Nat} {xs : Nat → Int32} (hL : L ≤ 3584) (hk : k + 6 < L) {Inv : q_Mm → Prop} (hO : q_OK_sight Inv) {b : Bool} {n : Nat} {F : Nat → Nat → Option Nat} {m : q_Mm} (hst : q_pst b n F) (hn : 89 ≤ n) (hF : q_FF F) (hI : Inv m)
    (kk : ∀ (b : Bool) (n : Nat) (F : Nat → Nat → Option Nat) (m : q_Mm), q_pst b n F → 89 ≤ n → q_FF F → Inv m → q_V g mL_law (q_E g b0 L xs) Z kc ks 1334 [(0, .ref b0), (1, q_r g 0), (2, q_r g 58), (3, .int (nI k))] [] (q_mk n F m)) : q_V g mL_law (q_E g b0 L xs) Z (kc + 3) (ks + 9884) 1201 [(0, .ref b0), (1, q_r g 0), (2, q_r g 58), (3, .int (nI k))] [] (q_mk n F m) := by
  obtain ⟨r, m1, m2, h1, h2, hI2⟩ := hO (xs (nI k + 1).toNatClampNeg) (xs (nI k + 2).toNatClampNeg) (xs (nI k + 3).toNatClampNeg) m hI
  refine q_mono (kc' := kc) (ks' := ks) (Nat.le_add_right _ _) (Nat.le_add_right _ _) ?_
  refine q_aload_n dL_law_1201 rfl ?_
  refine q_aloadX_n dL_law_1202 rfl ?_
  refine q_iload_n dL_law_1203 rfl ?_
  refine q_iconst (v := 1) dL_law_1204 (by decide) ?_
  refine q_iadd dL_law_1205 ?_
  refine q_scr dL_law_1206 (q_ixv 1 (by omega) hL) ?_
  refine q_aloadX_n dL_law_1207 rfl ?_
  refine q_iload_n dL_law_1208 rfl ?_
  refine q_iconst (v := 2) dL_law_1209 (by decide) ?_
  refine q_iadd dL_law_1210 ?_
  refine q_scr dL_law_1211 (q_ixv 2 (by omega) hL) ?_
  refine q_aloadX_n dL_law_1212 rfl ?_
  refine q_iload_n dL_law_1213 rfl ?_
  refine q_iconst (v := 3) dL_law_1214 (by decide) ?_
  refine q_iadd dL_law_1215 ?_
  refine q_scr dL_law_1216 (q_ixv 3 (by omega) hL) ?_
  refine c_V1 (as := [_, _, _]) (st := []) (ci := 9) dL_law_1217 okX9_sight lL_125 ⟨rfl, rfl⟩ ⟨Nat.le_of_ble_eq_true rfl, Nat.le_of_ble_eq_true rfl⟩ (by decide) rfl rfl (Nat.lt_of_lt_of_le (Nat.le_of_ble_eq_true rfl) hn) rfl rfl (Nat.le_of_ble_eq_true rfl) (Nat.le_of_ble_eq_true rfl) (t_X9_sight hn hF h1) ?_
  refine q_aload_n dL_law_1220 rfl ?_
  refine q_aloadX_n dL_law_1221 rfl ?_
  refine q_iload_n dL_law_1222 rfl ?_
  refine q_iconst (v := 1) dL_law_1223 (by decide) ?_
  refine q_iadd dL_law_1224 ?_
  refine q_scr dL_law_1225 (q_ixv 1 (by omega) hL) ?_
  refine q_aloadX_n dL_law_1226 rfl ?_
  refine q_iload_n dL_law_1227 rfl ?_
  refine q_iconst (v := 2) dL_law_1228 (by decide) ?_
  refine q_iadd dL_law_1229 ?_
  refine q_scr dL_law_1230 (q_ixv 2 (by omega) hL) ?_
  refine q_aloadX_n dL_law_1231 rfl ?_
  refine q_iload_n dL_law_1232 rfl ?_
  refine q_iconst (v := 3) dL_law_1233 (by decide) ?_
  refine q_iadd dL_law_1234 ?_
  refine q_scr dL_law_1235 (q_ixv 3 (by omega) hL) ?_
  refine c_V1 (as := [_, _, _]) (st := [_]) (ci := 10) dL_law_1236 okX10_sight lL_128 ⟨rfl, rfl⟩ ⟨Nat.le_of_ble_eq_true rfl, Nat.le_of_ble_eq_true rfl⟩ (by decide) rfl rfl (Nat.lt_of_lt_of_le (Nat.le_of_ble_eq_true rfl) hn) rfl rfl (Nat.le_of_ble_eq_true rfl) (Nat.le_of_ble_eq_true rfl) (t_X10_sight hn hF h2) ?_
  exact q_icmp_eq 1334 dL_law_1239 (by decide) (fun _ => kk b n F _ hst hn hF hI2) (fun hc => absurd rfl hc)
def q_OK_forget (Inv : q_Mm → Prop) : Prop := ∀ (m : q_Mm), Inv m → ∃ r m1 m2, f_X9_forget  m = (r, m1) ∧ f_X10_forget  m1 = (r, m2) ∧ Inv m2
set_option maxRecDepth 100000 in
set_option maxHeartbeats 4000000 in
theorem q_law_forget {g : q_G} {Z : List Frame → Array Value → State → State → Prop} {kc ks b0 L k : Nat} {xs : Nat → Int32} (hL : L ≤ 3584) (hk : k + 6 < L) {Inv : q_Mm → Prop} (hO : q_OK_forget Inv) {b : Bool} {n : Nat} {F : Nat → Nat → Option Nat} {m : q_Mm} (hst : q_pst b n F) (hn : 89 ≤ n) (hF : q_FF F) (hI : Inv m)
    (kk : ∀ (b : Bool) (n : Nat) (F : Nat → Nat → Option Nat) (m : q_Mm), q_pst b n F → 89 ≤ n → q_FF F → Inv m → q_V g mL_law (q_E g b0 L xs) Z kc ks 1334 [(0, .ref b0), (1, q_r g 0), (2, q_r g 58), (3, .int (nI k))] [] (q_mk n F m)) : q_V g mL_law (q_E g b0 L xs) Z (kc + 3) (ks + 9884) 1244 [(0, .ref b0), (1, q_r g 0), (2, q_r g 58), (3, .int (nI k))] [] (q_mk n F m) := by
  obtain ⟨r, m1, m2, h1, h2, hI2⟩ := hO  m hI
  refine q_mono (kc' := kc) (ks' := ks) (Nat.le_add_right _ _) (Nat.le_add_right _ _) ?_
  refine q_aload_n dL_law_1244 rfl ?_
  refine c_V1 (as := []) (st := []) (ci := 9) dL_law_1245 okX9_forget lL_129 ⟨rfl, rfl⟩ ⟨Nat.le_of_ble_eq_true rfl, Nat.le_of_ble_eq_true rfl⟩ (by decide) rfl rfl (Nat.lt_of_lt_of_le (Nat.le_of_ble_eq_true rfl) hn) rfl rfl (Nat.le_of_ble_eq_true rfl) (Nat.le_of_ble_eq_true rfl) (t_X9_forget hn hF h1) ?_
  refine q_aload_n dL_law_1248 rfl ?_
  refine c_V1 (as := []) (st := [_]) (ci := 10) dL_law_1249 okX10_forget lL_133 ⟨rfl, rfl⟩ ⟨Nat.le_of_ble_eq_true rfl, Nat.le_of_ble_eq_true rfl⟩ (by decide) rfl rfl (Nat.lt_of_lt_of_le (Nat.le_of_ble_eq_true rfl) hn) rfl rfl (Nat.le_of_ble_eq_true rfl) (Nat.le_of_ble_eq_true rfl) (t_X10_forget hn hF h2) ?_
  exact q_icmp_eq 1334 dL_law_1252 (by decide) (fun _ => kk b n F _ hst hn hF hI2) (fun hc => absurd rfl hc)
def q_OK_told (Inv : q_Mm → Prop) : Prop := ∀ (x1 x2 x3 x4 : Int32) (m : q_Mm), Inv m → ∃ r m1 m2, f_X9_told x1 x2 x3 x4 m = some (r, m1) ∧ f_X10_told x1 x2 x3 x4 m1 = some (r, m2) ∧ Inv m2
set_option maxRecDepth 100000 in
set_option maxHeartbeats 4000000 in
theorem q_law_told {g : q_G} {Z : List Frame → Array Value → State → State → Prop} {kc ks b0 L k : Nat} {xs : Nat → Int32} (hL : L ≤ 3584) (hk : k + 6 < L) {Inv : q_Mm → Prop} (hO : q_OK_told Inv) {b : Bool} {n : Nat} {F : Nat → Nat → Option Nat} {m : q_Mm} (hst : q_pst b n F) (hn : 89 ≤ n) (hF : q_FF F) (hI : Inv m)
    (kk : ∀ (b : Bool) (n : Nat) (F : Nat → Nat → Option Nat) (m : q_Mm), q_pst b n F → 89 ≤ n → q_FF F → Inv m → q_V g mL_law (q_E g b0 L xs) Z kc ks 1334 [(0, .ref b0), (1, q_r g 0), (2, q_r g 58), (3, .int (nI k))] [] (q_mk n F m)) : q_V g mL_law (q_E g b0 L xs) Z (kc + 3) (ks + 9884) 1257 [(0, .ref b0), (1, q_r g 0), (2, q_r g 58), (3, .int (nI k))] [] (q_mk n F m) := by
  obtain ⟨r, m1, m2, h1, h2, hI2⟩ := hO (xs (nI k + 1).toNatClampNeg) (xs (nI k + 2).toNatClampNeg) (xs (nI k + 3).toNatClampNeg) (xs (nI k + 4).toNatClampNeg) m hI
  refine q_mono (kc' := kc) (ks' := ks) (Nat.le_add_right _ _) (Nat.le_add_right _ _) ?_
  refine q_aload_n dL_law_1257 rfl ?_
  refine q_aloadX_n dL_law_1258 rfl ?_
  refine q_iload_n dL_law_1259 rfl ?_
  refine q_iconst (v := 1) dL_law_1260 (by decide) ?_
  refine q_iadd dL_law_1261 ?_
  refine q_scr dL_law_1262 (q_ixv 1 (by omega) hL) ?_
  refine q_aloadX_n dL_law_1263 rfl ?_
  refine q_iload_n dL_law_1264 rfl ?_
  refine q_iconst (v := 2) dL_law_1265 (by decide) ?_
  refine q_iadd dL_law_1266 ?_
  refine q_scr dL_law_1267 (q_ixv 2 (by omega) hL) ?_
  refine q_aloadX_n dL_law_1268 rfl ?_
  refine q_iload_n dL_law_1269 rfl ?_
  refine q_iconst (v := 3) dL_law_1270 (by decide) ?_
  refine q_iadd dL_law_1271 ?_
  refine q_scr dL_law_1272 (q_ixv 3 (by omega) hL) ?_
  refine q_aloadX_n dL_law_1273 rfl ?_
  refine q_iload_n dL_law_1274 rfl ?_
  refine q_iconst (v := 4) dL_law_1275 (by decide) ?_
  refine q_iadd dL_law_1276 ?_
  refine q_scr dL_law_1277 (q_ixv 4 (by omega) hL) ?_
  refine c_V1 (as := [_, _, _, _]) (st := []) (ci := 9) dL_law_1278 okX9_told lL_134 ⟨rfl, rfl⟩ ⟨Nat.le_of_ble_eq_true rfl, Nat.le_of_ble_eq_true rfl⟩ (by decide) rfl rfl (Nat.lt_of_lt_of_le (Nat.le_of_ble_eq_true rfl) hn) rfl rfl (Nat.le_of_ble_eq_true rfl) (Nat.le_of_ble_eq_true rfl) (t_X9_told hn hF h1) ?_
  refine q_aload_n dL_law_1281 rfl ?_
  refine q_aloadX_n dL_law_1282 rfl ?_
  refine q_iload_n dL_law_1283 rfl ?_
  refine q_iconst (v := 1) dL_law_1284 (by decide) ?_
  refine q_iadd dL_law_1285 ?_
  refine q_scr dL_law_1286 (q_ixv 1 (by omega) hL) ?_
  refine q_aloadX_n dL_law_1287 rfl ?_
  refine q_iload_n dL_law_1288 rfl ?_
  refine q_iconst (v := 2) dL_law_1289 (by decide) ?_
  refine q_iadd dL_law_1290 ?_
  refine q_scr dL_law_1291 (q_ixv 2 (by omega) hL) ?_
  refine q_aloadX_n dL_law_1292 rfl ?_
  refine q_iload_n dL_law_1293 rfl ?_
  refine q_iconst (v := 3) dL_law_1294 (by decide) ?_
  refine q_iadd dL_law_1295 ?_
  refine q_scr dL_law_1296 (q_ixv 3 (by omega) hL) ?_
  refine q_aloadX_n dL_law_1297 rfl ?_
  refine q_iload_n dL_law_1298 rfl ?_
  refine q_iconst (v := 4) dL_law_1299 (by decide) ?_
  refine q_iadd dL_law_1300 ?_
  refine q_scr dL_law_1301 (q_ixv 4 (by omega) hL) ?_
  refine c_V1 (as := [_, _, _, _]) (st := [_]) (ci := 10) dL_law_1302 okX10_told lL_138 ⟨rfl, rfl⟩ ⟨Nat.le_of_ble_eq_true rfl, Nat.le_of_ble_eq_true rfl⟩ (by decide) rfl rfl (Nat.lt_of_lt_of_le (Nat.le_of_ble_eq_true rfl) hn) rfl rfl (Nat.le_of_ble_eq_true rfl) (Nat.le_of_ble_eq_true rfl) (t_X10_told hn hF h2) ?_
  exact q_lcmp_eq 1334 dL_law_1305 dL_law_1306 (by decide) (fun _ => kk b n F _ hst hn hF hI2) (fun hc => absurd rfl hc)
def q_OK_about (Inv : q_Mm → Prop) : Prop := ∀ (x1 : Int32) (m : q_Mm), Inv m → ∃ r, f_X9_about x1 m = some r ∧ f_X10_about x1 m = some r ∧ Inv m
set_option maxRecDepth 100000 in
set_option maxHeartbeats 4000000 in
theorem q_law_about {g : q_G} {Z : List Frame → Array Value → State → State → Prop} {kc ks b0 L k : Nat} {xs : Nat → Int32} (hL : L ≤ 3584) (hk : k + 6 < L) {Inv : q_Mm → Prop} (hO : q_OK_about Inv) {b : Bool} {n : Nat} {F : Nat → Nat → Option Nat} {m : q_Mm} (hst : q_pst b n F) (hn : 89 ≤ n) (hF : q_FF F) (hI : Inv m)
    (kk : ∀ (b : Bool) (n : Nat) (F : Nat → Nat → Option Nat) (m : q_Mm), q_pst b n F → 89 ≤ n → q_FF F → Inv m → q_V g mL_law (q_E g b0 L xs) Z kc ks 1334 [(0, .ref b0), (1, q_r g 0), (2, q_r g 58), (3, .int (nI k))] [] (q_mk n F m)) : q_V g mL_law (q_E g b0 L xs) Z (kc + 3) (ks + 9884) 1311 [(0, .ref b0), (1, q_r g 0), (2, q_r g 58), (3, .int (nI k))] [] (q_mk n F m) := by
  obtain ⟨r, h1, h2, hI2⟩ := hO (xs (nI k + 1).toNatClampNeg) m hI
  refine q_mono (kc' := kc) (ks' := ks) (Nat.le_add_right _ _) (Nat.le_add_right _ _) ?_
  refine q_aload_n dL_law_1311 rfl ?_
  refine q_aloadX_n dL_law_1312 rfl ?_
  refine q_iload_n dL_law_1313 rfl ?_
  refine q_iconst (v := 1) dL_law_1314 (by decide) ?_
  refine q_iadd dL_law_1315 ?_
  refine q_scr dL_law_1316 (q_ixv 1 (by omega) hL) ?_
  refine c_V1 (as := [_]) (st := []) (ci := 9) dL_law_1317 okX9_about lL_139 ⟨rfl, rfl⟩ ⟨Nat.le_of_ble_eq_true rfl, Nat.le_of_ble_eq_true rfl⟩ (by decide) rfl rfl (Nat.lt_of_lt_of_le (Nat.le_of_ble_eq_true rfl) hn) rfl rfl (Nat.le_of_ble_eq_true rfl) (Nat.le_of_ble_eq_true rfl) (t_X9_about hn hF h1) ?_
  refine q_aload_n dL_law_1320 rfl ?_
  refine q_aloadX_n dL_law_1321 rfl ?_
  refine q_iload_n dL_law_1322 rfl ?_
  refine q_iconst (v := 1) dL_law_1323 (by decide) ?_
  refine q_iadd dL_law_1324 ?_
  refine q_scr dL_law_1325 (q_ixv 1 (by omega) hL) ?_
  refine c_V1 (as := [_]) (st := [_]) (ci := 10) dL_law_1326 okX10_about lL_142 ⟨rfl, rfl⟩ ⟨Nat.le_of_ble_eq_true rfl, Nat.le_of_ble_eq_true rfl⟩ (by decide) rfl rfl (Nat.lt_of_lt_of_le (Nat.le_of_ble_eq_true rfl) hn) rfl rfl (Nat.le_of_ble_eq_true rfl) (Nat.le_of_ble_eq_true rfl) (t_X10_about hn hF h2) ?_
  exact q_icmp_eq 1334 dL_law_1329 (by decide) (fun _ => kk b n F _ hst hn hF hI2) (fun hc => absurd rfl hc)
/-- all calls, one by one -/
def q_OK (Inv : q_Mm → Prop) : Prop := q_OK_turn Inv ∧ q_OK_clear Inv ∧ q_OK_ofTurn Inv ∧ q_OK_course Inv ∧ q_OK_ground Inv ∧ q_OK_steer Inv ∧ q_OK_ship Inv ∧ q_OK_miss Inv ∧ q_OK_fog Inv ∧ q_OK_place Inv ∧ q_OK_nearest Inv ∧ q_OK_close Inv ∧ q_OK_centre Inv ∧ q_OK_lurk Inv ∧ q_OK_comes Inv ∧ q_OK_gets Inv ∧ q_OK_worst Inv ∧ q_OK_mix Inv ∧ q_OK_post Inv ∧ q_OK_seen Inv ∧ q_OK_best Inv ∧ q_OK_danger Inv ∧ q_OK_route Inv ∧ q_OK_apart Inv ∧ q_OK_cell Inv ∧ q_OK_word Inv ∧ q_OK_sight Inv ∧ q_OK_forget Inv ∧ q_OK_told Inv ∧ q_OK_about Inv
theorem q_sub7 {k L : Nat} (hL : L ≤ 3584) (hk : k < 4000) (h : ¬ nI L - 7 < nI k) : k + 6 < L := by
  rw [Int32.lt_iff_toInt_lt] at h
  have h7 : (nI L - 7).toInt = (L : Int) - 7 := by
    have := pk_sub_toInt (a := L) (b := 7) (by omega) (by omega)
    exact this
  rw [h7, nI_toInt (by omega)] at h
  omega
theorem q_sub7' {k L : Nat} (hL : L ≤ 3584) (hk : k < 4000) (h : L ≤ k) : nI L - 7 < nI k := by
  rw [Int32.lt_iff_toInt_lt]
  have h7 : (nI L - 7).toInt = (L : Int) - 7 := by
    have := pk_sub_toInt (a := L) (b := 7) (by omega) (by omega)
    exact this
  rw [h7, nI_toInt (by omega)]
  omega
set_option maxRecDepth 100000 in
set_option maxHeartbeats 4000000 in
theorem q_law_loop {g : q_G} {Z : List Frame → Array Value → State → State → Prop} {b0 L : Nat} {xs : Nat → Int32} (hL : L ≤ 3584) {Inv : q_Mm → Prop} (hO : q_OK Inv) (hend : ∀ (kc ks : Nat) (ls : List (Nat × Value)) (S : q_S), q_V g mL_law (q_E g b0 L xs) Z kc ks 1341 ls [.int 1] S) : ∀ (N k : Nat) (b : Bool) (n : Nat) (F : Nat → Nat → Option Nat) (m : q_Mm), k < 4000 → L ≤ k + 7 * N → q_pst b n F → 89 ≤ n → q_FF F → Inv m → q_V g mL_law (q_E g b0 L xs) Z (3 * N) (9884 * N) 18 [(0, .ref b0), (1, q_r g 0), (2, q_r g 58), (3, .int (nI k))] [] (q_mk n F m) := by
  intro N
  induction N with
  | zero =>
    intro k b n F m hk hN hst hn hF hI
    refine q_iload_n dL_law_18 rfl ?_
    refine q_aloadX_n dL_law_19 rfl ?_
    refine q_scrlen dL_law_20 ?_
    refine q_bipush (v := 7) dL_law_21 (by decide) ?_
    refine q_isub dL_law_23 ?_
    refine q_icmp_gt 1340 dL_law_24 (by decide) (fun _ => ?_) (fun hc => absurd (q_sub7' hL hk (by omega)) hc)
    refine q_iconst (v := 1) dL_law_1340 (by decide) ?_
    exact hend _ _ _ _
  | succ N ih =>
    intro k b n F m hk hN hst hn hF hI
    refine q_iload_n dL_law_18 rfl ?_
    refine q_aloadX_n dL_law_19 rfl ?_
    refine q_scrlen dL_law_20 ?_
    refine q_bipush (v := 7) dL_law_21 (by decide) ?_
    refine q_isub dL_law_23 ?_
    refine q_icmp_gt 1340 dL_law_24 (by decide) (fun _ => ?_) (fun hc => ?_)
    · refine q_iconst (v := 1) dL_law_1340 (by decide) ?_
      exact hend _ _ _ _
    have hk6 := q_sub7 hL hk hc
    have kk : ∀ (b : Bool) (n : Nat) (F : Nat → Nat → Option Nat) (m : q_Mm), q_pst b n F → 89 ≤ n → q_FF F → Inv m → q_V g mL_law (q_E g b0 L xs) Z (3 * N) (9884 * N) 1334 [(0, .ref b0), (1, q_r g 0), (2, q_r g 58), (3, .int (nI k))] [] (q_mk n F m) := by
      intro b n F m hst hn hF hI
      refine q_iinc1 (w := 7) (ls' := [(0, _), (1, _), (2, _), (3, _)]) [0, 1, 2, 3] dL_law_1334 rfl (by decide) (Nat.le_of_ble_eq_true rfl) rfl ?_
      refine q_goto 18 dL_law_1337 (by decide) ?_
      rw [show nI k + 7 = nI (k + 7) from nI_add k 7]
      exact ih (k + 7) b n F m (by omega) (by omega) hst hn hF hI
    refine q_aloadX_n dL_law_27 rfl ?_
    refine q_iload_n dL_law_28 rfl ?_
    refine q_scr dL_law_29 (vp_in_nI (by omega) (by omega)) ?_
    refine q_bipush (v := 31) dL_law_30 (by decide) ?_
    refine q_iand dL_law_32 ?_
    generalize xs (nI k).toNatClampNeg &&& 31 = z
    rw [show 3 * (N + 1) = 3 * N + 3 by omega, show 9884 * (N + 1) = 9884 * N + 9884 by omega]
    obtain ⟨h0, h1, h2, h3, h4, h5, h6, h7, h8, h9, h10, h11, h12, h13, h14, h15, h16, h17, h18, h19, h20, h21, h22, h23, h24, h25, h26, h27, h28, h29⟩ := hO
    by_cases hs0 : z = 0
    · rw [hs0]
      refine q_tblIn 168 dL_law_33 (by decide) (by decide) rfl (by decide) ?_
      exact q_law_turn hL hk6 h0 hst hn hF hI kk
    by_cases hs1 : z = 1
    · rw [hs1]
      refine q_tblIn 211 dL_law_33 (by decide) (by decide) rfl (by decide) ?_
      exact q_law_clear hL hk6 h1 hst hn hF hI kk
    by_cases hs2 : z = 2
    · rw [hs2]
      refine q_tblIn 234 dL_law_33 (by decide) (by decide) rfl (by decide) ?_
      exact q_law_ofTurn hL hk6 h2 hst hn hF hI kk
    by_cases hs3 : z = 3
    · rw [hs3]
      refine q_tblIn 277 dL_law_33 (by decide) (by decide) rfl (by decide) ?_
      exact q_law_course hL hk6 h3 hst hn hF hI kk
    by_cases hs4 : z = 4
    · rw [hs4]
      refine q_tblIn 310 dL_law_33 (by decide) (by decide) rfl (by decide) ?_
      exact q_law_ground hL hk6 h4 hst hn hF hI kk
    by_cases hs5 : z = 5
    · rw [hs5]
      refine q_tblIn 354 dL_law_33 (by decide) (by decide) rfl (by decide) ?_
      exact q_law_steer hL hk6 h5 hst hn hF hI kk
    by_cases hs6 : z = 6
    · rw [hs6]
      refine q_tblIn 377 dL_law_33 (by decide) (by decide) rfl (by decide) ?_
      exact q_law_ship hL hk6 h6 hst hn hF hI kk
    by_cases hs7 : z = 7
    · rw [hs7]
      refine q_tblIn 430 dL_law_33 (by decide) (by decide) rfl (by decide) ?_
      exact q_law_miss hL hk6 h7 hst hn hF hI kk
    by_cases hs8 : z = 8
    · rw [hs8]
      refine q_tblIn 473 dL_law_33 (by decide) (by decide) rfl (by decide) ?_
      exact q_law_fog hL hk6 h8 hst hn hF hI kk
    by_cases hs9 : z = 9
    · rw [hs9]
      refine q_tblIn 506 dL_law_33 (by decide) (by decide) rfl (by decide) ?_
      exact q_law_place hL hk6 h9 hst hn hF hI kk
    by_cases hs10 : z = 10
    · rw [hs10]
      refine q_tblIn 550 dL_law_33 (by decide) (by decide) rfl (by decide) ?_
      exact q_law_nearest hL hk6 h10 hst hn hF hI kk
    by_cases hs11 : z = 11
    · rw [hs11]
      refine q_tblIn 584 dL_law_33 (by decide) (by decide) rfl (by decide) ?_
      exact q_law_close hL hk6 h11 hst hn hF hI kk
    by_cases hs12 : z = 12
    · rw [hs12]
      refine q_tblIn 617 dL_law_33 (by decide) (by decide) rfl (by decide) ?_
      exact q_law_centre hL hk6 h12 hst hn hF hI kk
    by_cases hs13 : z = 13
    · rw [hs13]
      refine q_tblIn 640 dL_law_33 (by decide) (by decide) rfl (by decide) ?_
      exact q_law_lurk hL hk6 h13 hst hn hF hI kk
    by_cases hs14 : z = 14
    · rw [hs14]
      refine q_tblIn 693 dL_law_33 (by decide) (by decide) rfl (by decide) ?_
      exact q_law_comes hL hk6 h14 hst hn hF hI kk
    by_cases hs15 : z = 15
    · rw [hs15]
      refine q_tblIn 716 dL_law_33 (by decide) (by decide) rfl (by decide) ?_
      exact q_law_gets hL hk6 h15 hst hn hF hI kk
    by_cases hs16 : z = 16
    · rw [hs16]
      refine q_tblIn 749 dL_law_33 (by decide) (by decide) rfl (by decide) ?_
      exact q_law_worst hL hk6 h16 hst hn hF hI kk
    by_cases hs17 : z = 17
    · rw [hs17]
      refine q_tblIn 824 dL_law_33 (by decide) (by decide) rfl (by decide) ?_
      exact q_law_mix hL hk6 h17 hst hn hF hI kk
    by_cases hs18 : z = 18
    · rw [hs18]
      refine q_tblIn 867 dL_law_33 (by decide) (by decide) rfl (by decide) ?_
      exact q_law_post hL hk6 h18 hst hn hF hI kk
    by_cases hs19 : z = 19
    · rw [hs19]
      refine q_tblIn 910 dL_law_33 (by decide) (by decide) rfl (by decide) ?_
      exact q_law_seen hL hk6 h19 hst hn hF hI kk
    by_cases hs20 : z = 20
    · rw [hs20]
      refine q_tblIn 943 dL_law_33 (by decide) (by decide) rfl (by decide) ?_
      exact q_law_best hL hk6 h20 hst hn hF hI kk
    by_cases hs21 : z = 21
    · rw [hs21]
      refine q_tblIn 976 dL_law_33 (by decide) (by decide) rfl (by decide) ?_
      exact q_law_danger hL hk6 h21 hst hn hF hI kk
    by_cases hs22 : z = 22
    · rw [hs22]
      refine q_tblIn 1019 dL_law_33 (by decide) (by decide) rfl (by decide) ?_
      exact q_law_route hL hk6 h22 hst hn hF hI kk
    by_cases hs23 : z = 23
    · rw [hs23]
      refine q_tblIn 1072 dL_law_33 (by decide) (by decide) rfl (by decide) ?_
      exact q_law_apart hL hk6 h23 hst hn hF hI kk
    by_cases hs24 : z = 24
    · rw [hs24]
      refine q_tblIn 1135 dL_law_33 (by decide) (by decide) rfl (by decide) ?_
      exact q_law_cell hL hk6 h24 hst hn hF hI kk
    by_cases hs25 : z = 25
    · rw [hs25]
      refine q_tblIn 1168 dL_law_33 (by decide) (by decide) rfl (by decide) ?_
      exact q_law_word hL hk6 h25 hst hn hF hI kk
    by_cases hs26 : z = 26
    · rw [hs26]
      refine q_tblIn 1201 dL_law_33 (by decide) (by decide) rfl (by decide) ?_
      exact q_law_sight hL hk6 h26 hst hn hF hI kk
    by_cases hs27 : z = 27
    · rw [hs27]
      refine q_tblIn 1244 dL_law_33 (by decide) (by decide) rfl (by decide) ?_
      exact q_law_forget hL hk6 h27 hst hn hF hI kk
    by_cases hs28 : z = 28
    · rw [hs28]
      refine q_tblIn 1257 dL_law_33 (by decide) (by decide) rfl (by decide) ?_
      exact q_law_told hL hk6 h28 hst hn hF hI kk
    by_cases hs29 : z = 29
    · rw [hs29]
      refine q_tblIn 1311 dL_law_33 (by decide) (by decide) rfl (by decide) ?_
      exact q_law_about hL hk6 h29 hst hn hF hI kk
    refine q_tblOut 1334 dL_law_33 (q_out 30 (by decide) (fun k hk => ?_)) (by decide) ?_
    · match k, hk with
      | 0, _ => exact hs0
      | 1, _ => exact hs1
      | 2, _ => exact hs2
      | 3, _ => exact hs3
      | 4, _ => exact hs4
      | 5, _ => exact hs5
      | 6, _ => exact hs6
      | 7, _ => exact hs7
      | 8, _ => exact hs8
      | 9, _ => exact hs9
      | 10, _ => exact hs10
      | 11, _ => exact hs11
      | 12, _ => exact hs12
      | 13, _ => exact hs13
      | 14, _ => exact hs14
      | 15, _ => exact hs15
      | 16, _ => exact hs16
      | 17, _ => exact hs17
      | 18, _ => exact hs18
      | 19, _ => exact hs19
      | 20, _ => exact hs20
      | 21, _ => exact hs21
      | 22, _ => exact hs22
      | 23, _ => exact hs23
      | 24, _ => exact hs24
      | 25, _ => exact hs25
      | 26, _ => exact hs26
      | 27, _ => exact hs27
      | 28, _ => exact hs28
      | 29, _ => exact hs29
      | k + 30, hk => exact absurd hk (by omega)
    refine q_mono (kc' := 3 * N) (ks' := 9884 * N) (Nat.le_add_right _ _) (Nat.le_add_right _ _) ?_
    exact kk b n F m hst hn hF hI
