theorem q_good {K : q_M} (h : Cond.code K.1 K.2.1 K.2.2.1 K.2.2.2.1 ∈ q_WS) : GoodIn q_WS (q_ws1 K) := fun w hw => by
  have hm : w ∈ q_WS := by
    rcases List.mem_cons.mp hw with rfl | hw
    · exact h
    · exact hw
  exact ⟨hm, good_of_word (List.mem_filter.mp hm).2⟩
theorem q_blind {g : q_G} {as : List Value} {S : q_S} : FrameBlind (va_Pc as (fun U => q_K g U ∧ q_P g S U.heap)) := fun _ _ _ _ h => ⟨h.1, q_K_same h.2.1 rfl rfl, h.2.2⟩
section QA
variable {p : Program} {l : Launch} {e : Env} {R : Room} {s : State} {m : MethodId} {args : Array Value} {below : List Frame} {meth : Method} {c : Code} {H : Heap} {locs : List Loc} {cells slots mc ms pc : Nat} {Zq : State → Prop} {la : Array Slot} {st0 rest : List Value} {a : Array Value} {g : q_G} {Q : Option Value → q_S → Prop}
theorem q_after (hr : va_Run p l e R s m args below meth c H locs cells slots mc ms (F0 m pc la st0) rest (q_Qc g Q a) (q_A g)) (hS : va_S (q_A g) s.heap H locs)
    (kk : ∀ (v : Option Value) (S' : q_S) (H1 : Heap) (locs1 : List Loc), Q v S' → q_P g S' H1 → va_S (q_A g) s.heap H1 locs1 → W p l e R s m args below meth c H1 locs1 (cells + mc) (slots + ms) Zq (F0 m (pc + 3) la (v.toList ++ rest))) : W p l e R s m args below meth c H locs cells slots Zq (F0 m pc la st0) := by
  intro T hT X
  obtain ⟨v, st₀, t, T', L, h0, X', hL, e1, e2, ⟨v', S', hv, hq, hP, hz, hk⟩, st⟩ := hr T hT X
  cases hv
  rw [h0] at hz hk
  obtain ⟨t2, a1, b1⟩ := kk v S' T'.heap (locs ++ L) hq (by rw [e1]; exact hP)
    ⟨Nat.le_trans hS.1 (by rw [e1]; exact hz), fun q h1 h2 => by rw [e1, hk q (Nat.lt_of_lt_of_le h1 hS.1) h2]; exact hS.2.1 q h1 h2, fun q hq => by
      rcases List.mem_append.mp hq with h | h
      · exact hS.2.2 q h
      · exact hL q h⟩ T' rfl X'
  exact ⟨t2, st t2 a1, b1⟩
end QA
section QC
variable {g : q_G} {M : q_M} {E : State → Prop} {Z : List Frame → Array Value → State → State → Prop} {kc ks pc : Nat} {ls : List (Nat × Value)} {st : List Value} {S : q_S}
/-- how deep a call may go -/
def q_fit (M K : q_M) : Prop := (q_R K).frames + 1 ≤ (q_R M).frames ∧ 8 + (K.2.2.1 + 11) + (q_R K).locals ≤ (q_R M).locals
theorem q_callV {K : q_M} {np idx a ci : Nat} {as : List Value} {Q : Option Value → q_S → Prop} {st0 : List Value} (kc' ks' : Nat) (hkc : kc' + (q_R K).cells ≤ kc) (hks : ks' + (q_R K).slots ≤ ks) (hd : decode M.2.1 pc = .ok (.invokevirtual idx, 3)) (hK : q_ok K np) (hL : Cond.methodLink M.1.cls idx K.1 ∈ q_WS ∧ Cond.instanceMethod K.1 ∈ q_WS ∧ Cond.selects K.1.cls K.1 K.1 ∈ q_WS) (hR : q_fit M K) (hlt : ci < 11) (hci : (q_cl ci).1 = K.1.cls) (hy : q_lay a = (0, ci)) (ha : a < S.1) (hst : st0 = as.reverse ++ q_r g a :: st) (hnp : as.length = np) (hcat : (st.map fun v => v.category).sum ≤ 8) (hlen : (lg_sl (q_r g a :: as)).length ≤ K.2.2.1) (hc : q_Cn g K (q_r g a :: as) S Q) (k : ∀ (v : Option Value) (S' : q_S), Q v S' → q_V g M E Z kc' ks' (pc + 3) ls (v.toList ++ st) S') : q_V g M E Z kc ks pc ls st0 S := by
  intro p e s m args below meth c H locs cells slots la C P hS c1 c2 hl
  have hM := q_met hK hlen hc
  have hts := C.2.2.2.2.2.1
  have hpar : ∀ sig, parseMethodDescriptor K.1.desc = some sig → np = sig.parameters.length := fun sig h => by
    have h2 := hK.2.2.2.2
    rw [h] at h2
    exact (Option.some.inj h2).symm
  have hpay := pay_in hts (q_good hK.2.1)
  have hpre : ∀ U : State, U.heap = H → s.WarmedH U.vm → va_Pc (q_r g a :: as) (fun U => q_K g U ∧ q_P g S U.heap) (q_r g a :: as).toArray U := fun U hU hW => ⟨rfl, q_K_warm C.2.2.2.2.2.2.2.2.1 hW (fun q h1 h2 => by rw [hU]; exact hS.2.1 q h1 h2), by rw [hU]; exact P⟩
  have hgo : ∀ (v : Option Value) (S' : q_S) (H1 : Heap) (locs1 : List Loc), Q v S' → q_P g S' H1 → va_S (q_A g) s.heap H1 locs1 → W p g.1 e (q_R M) s m args below meth c H1 locs1 (cells + (q_R K).cells) (slots + (q_R K).slots) (Z below args s) (F0 m (pc + 3) la (v.toList ++ st)) := fun v S' H1 locs1 hq hP1 hS1 => k v S' hq p e s m args below meth c H1 locs1 _ _ la C hP1 hS1 (by omega) (by omega) hl
  have hat : (q_ws g S)[a]? = some (g.2.1 + a, .inr (ci, q_fs g S ci a)) := by rw [q_ws_at ha]; simp [q_e, hy]
  have hrc := va_recv C.2.2.2.2.2.2.2.2.1.1 P.2 (q_cl_at ci hlt) hat
  rw [hci] at hrc
  exact q_after (va_runV (C := K.1.cls) (b := g.2.1 + a) (As := as) (rest := st) ⟨C.1, C.2.1, C.2.2.2.1, C.2.2.2.2.1, hts⟩ hM (n := np) ⟨⟨rfl, rfl, hR.1, hR.2, hpay, List.mem_cons_self, hts _ hK.2.1, hts _ hK.2.2.1, hK.2.2.2.1, hpar, hts _ hL.1⟩, hts _ hL.2.1, hts _ hL.2.2⟩ ⟨q_blind, hrc, hpre⟩ rfl hnp hl.1 hst (lv_room hcat) hd ⟨by omega, by omega⟩) hS hgo
theorem q_callS {K : q_M} {np idx : Nat} {as : List Value} {Q : Option Value → q_S → Prop} {st0 : List Value} (kc' ks' : Nat) (hkc : kc' + (q_R K).cells ≤ kc) (hks : ks' + (q_R K).slots ≤ ks) (hd : decode M.2.1 pc = .ok (.invokestatic idx, 3)) (hK : q_ok K np) (hL : Cond.methodLink M.1.cls idx K.1 ∈ q_WS ∧ Cond.static K.1 ∈ q_WS) (hR : q_fit M K) (hst : st0 = as.reverse ++ st) (hnp : as.length = np) (hcat : (st.map fun v => v.category).sum ≤ 8) (hlen : (lg_sl as).length ≤ K.2.2.1) (hc : q_Cn g K as S Q) (k : ∀ (v : Option Value) (S' : q_S), Q v S' → q_V g M E Z kc' ks' (pc + 3) ls (v.toList ++ st) S') : q_V g M E Z kc ks pc ls st0 S := by
  intro p e s m args below meth c H locs cells slots la C P hS c1 c2 hl
  have hM := q_met hK hlen hc
  have hts := C.2.2.2.2.2.1
  have hpar : ∀ sig, parseMethodDescriptor K.1.desc = some sig → np = sig.parameters.length := fun sig h => by
    have h2 := hK.2.2.2.2
    rw [h] at h2
    exact (Option.some.inj h2).symm
  have hpay := pay_in hts (q_good hK.2.1)
  have hpre : ∀ U : State, U.heap = H → s.WarmedH U.vm → va_Pc (as) (fun U => q_K g U ∧ q_P g S U.heap) (as).toArray U := fun U hU hW => ⟨rfl, q_K_warm C.2.2.2.2.2.2.2.2.1 hW (fun q h1 h2 => by rw [hU]; exact hS.2.1 q h1 h2), by rw [hU]; exact P⟩
  have hgo : ∀ (v : Option Value) (S' : q_S) (H1 : Heap) (locs1 : List Loc), Q v S' → q_P g S' H1 → va_S (q_A g) s.heap H1 locs1 → W p g.1 e (q_R M) s m args below meth c H1 locs1 (cells + (q_R K).cells) (slots + (q_R K).slots) (Z below args s) (F0 m (pc + 3) la (v.toList ++ st)) := fun v S' H1 locs1 hq hP1 hS1 => k v S' hq p e s m args below meth c H1 locs1 _ _ la C hP1 hS1 (by omega) (by omega) hl
  exact q_after (va_runS (As := as) (rest := st) ⟨C.1, C.2.1, C.2.2.2.1, C.2.2.2.2.1, hts⟩ hM (n := np) ⟨⟨rfl, rfl, hR.1, hR.2, hpay, List.mem_cons_self, hts _ hK.2.1, hts _ hK.2.2.1, hK.2.2.2.1, hpar, hts _ hL.1⟩, hts _ hL.2⟩ ⟨q_blind, hpre⟩ rfl hnp hl.1 hst (lv_room hcat) hd ⟨by omega, by omega⟩) hS hgo
theorem q_callI {K : q_M} {np idx a : Nat} {as : List Value} {Q : Option Value → q_S → Prop} {st0 : List Value} (kc' ks' : Nat) (hkc : kc' + (q_R K).cells ≤ kc) (hks : ks' + (q_R K).slots ≤ ks) (hd : decode M.2.1 pc = .ok (.invokespecial idx, 3)) (hK : q_ok K np) (hL : Cond.methodLink M.1.cls idx K.1 ∈ q_WS ∧ Cond.instanceMethod K.1 ∈ q_WS) (hin : K.1.name = "<init>") (hrt : K.2.2.2.1 = none) (hR : q_fit M K) (hst : st0 = as.reverse ++ q_r g a :: st) (hnp : as.length = np) (hcat : (st.map fun v => v.category).sum ≤ 8) (hlen : (lg_sl (q_r g a :: as)).length ≤ K.2.2.1) (hc : q_Cn g K (q_r g a :: as) S Q) (k : ∀ (v : Option Value) (S' : q_S), Q v S' → q_V g M E Z kc' ks' (pc + 3) ls (v.toList ++ st) S') : q_V g M E Z kc ks pc ls st0 S := by
  intro p e s m args below meth c H locs cells slots la C P hS c1 c2 hl
  have hM := q_met hK hlen hc
  have hts := C.2.2.2.2.2.1
  have hpar : ∀ sig, parseMethodDescriptor K.1.desc = some sig → np = sig.parameters.length := fun sig h => by
    have h2 := hK.2.2.2.2
    rw [h] at h2
    exact (Option.some.inj h2).symm
  have hpay := pay_in hts (q_good hK.2.1)
  have hpre : ∀ U : State, U.heap = H → s.WarmedH U.vm → va_Pc (q_r g a :: as) (fun U => q_K g U ∧ q_P g S U.heap) (q_r g a :: as).toArray U := fun U hU hW => ⟨rfl, q_K_warm C.2.2.2.2.2.2.2.2.1 hW (fun q h1 h2 => by rw [hU]; exact hS.2.1 q h1 h2), by rw [hU]; exact P⟩
  have hgo : ∀ (v : Option Value) (S' : q_S) (H1 : Heap) (locs1 : List Loc), Q v S' → q_P g S' H1 → va_S (q_A g) s.heap H1 locs1 → W p g.1 e (q_R M) s m args below meth c H1 locs1 (cells + (q_R K).cells) (slots + (q_R K).slots) (Z below args s) (F0 m (pc + 3) la (v.toList ++ st)) := fun v S' H1 locs1 hq hP1 hS1 => k v S' hq p e s m args below meth c H1 locs1 _ _ la C hP1 hS1 (by omega) (by omega) hl
  have hcw := hts _ hK.2.1
  have hmem : Cond.code K.1 K.2.1 K.2.2.1 none ∈ q_ws1 K := by rw [← hrt]; exact List.mem_cons_self
  rw [hrt] at hcw
  exact q_after (va_runI (b := g.2.1 + a) (As := as) (rest := st) ⟨C.1, C.2.1, C.2.2.2.1, C.2.2.2.2.1, hts⟩ hM (n := np) ⟨⟨rfl, rfl, hR.1, hR.2, hpay, hmem, hcw, hts _ hK.2.2.1, hK.2.2.2.1, hpar, hts _ hL.1⟩, hin, hts _ hL.2⟩ ⟨q_blind, hpre⟩ rfl hnp hl.1 hst (lv_room hcat) hd ⟨by omega, by omega⟩) hS hgo
theorem q_callSN {K : q_M} {np idx : Nat} {as : List Value} {Q : Option Value → q_S → Prop} {st0 : List Value} (kc' ks' : Nat) (hkc : kc' + (q_R K).cells ≤ kc) (hks : ks' + (q_R K).slots ≤ ks) (hd : decode M.2.1 pc = .ok (.invokestatic idx, 3)) (hK : q_ok K np) (hL : (M.1.cls, idx, K.1) ∈ q_nest ∧ Cond.static K.1 ∈ q_WS) (hR : q_fit M K) (hst : st0 = as.reverse ++ st) (hnp : as.length = np) (hcat : (st.map fun v => v.category).sum ≤ 8) (hlen : (lg_sl as).length ≤ K.2.2.1) (hc : q_Cn g K as S Q) (k : ∀ (v : Option Value) (S' : q_S), Q v S' → q_V g M E Z kc' ks' (pc + 3) ls (v.toList ++ st) S') : q_V g M E Z kc ks pc ls st0 S := by
  intro p e s m args below meth c H locs cells slots la C P hS c1 c2 hl
  have hM := q_met hK hlen hc
  have hts := C.2.2.2.2.2.1
  have hpar : ∀ sig, parseMethodDescriptor K.1.desc = some sig → np = sig.parameters.length := fun sig h => by
    have h2 := hK.2.2.2.2
    rw [h] at h2
    exact (Option.some.inj h2).symm
  have hpay := pay_in hts (q_good hK.2.1)
  have hpre : ∀ U : State, U.heap = H → s.WarmedH U.vm → va_Pc (as) (fun U => q_K g U ∧ q_P g S U.heap) (as).toArray U := fun U hU hW => ⟨rfl, q_K_warm C.2.2.2.2.2.2.2.2.1 hW (fun q h1 h2 => by rw [hU]; exact hS.2.1 q h1 h2), by rw [hU]; exact P⟩
  have hgo : ∀ (v : Option Value) (S' : q_S) (H1 : Heap) (locs1 : List Loc), Q v S' → q_P g S' H1 → va_S (q_A g) s.heap H1 locs1 → W p g.1 e (q_R M) s m args below meth c H1 locs1 (cells + (q_R K).cells) (slots + (q_R K).slots) (Z below args s) (F0 m (pc + 3) la (v.toList ++ st)) := fun v S' H1 locs1 hq hP1 hS1 => k v S' hq p e s m args below meth c H1 locs1 _ _ la C hP1 hS1 (by omega) (by omega) hl
  exact q_after (va_runSN (host := RX9) (As := as) (rest := st) ⟨C.1, C.2.1, C.2.2.2.1, C.2.2.2.2.1, hts⟩ hM (n := np) ⟨⟨⟨rfl, rfl, hR.1, hR.2, hpay, List.mem_cons_self⟩, hts _ hK.2.1, hts _ hK.2.2.1, hK.2.2.2.1, hpar, va_Nw.use rfl (C.2.2.2.2.2.2.2.2.1.2.2.1 _ hL.1)⟩, hts _ hL.2, trivial⟩ ⟨q_blind, hpre⟩ rfl hnp hl.1 hst (lv_room hcat) hd ⟨by omega, by omega⟩) hS hgo
theorem q_callIN {K : q_M} {np idx a : Nat} {as : List Value} {Q : Option Value → q_S → Prop} {st0 : List Value} (kc' ks' : Nat) (hkc : kc' + (q_R K).cells ≤ kc) (hks : ks' + (q_R K).slots ≤ ks) (hd : decode M.2.1 pc = .ok (.invokespecial idx, 3)) (hK : q_ok K np) (hL : (M.1.cls, idx, K.1) ∈ q_nest ∧ Cond.instanceMethod K.1 ∈ q_WS) (hin : K.1.name = "<init>") (hrt : K.2.2.2.1 = none) (hR : q_fit M K) (hst : st0 = as.reverse ++ q_r g a :: st) (hnp : as.length = np) (hcat : (st.map fun v => v.category).sum ≤ 8) (hlen : (lg_sl (q_r g a :: as)).length ≤ K.2.2.1) (hc : q_Cn g K (q_r g a :: as) S Q) (k : ∀ (v : Option Value) (S' : q_S), Q v S' → q_V g M E Z kc' ks' (pc + 3) ls (v.toList ++ st) S') : q_V g M E Z kc ks pc ls st0 S := by
  intro p e s m args below meth c H locs cells slots la C P hS c1 c2 hl
  have hM := q_met hK hlen hc
  have hts := C.2.2.2.2.2.1
  have hpar : ∀ sig, parseMethodDescriptor K.1.desc = some sig → np = sig.parameters.length := fun sig h => by
    have h2 := hK.2.2.2.2
    rw [h] at h2
    exact (Option.some.inj h2).symm
  have hpay := pay_in hts (q_good hK.2.1)
  have hpre : ∀ U : State, U.heap = H → s.WarmedH U.vm → va_Pc (q_r g a :: as) (fun U => q_K g U ∧ q_P g S U.heap) (q_r g a :: as).toArray U := fun U hU hW => ⟨rfl, q_K_warm C.2.2.2.2.2.2.2.2.1 hW (fun q h1 h2 => by rw [hU]; exact hS.2.1 q h1 h2), by rw [hU]; exact P⟩
  have hgo : ∀ (v : Option Value) (S' : q_S) (H1 : Heap) (locs1 : List Loc), Q v S' → q_P g S' H1 → va_S (q_A g) s.heap H1 locs1 → W p g.1 e (q_R M) s m args below meth c H1 locs1 (cells + (q_R K).cells) (slots + (q_R K).slots) (Z below args s) (F0 m (pc + 3) la (v.toList ++ st)) := fun v S' H1 locs1 hq hP1 hS1 => k v S' hq p e s m args below meth c H1 locs1 _ _ la C hP1 hS1 (by omega) (by omega) hl
  have hcw := hts _ hK.2.1
  have hmem : Cond.code K.1 K.2.1 K.2.2.1 none ∈ q_ws1 K := by rw [← hrt]; exact List.mem_cons_self
  rw [hrt] at hcw
  exact q_after (va_runIN (host := RX9) (b := g.2.1 + a) (As := as) (rest := st) ⟨C.1, C.2.1, C.2.2.2.1, C.2.2.2.2.1, hts⟩ hM (n := np) ⟨⟨⟨rfl, rfl, hR.1, hR.2, hpay, hmem⟩, hcw, hts _ hK.2.2.1, hK.2.2.2.1, hpar, va_Nw.use rfl (C.2.2.2.2.2.2.2.2.1.2.2.1 _ hL.1)⟩, hin, hts _ hL.2⟩ ⟨q_blind, hpre⟩ rfl hnp hl.1 hst (lv_room hcat) hd ⟨by omega, by omega⟩) hS hgo
def q_dvb : FieldType → Bool := fun t => match t with
  | .int => true | .boolean => true | .long => true | .object _ => true | .array _ => true | _ => false
theorem q_dv : ∀ c, c < 11 → ∀ j, j < (q_cl c).2.2 → q_dvb (q_ty c j) = true := by decide +kernel
theorem q_dv0 {g : q_G} {S : q_S} {t : FieldType} (h : q_dvb t = true) (k j : Nat) (h1 : S.2.1 k j = 0) (h2 : S.2.2.1 k j = 0) (h3 : S.2.2.2 k j = none) : defaultValue t = q_val g S t k j := by
  cases t <;> first | (exfalso; revert h; simp [q_dvb]; done) | simp [q_val, q_kd, h1, h2, h3, defaultValue, q_o, va_rf]
theorem q_objInit {idx a : Nat} (hd : decode M.2.1 pc = .ok (.invokespecial idx, 3)) (hL : Cond.methodLink M.1.cls idx objectInit ∈ q_WS ∧ Cond.instanceMethod objectInit ∈ q_WS ∧ Cond.code objectInit ⟨#[0xb1]⟩ 1 none ∈ q_WS) (hfr : 1 ≤ (q_R M).frames) (hlo : (st.map fun v => v.category).sum + 12 ≤ (q_R M).locals) (k : q_V g M E Z kc ks (pc + 3) ls st S) : q_V g M E Z kc ks pc ls (q_r g a :: st) S := by
  intro p e s m args below meth c H locs cells slots la C P hS c1 c2 hl
  have hts := C.2.2.2.2.2.1
  exact W.objInit (a := g.2.1 + a) C.1 C.2.1 C.2.2.2.2.1 (hts _ hL.1) (hts _ hL.2.1) (hts _ hL.2.2) rfl (hl.1.trans C.2.2.2.1.symm) rfl hd hfr (by show 2 * 0 + _ + 12 ≤ _; omega) (k p e s m args below meth c H locs cells slots la C P hS c1 c2 hl)
/-- one cell more, all zero -/
def q_nw (S : q_S) : q_S := (S.1 + 1, fun k => if k = S.1 then (fun _ => 0) else S.2.1 k, fun k => if k = S.1 then (fun _ => 0) else S.2.2.1 k, fun k => if k = S.1 then (fun _ => none) else S.2.2.2 k)
theorem q_P_new {g : q_G} {S : q_S} {H H1 : Heap} (P : q_P g S H) (z1 : H1.size = H.size + 1) (o1 : ∀ q, q < H.size → H1[q]? = H[q]?) (hn : va_at g.2.2.1 vwCl (g.2.1 + S.1, q_e g (q_nw S) S.1) H1) : q_P g (q_nw S) H1 := by
  refine ⟨by rw [z1, P.1]; rfl, fun k q hk => ?_⟩
  obtain ⟨h1, rfl⟩ := q_ws_of hk
  by_cases hk : k < S.1
  · rw [q_e_congr (S := S) (by simp [q_nw, Nat.ne_of_lt hk]) (by simp [q_nw, Nat.ne_of_lt hk]) (by simp [q_nw, Nat.ne_of_lt hk])]
    exact (P.2 k _ (q_ws_at hk)).kept (o1 _ (by rw [P.1]; exact Nat.add_lt_add_left hk _))
  · have h1 : k < S.1 + 1 := h1
    have e : k = S.1 := by omega
    subst e
    exact hn
theorem q_new {idx ci N : Nat} (hd : decode M.2.1 pc = .ok (.new idx, 3)) (hlt : ci < 11) (hw : Cond.classLink M.1.cls idx (q_cl ci).1 ∈ q_WS ∧ Cond.instantiable (q_cl ci).1 (q_cl ci).2.2 ∈ q_WS ∧ Cond.initialized (q_cl ci).1 ∈ q_WS) (hN : (q_cl ci).2.2 = N) (hy : q_lay S.1 = (0, ci)) (k : q_V g M E Z kc ks (pc + 3) ls (q_r g S.1 :: st) (q_nw S)) : q_V g M E Z (kc + 1) (ks + N) pc ls st S := by
  intro p e s m args below meth c H locs cells slots la C P hS c1 c2 hl
  have hts := C.2.2.2.2.2.1
  have hK := C.2.2.2.2.2.2.2.2.1.1
  have hc := q_cl_at ci hlt
  have hKn := hK.1 ci _ hc
  refine W.newcK C.1 C.2.1 C.2.2.2.2.1 (hts _ hw.1) (hts _ hw.2.1) (hts _ hw.2.2) rfl hd (by omega) (by omega) hKn.2.1 P.1 fun H1 kC hkC e1 z1 o1 => ?_
  refine k p e s m args below meth c H1 locs _ _ la C (q_P_new P (by rw [P.1]; exact z1) (by rw [P.1]; exact o1) ?_) ⟨Nat.le_trans hS.1 (by rw [P.1, z1]; exact Nat.le_succ _), fun x h1 h2 => (o1 x (by rw [← P.1]; exact Nat.lt_of_lt_of_le h1 hS.1)).trans (hS.2.1 x h1 h2), hS.2.2⟩ (by omega) (by omega) hl
  have hq : q_e g (q_nw S) S.1 = .inr (ci, q_fs g (q_nw S) ci S.1) := by simp [q_e, hy]
  rw [hq]
  refine ⟨_, hc, (u_born (q_ty ci) hts (q_cl_in ci hlt) hKn hkC e1 (q_cl_ty ci hlt)).to (fun j hj => ?_)⟩
  show defaultValue (q_ty ci j) = vp_V _ j
  unfold vp_V
  rw [List.getD_eq_getElem?_getD, q_fs_at hj]
  exact q_dv0 (q_dv ci hlt j hj) S.1 j (by simp [q_nw]) (by simp [q_nw]) (by simp [q_nw])
theorem q_newI {n : Int32} {len : Nat} (hd : decode M.2.1 pc = .ok (.newarray .int, 2)) (hw : Cond.arrayClass .int ∈ q_WS) (hy : q_lay S.1 = (1, len)) (hn : ¬ n < 0) (hN : n.toNatClampNeg = len) (hB : len ≤ 1000000) (k : q_V g M E Z kc ks (pc + 2) ls (q_r g S.1 :: st) (q_nw S)) : q_V g M E Z (kc + 1) (ks + len) pc ls (.int n :: st) S := by
  intro p e s m args below meth c H locs cells slots la C P hS c1 c2 hl
  have hts := C.2.2.2.2.2.1
  have hK := C.2.2.2.2.2.2.2.2.1.1
  refine va_newaK (atype := .int) C.1 C.2.1 (hts _ hw) rfl hd rfl hn hN (by show len * _ ≤ _; simp [newarray.typeOf, componentBytes]; omega) (by omega) (by omega) P.1 fun H1 cA e1 z1 o1 hAr hNm => ?_
  refine k p e s m args below meth c H1 locs _ _ la C (q_P_new P (by rw [P.1]; exact z1) (by rw [P.1]; exact o1) ?_) ⟨Nat.le_trans hS.1 (by rw [P.1, z1]; exact Nat.le_succ _), fun x h1 h2 => (o1 x (by rw [← P.1]; exact Nat.lt_of_lt_of_le h1 hS.1)).trans (hS.2.1 x h1 h2), hS.2.2⟩ (by omega) (by omega) hl
  have hq : q_e g (q_nw S) S.1 = .inl (g.2.2.2.1 0, len, .inl (fun _ => 0)) := by simp [q_e, hy, q_nw]
  rw [hq]
  have hc : cA = g.2.2.2.1 0 := Option.some.inj (hNm.symm.trans (hK.2 0 _ rfl).2)
  subst hc
  show H1[g.2.1 + S.1]? = some (vp_cell _ _)
  rw [vp_cell_i]
  exact e1
theorem q_newL {n : Int32} {len : Nat} (hd : decode M.2.1 pc = .ok (.newarray .long, 2)) (hw : Cond.arrayClass .long ∈ q_WS) (hy : q_lay S.1 = (2, len)) (hn : ¬ n < 0) (hN : n.toNatClampNeg = len) (hB : len ≤ 1000000) (k : q_V g M E Z kc ks (pc + 2) ls (q_r g S.1 :: st) (q_nw S)) : q_V g M E Z (kc + 1) (ks + len) pc ls (.int n :: st) S := by
  intro p e s m args below meth c H locs cells slots la C P hS c1 c2 hl
  have hts := C.2.2.2.2.2.1
  have hK := C.2.2.2.2.2.2.2.2.1.1
  refine va_newaK (atype := .long) C.1 C.2.1 (hts _ hw) rfl hd rfl hn hN (by show len * _ ≤ _; simp [newarray.typeOf, componentBytes]; omega) (by omega) (by omega) P.1 fun H1 cA e1 z1 o1 hAr hNm => ?_
  refine k p e s m args below meth c H1 locs _ _ la C (q_P_new P (by rw [P.1]; exact z1) (by rw [P.1]; exact o1) ?_) ⟨Nat.le_trans hS.1 (by rw [P.1, z1]; exact Nat.le_succ _), fun x h1 h2 => (o1 x (by rw [← P.1]; exact Nat.lt_of_lt_of_le h1 hS.1)).trans (hS.2.1 x h1 h2), hS.2.2⟩ (by omega) (by omega) hl
  have hq : q_e g (q_nw S) S.1 = .inl (g.2.2.2.1 1, len, .inr (.inl (fun _ => 0))) := by simp [q_e, hy, q_nw]
  rw [hq]
  have hc : cA = g.2.2.2.1 1 := Option.some.inj (hNm.symm.trans (hK.2 1 _ rfl).2)
  subst hc
  show H1[g.2.1 + S.1]? = some (vp_cell _ _)
  rw [vp_cell_l]
  exact e1
theorem q_newZ {n : Int32} {len : Nat} (hd : decode M.2.1 pc = .ok (.newarray .boolean, 2)) (hw : Cond.arrayClass .boolean ∈ q_WS) (hy : q_lay S.1 = (3, len)) (hn : ¬ n < 0) (hN : n.toNatClampNeg = len) (hB : len ≤ 1000000) (k : q_V g M E Z kc ks (pc + 2) ls (q_r g S.1 :: st) (q_nw S)) : q_V g M E Z (kc + 1) (ks + len) pc ls (.int n :: st) S := by
  intro p e s m args below meth c H locs cells slots la C P hS c1 c2 hl
  have hts := C.2.2.2.2.2.1
  have hK := C.2.2.2.2.2.2.2.2.1.1
  refine va_newaK (atype := .boolean) C.1 C.2.1 (hts _ hw) rfl hd rfl hn hN (by show len * _ ≤ _; simp [newarray.typeOf, componentBytes]; omega) (by omega) (by omega) P.1 fun H1 cA e1 z1 o1 hAr hNm => ?_
  refine k p e s m args below meth c H1 locs _ _ la C (q_P_new P (by rw [P.1]; exact z1) (by rw [P.1]; exact o1) ?_) ⟨Nat.le_trans hS.1 (by rw [P.1, z1]; exact Nat.le_succ _), fun x h1 h2 => (o1 x (by rw [← P.1]; exact Nat.lt_of_lt_of_le h1 hS.1)).trans (hS.2.1 x h1 h2), hS.2.2⟩ (by omega) (by omega) hl
  have hq : q_e g (q_nw S) S.1 = .inl (g.2.2.2.1 2, len, .inl (fun _ => 0)) := by simp [q_e, hy, q_nw]
  rw [hq]
  have hc : cA = g.2.2.2.1 2 := Option.some.inj (hNm.symm.trans (hK.2 2 _ rfl).2)
  subst hc
  show H1[g.2.1 + S.1]? = some (vp_cell _ _)
  rw [vp_cell_i]
  exact e1
theorem q_newP {n : Int32} {len idx : Nat} (hd : decode M.2.1 pc = .ok (.anewarray idx, 3)) (hw : Cond.classLink M.1.cls idx RX5 ∈ q_WS) (hy : q_lay S.1 = (4, len)) (hn : ¬ n < 0) (hN : n.toNatClampNeg = len) (hB : len ≤ 1000000) (k : q_V g M E Z kc ks (pc + 3) ls (q_r g S.1 :: st) (q_nw S)) : q_V g M E Z (kc + 1) (ks + len) pc ls (.int n :: st) S := by
  intro p e s m args below meth c H locs cells slots la C P hS c1 c2 hl
  have hts := C.2.2.2.2.2.1
  have hK := C.2.2.2.2.2.2.2.2.1.1
  subst hN
  refine W.anew C.1 C.2.1 C.2.2.2.2.1 (hts _ hw) (va_AO.use C.2.2.2.2.2.2.2.2.1.2.2.2.1) rfl hd rfl hn (by omega) (by omega) (by omega) fun cA kA comp f1 f2 f3 f4 => ?_
  generalize hH1 : H.push ({ cls := cA, slots := Array.replicate n.toNatClampNeg .null, vm := .none } : Cell) = H1
  have z1 : H1.size = H.size + 1 := by rw [← hH1, Array.size_push]
  have e1 : H1[H.size]? = some (arrV cA n.toNatClampNeg (fun _ => .null)) := by rw [← hH1, Array.getElem?_push_size, ← arrV_new]
  have o1 : ∀ q : Nat, q < H.size → H1[q]? = H[q]? := fun q hq => by rw [← hH1, Array.getElem?_push, if_neg (Nat.ne_of_lt hq)]
  have hc : cA = g.2.2.2.1 3 := by
    obtain ⟨kA2, comp2, k1, k2, k3, k4⟩ := (hK.2 3 _ rfl).2
    exact Option.some.inj (f1.symm.trans k4)
  subst hc
  have hgo := k p e s m args below meth c H1 locs (cells + 1) (slots + n.toNatClampNeg) la C (q_P_new P z1 o1 (by
    have hq : q_e g (q_nw S) S.1 = .inl (g.2.2.2.1 3, n.toNatClampNeg, .inr (.inr (.inr (.inr (fun _ => none))))) := by simp [q_e, hy, q_nw, q_o]
    rw [hq]
    show H1[g.2.1 + S.1]? = some (vp_cell _ _)
    rw [vp_cell_q, ← P.1]
    exact e1)) ⟨Nat.le_trans hS.1 (by rw [z1]; exact Nat.le_succ _), fun x h1 h2 => (o1 x (Nat.lt_of_lt_of_le h1 hS.1)).trans (hS.2.1 x h1 h2), hS.2.2⟩ (by omega) (by omega) hl
  rw [P.1]
  exact hgo
theorem q_newS {n : Int32} {len idx : Nat} (hd : decode M.2.1 pc = .ok (.anewarray idx, 3)) (hw : Cond.classLink M.1.cls idx RX7 ∈ q_WS) (hy : q_lay S.1 = (5, len)) (hn : ¬ n < 0) (hN : n.toNatClampNeg = len) (hB : len ≤ 1000000) (k : q_V g M E Z kc ks (pc + 3) ls (q_r g S.1 :: st) (q_nw S)) : q_V g M E Z (kc + 1) (ks + len) pc ls (.int n :: st) S := by
  intro p e s m args below meth c H locs cells slots la C P hS c1 c2 hl
  have hts := C.2.2.2.2.2.1
  have hK := C.2.2.2.2.2.2.2.2.1.1
  subst hN
  refine W.anew C.1 C.2.1 C.2.2.2.2.1 (hts _ hw) (va_AO.use C.2.2.2.2.2.2.2.2.1.2.2.2.2) rfl hd rfl hn (by omega) (by omega) (by omega) fun cA kA comp f1 f2 f3 f4 => ?_
  generalize hH1 : H.push ({ cls := cA, slots := Array.replicate n.toNatClampNeg .null, vm := .none } : Cell) = H1
  have z1 : H1.size = H.size + 1 := by rw [← hH1, Array.size_push]
  have e1 : H1[H.size]? = some (arrV cA n.toNatClampNeg (fun _ => .null)) := by rw [← hH1, Array.getElem?_push_size, ← arrV_new]
  have o1 : ∀ q : Nat, q < H.size → H1[q]? = H[q]? := fun q hq => by rw [← hH1, Array.getElem?_push, if_neg (Nat.ne_of_lt hq)]
  have hc : cA = g.2.2.2.1 4 := by
    obtain ⟨kA2, comp2, k1, k2, k3, k4⟩ := (hK.2 4 _ rfl).2
    exact Option.some.inj (f1.symm.trans k4)
  subst hc
  have hgo := k p e s m args below meth c H1 locs (cells + 1) (slots + n.toNatClampNeg) la C (q_P_new P z1 o1 (by
    have hq : q_e g (q_nw S) S.1 = .inl (g.2.2.2.1 4, n.toNatClampNeg, .inr (.inr (.inr (.inr (fun _ => none))))) := by simp [q_e, hy, q_nw, q_o]
    rw [hq]
    show H1[g.2.1 + S.1]? = some (vp_cell _ _)
    rw [vp_cell_q, ← P.1]
    exact e1)) ⟨Nat.le_trans hS.1 (by rw [z1]; exact Nat.le_succ _), fun x h1 h2 => (o1 x (Nat.lt_of_lt_of_le h1 hS.1)).trans (hS.2.1 x h1 h2), hS.2.2⟩ (by omega) (by omega) hl
  rw [P.1]
  exact hgo
theorem q_aastP {a len v : Nat} {i : Int32} (hd : decode M.2.1 pc = .ok (.aastore, 1)) (hy : q_lay a = (4, len)) (ha : a < S.1) (hv : q_lay v = (0, 5)) (hva : v < S.1) (hin : vp_in i len) (k : q_V g M E Z kc ks (pc + 1) ls st (q_pr S a i.toNatClampNeg (some v))) : q_V g M E Z kc ks pc ls (q_r g v :: .int i :: q_r g a :: st) S := by
  intro p e s m args below meth c H locs cells slots la C P hS c1 c2 hl
  have hat : (q_ws g S)[a]? = some (g.2.1 + a, .inl (g.2.2.2.1 3, len, .inr (.inr (.inr (.inr (fun i => q_o g (S.2.2.2 a i))))))) := by rw [q_ws_at ha]; simp [q_e, hy]
  have hvt : (q_ws g S)[v]? = some (g.2.1 + v, .inr (5, q_fs g S 5 v)) := by rw [q_ws_at hva]; simp [q_e, hv]
  have hK := C.2.2.2.2.2.2.2.2.1.1
  have hlt : i.toNatClampNeg < len := Nat.not_le.mp fun q => hin (Or.inr q)
  have h0 : ¬ i < 0 := fun q => hin (Or.inl q)
  obtain ⟨r', hr', cellV, g1, g2, g3, -⟩ := P.2 v _ hvt
  have hcls := (hK.1 5 (q_cl 5) rfl).2
  obtain ⟨kA, comp, k1, k2, k3, -⟩ := (hK.2 3 _ rfl).2
  have hcomp : comp = g.2.2.1.1 5 := Option.some.inj (k3.symm.trans hcls.1)
  subst hcomp
  obtain ⟨kC, hkC, -⟩ := id hcls.2
  refine W.aast C.1 C.2.1 (P.2 a _ hat) (fun q h => by cases h) (fun h => by cases h) k1 k2 rfl hkC ⟨h0, by show _ < (arrV _ _ _).slots.size; rw [arrV_size]; exact hlt⟩ g1 (fun q h => by rw [g3] at h; cases h) (by rw [g2]; exact hkC) (by rw [g2]; exact va_assign hcls) rfl rfl hd fun H1 e1 z oq => ?_
  have hset : ∀ e : va_E, q_e g (q_pr S a i.toNatClampNeg (some v)) a = e → (q_ws g S).set a (g.2.1 + a, e) = q_ws g (q_pr S a i.toNatClampNeg (some v)) := fun e he => q_ws_set ha rfl he (fun k hk => q_e_congr (by simp [q_pr, q_up_row hk]) (by simp [q_pr, q_up_row hk]) (by simp [q_pr, q_up_row hk]))
  refine k p e s m args below meth c H1 _ cells slots la C ⟨by rw [z, P.1]; rfl, ?_⟩ (hS.put z oq (Nat.le_add_right _ _)) c1 c2 hl
  rw [← hset _ rfl]
  refine P.2.set q_ws_D hat ?_ oq
  have hq : q_e g (q_pr S a i.toNatClampNeg (some v)) a = .inl (g.2.2.2.1 3, len, .inr (.inr (.inr (.inr (fun j => q_o g (q_up S.2.2.2 a i.toNatClampNeg (some v) a j)))))) := by simp [q_e, hy, q_pr]
  rw [hq]
  show H1[g.2.1 + a]? = some (vp_cell _ _)
  rw [e1]
  rw [vp_cell_q, vp_cell_q, arrV_store]
  congr 2
  funext q
  by_cases hq : q = i.toNatClampNeg
  · subst hq
    simp [updV, q_up, va_rf, q_o]
  · simp [updV, q_up, hq]
theorem q_aastS {a len v : Nat} {i : Int32} (hd : decode M.2.1 pc = .ok (.aastore, 1)) (hy : q_lay a = (5, len)) (ha : a < S.1) (hv : q_lay v = (0, 7)) (hva : v < S.1) (hin : vp_in i len) (k : q_V g M E Z kc ks (pc + 1) ls st (q_pr S a i.toNatClampNeg (some v))) : q_V g M E Z kc ks pc ls (q_r g v :: .int i :: q_r g a :: st) S := by
  intro p e s m args below meth c H locs cells slots la C P hS c1 c2 hl
  have hat : (q_ws g S)[a]? = some (g.2.1 + a, .inl (g.2.2.2.1 4, len, .inr (.inr (.inr (.inr (fun i => q_o g (S.2.2.2 a i))))))) := by rw [q_ws_at ha]; simp [q_e, hy]
  have hvt : (q_ws g S)[v]? = some (g.2.1 + v, .inr (7, q_fs g S 7 v)) := by rw [q_ws_at hva]; simp [q_e, hv]
  have hK := C.2.2.2.2.2.2.2.2.1.1
  have hlt : i.toNatClampNeg < len := Nat.not_le.mp fun q => hin (Or.inr q)
  have h0 : ¬ i < 0 := fun q => hin (Or.inl q)
  obtain ⟨r', hr', cellV, g1, g2, g3, -⟩ := P.2 v _ hvt
  have hcls := (hK.1 7 (q_cl 7) rfl).2
  obtain ⟨kA, comp, k1, k2, k3, -⟩ := (hK.2 4 _ rfl).2
  have hcomp : comp = g.2.2.1.1 7 := Option.some.inj (k3.symm.trans hcls.1)
  subst hcomp
  obtain ⟨kC, hkC, -⟩ := id hcls.2
  refine W.aast C.1 C.2.1 (P.2 a _ hat) (fun q h => by cases h) (fun h => by cases h) k1 k2 rfl hkC ⟨h0, by show _ < (arrV _ _ _).slots.size; rw [arrV_size]; exact hlt⟩ g1 (fun q h => by rw [g3] at h; cases h) (by rw [g2]; exact hkC) (by rw [g2]; exact va_assign hcls) rfl rfl hd fun H1 e1 z oq => ?_
  have hset : ∀ e : va_E, q_e g (q_pr S a i.toNatClampNeg (some v)) a = e → (q_ws g S).set a (g.2.1 + a, e) = q_ws g (q_pr S a i.toNatClampNeg (some v)) := fun e he => q_ws_set ha rfl he (fun k hk => q_e_congr (by simp [q_pr, q_up_row hk]) (by simp [q_pr, q_up_row hk]) (by simp [q_pr, q_up_row hk]))
  refine k p e s m args below meth c H1 _ cells slots la C ⟨by rw [z, P.1]; rfl, ?_⟩ (hS.put z oq (Nat.le_add_right _ _)) c1 c2 hl
  rw [← hset _ rfl]
  refine P.2.set q_ws_D hat ?_ oq
  have hq : q_e g (q_pr S a i.toNatClampNeg (some v)) a = .inl (g.2.2.2.1 4, len, .inr (.inr (.inr (.inr (fun j => q_o g (q_up S.2.2.2 a i.toNatClampNeg (some v) a j)))))) := by simp [q_e, hy, q_pr]
  rw [hq]
  show H1[g.2.1 + a]? = some (vp_cell _ _)
  rw [e1]
  rw [vp_cell_q, vp_cell_q, arrV_store]
  congr 2
  funext q
  by_cases hq : q = i.toNatClampNeg
  · subst hq
    simp [updV, q_up, va_rf, q_o]
  · simp [updV, q_up, hq]
end QC
