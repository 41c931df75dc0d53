/-! PURE: routes: moves kept in four bits -/
def bq (x : Int64) (i : Nat) : Bool := x.toBitVec.getLsbD i
theorem bq_ext {x y : Int64} (h : ∀ i, i < 64 → bq x i = bq y i) : x = y := Int64.toBitVec_inj.mp (BitVec.eq_of_getLsbD_eq (fun i hi => h i hi))
theorem bq_or (x y : Int64) (i : Nat) : bq (x ||| y) i = (bq x i || bq y i) := by unfold bq; rw [Int64.toBitVec_or, BitVec.getLsbD_or]
theorem bq_and (x y : Int64) (i : Nat) : bq (x &&& y) i = (bq x i && bq y i) := by unfold bq; rw [Int64.toBitVec_and, BitVec.getLsbD_and]
theorem bq_xor (x y : Int64) (i : Nat) : bq (x ^^^ y) i = (bq x i ^^ bq y i) := by unfold bq; rw [Int64.toBitVec_xor, BitVec.getLsbD_xor]
theorem bq_m1 : ∀ i, i < 64 → bq (-1) i = true := by decide +kernel
theorem bq_15 : ∀ i, i < 64 → bq 15 i = decide (i < 4) := by decide +kernel
def sft (k : Nat) : Int64 := (nI (k * 4)).toInt64 &&& 63
theorem sft_n : ∀ k, k < 16 → ((sft k).toBitVec.smod 64).toNat = 4 * k := by decide +kernel
theorem bq_shl {k : Nat} (hk : k < 16) (x : Int64) {i : Nat} (hi : i < 64) : bq (x <<< sft k) i = (decide (4 * k ≤ i) && bq x (i - 4 * k)) := by
  unfold bq
  rw [Int64.toBitVec_shiftLeft]
  show (x.toBitVec <<< ((sft k).toBitVec.smod 64).toNat).getLsbD i = _
  rw [sft_n k hk, BitVec.getLsbD_shiftLeft]
  rcases Nat.lt_or_ge i (4 * k) with h | h
  · simp [h, Nat.not_le.mpr h]
  · simp [hi, h, Nat.not_lt.mpr h]
theorem bq_shr {k : Nat} (hk : k < 16) (x : Int64) {i : Nat} (hi : i < 4) : bq (x >>> sft k) i = bq x (4 * k + i) := by
  unfold bq
  rw [Int64.toBitVec_shiftRight]
  show (x.toBitVec.sshiftRight ((sft k).toBitVec.smod 64).toNat).getLsbD i = _
  rw [sft_n k hk, BitVec.getLsbD_sshiftRight]
  have h1 : 4 * k + i < 64 := by omega
  have h2 : i < 64 := by omega
  simp [h1, h2]
def nbR (x : Int64) (k : Nat) : Int64 := (x >>> sft k) &&& 15
def nbW (x : Int64) (k : Nat) (v : Int64) : Int64 := (x &&& (((15 : Int64) <<< sft k) ^^^ (-1))) ||| (v <<< sft k)
theorem nbR_b {x : Int64} {k i : Nat} (hk : k < 16) (hi : i < 64) : bq (nbR x k) i = (decide (i < 4) && bq x (4 * k + i)) := by
  unfold nbR
  rw [bq_and, bq_15 i hi]
  by_cases h : i < 4
  · rw [bq_shr hk x h, decide_eq_true h, Bool.and_true, Bool.true_and]
  · rw [decide_eq_false h, Bool.and_false, Bool.false_and]
theorem nbW_b {x v : Int64} {k i : Nat} (hk : k < 16) (hi : i < 64) : bq (nbW x k v) i = ((bq x i && !(decide (4 * k ≤ i) && decide (i - 4 * k < 4))) || (decide (4 * k ≤ i) && bq v (i - 4 * k))) := by
  unfold nbW
  rw [bq_or, bq_and, bq_xor, bq_shl hk 15 hi, bq_shl hk v hi, bq_m1 i hi, bq_15 _ (by omega), Bool.xor_true]
theorem nb_same {x v : Int64} {k : Nat} (hk : k < 16) (hv : ∀ i, i < 64 → 4 ≤ i → bq v i = false) : nbR (nbW x k v) k = v := by
  apply bq_ext
  intro i hi
  rw [nbR_b hk hi]
  by_cases h : i < 4
  · rw [decide_eq_true h, Bool.true_and, nbW_b hk (by omega), decide_eq_true (show 4 * k ≤ 4 * k + i by omega), show 4 * k + i - 4 * k = i by omega, decide_eq_true h, Bool.true_and, Bool.not_true, Bool.and_false, Bool.false_or, Bool.true_and]
  · rw [decide_eq_false h, Bool.false_and, hv i hi (by omega)]
theorem nb_other {x v : Int64} {k k' : Nat} (hk : k < 16) (hk' : k' < 16) (hne : ¬ k' = k) (hv : ∀ i, i < 64 → 4 ≤ i → bq v i = false) : nbR (nbW x k v) k' = nbR x k' := by
  apply bq_ext
  intro i hi
  rw [nbR_b hk' hi, nbR_b hk' hi]
  by_cases h : i < 4
  · rw [decide_eq_true h, Bool.true_and, Bool.true_and, nbW_b hk (by omega)]
    by_cases h2 : 4 * k ≤ 4 * k' + i
    · rw [decide_eq_true h2, decide_eq_false (show ¬ 4 * k' + i - 4 * k < 4 by omega), hv _ (by omega) (by omega)]
      simp
    · rw [decide_eq_false h2]
      simp
  · rw [decide_eq_false h, Bool.false_and, Bool.false_and]
theorem mv_b : ∀ j, j < 9 → ∀ i, i < 64 → 4 ≤ i → bq (nI j).toInt64 i = false := by decide +kernel
theorem mv_r : ∀ j, j < 9 → (nI j).toInt64.toInt32 = nI j := by decide +kernel
/-- where a move lies -/
def nbI (G g i c : Nat) : Nat := (i * (G + 1) + g) * 9 + c / 16
theorem nbI_lt {G g i c : Nat} (hG : G ≤ 40) (hi : i ≤ 40 - G) (hg : g ≤ G) (hc : c < 144) : nbI G g i c < 3969 := by
  have h1 := (by decide +kernel : ∀ G, G < 41 → (41 - G) * (G + 1) ≤ 441) G (by omega)
  have h2 := Nat.mul_le_mul_right (G + 1) hi
  have h3 : (41 - G) * (G + 1) = (40 - G) * (G + 1) + (G + 1) := by rw [show 41 - G = (40 - G) + 1 by omega, Nat.succ_mul]
  unfold nbI
  omega
theorem nbI_inj {G g i c g' i' c' : Nat} (hg : g ≤ G) (hg' : g' ≤ G) (hc : c < 144) (hc' : c' < 144) (h : nbI G g i c = nbI G g' i' c') (h16 : c % 16 = c' % 16) : g = g' ∧ i = i' ∧ c = c' := by
  unfold nbI at h
  have h1 : i * (G + 1) + g = i' * (G + 1) + g' ∧ c / 16 = c' / 16 := by omega
  have h2 : i = i' := by
    rcases Nat.lt_trichotomy i i' with w | w | w
    · have := Nat.mul_le_mul_right (G + 1) w
      rw [Nat.succ_mul] at this
      omega
    · exact w
    · have := Nat.mul_le_mul_right (G + 1) w
      rw [Nat.succ_mul] at this
      omega
  subst h2
  omega
def kpS (s : q_Mm) (G g i c : Nat) : Int32 := (nbR (s.2 91 (nbI G g i c)) (c % 16)).toInt32
theorem longOf9 {s : q_Mm} {G g i c : Nat} (h6 : s.1 89 6 = nI G) (hc : c < 144) : f_X4_longOf (nI g) (nI i) (nI c) s = nI (nbI G g i c) := by
  unfold f_X4_longOf nbI
  rw [h6, nI_1, pk_mul, nI_add, show (9 : Int32) = nI 9 from rfl, pk_mul, show nI c / 16 = nI (c / 16) from pk_div (d := 16) (by omega) (by decide) (by decide), nI_add]
theorem shift9 {s : q_Mm} {c : Nat} (hc : c < 144) : (f_X4_shiftOf (nI c) s).toInt64 &&& 63 = sft (c % 16) := by
  unfold f_X4_shiftOf sft
  rw [show q_rm (nI c) 16 = nI (c % 16) from pk_rem (d := 16) (by omega) (by decide) (by decide), show (4 : Int32) = nI 4 from rfl, pk_mul]
theorem kept9 {s : q_Mm} {G g i c : Nat} (h6 : s.1 89 6 = nI G) (hG : G ≤ 40) (hi : i ≤ 40 - G) (hg : g ≤ G) (hc : c < 144) : f_X4_keptMove (nI g) (nI i) (nI c) s = some (kpS s G g i c) := by
  have hl := nbI_lt hG hi hg hc
  unfold f_X4_keptMove kpS nbR
  rw [longOf9 h6 hc, if_pos (r_in hl (by decide)), r_cl (by omega), shift9 hc]
theorem keep9 {s : q_Mm} {G g i c j : Nat} (h6 : s.1 89 6 = nI G) (hG : G ≤ 40) (hi : i ≤ 40 - G) (hg : g ≤ G) (hc : c < 144) (hj : j < 9) : ∃ s', f_X4_keepMove (nI g) (nI i) (nI c) (nI j) s = some s' ∧ s'.1 = s.1 ∧ (∀ q, ¬ q = 91 → s'.2 q = s.2 q) ∧ kpS s' G g i c = nI j ∧ ∀ g' i' c', g' ≤ G → c' < 144 → ¬ (g' = g ∧ i' = i ∧ c' = c) → kpS s' G g' i' c' = kpS s G g' i' c' := by
  have hl := nbI_lt hG hi hg hc
  refine ⟨q_wl s 91 (nbI G g i c) (nbW (s.2 91 (nbI G g i c)) (c % 16) (nI j).toInt64), ?_, rfl, fun q hq => r_rowL hq, ?_, fun g' i' c' b1 b2 b3 => ?_⟩
  · unfold f_X4_keepMove
    rw [longOf9 h6 hc, if_pos (r_in hl (by decide)), if_pos (r_in hl (by decide)), r_cl (by omega), shift9 hc]
    rfl
  · unfold kpS
    rw [r_wl2, if_pos ⟨rfl, rfl⟩, nb_same (by omega) (mv_b j hj), mv_r j hj]
  · unfold kpS
    rw [r_wl2]
    by_cases he : nbI G g' i' c' = nbI G g i c
    · rw [if_pos ⟨rfl, he⟩, nb_other (by omega) (by omega) (fun w => b3 (nbI_inj b1 hg b2 hc he w)) (mv_b j hj), he]
    · rw [if_neg (fun w => he w.2)]
