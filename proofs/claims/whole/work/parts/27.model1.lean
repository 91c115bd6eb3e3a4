/-! ===== QueryDeskModel: tables ===== -/
theorem mI60 (j r : Nat) : (60 : Int32) * nI j + nI r = nI (60 * j + r) := by rw [show (60 : Int32) = nI 60 from rfl, pk_mul, nI_add]
theorem mI240 (j r c : Nat) : (240 : Int32) * nI j + 4 * nI r + nI c = nI (240 * j + 4 * r + c) := by rw [show (240 : Int32) = nI 240 from rfl, show (4 : Int32) = nI 4 from rfl, pk_mul, pk_mul, nI_add, nI_add]
theorem mI240' (j r : Nat) : (240 : Int32) * nI j + 4 * nI r = nI (240 * j + 4 * r) := by rw [show (240 : Int32) = nI 240 from rfl, show (4 : Int32) = nI 4 from rfl, pk_mul, pk_mul, nI_add]
theorem mI8 (j r : Nat) : (8 : Int32) * nI j + nI r = nI (8 * j + r) := by rw [show (8 : Int32) = nI 8 from rfl, pk_mul, nI_add]
theorem mI84 (j k c : Nat) : (8 : Int32) * nI j + 4 * nI k + nI c = nI (8 * j + 4 * k + c) := by rw [show (8 : Int32) = nI 8 from rfl, show (4 : Int32) = nI 4 from rfl, pk_mul, pk_mul, nI_add, nI_add]
theorem mI84' (j c : Nat) : (8 : Int32) * nI j + 4 + nI c = nI (8 * j + 4 + c) := by rw [show (8 : Int32) = nI 8 from rfl, show (4 : Int32) = nI 4 from rfl, pk_mul, nI_add, nI_add]
theorem le_sub1 {k c : Int32} (h : 0 ≤ k) : c ≤ k - 1 ↔ c < k := by
  have h0 : (0 : Int) ≤ k.toInt := Int32.le_iff_toInt_le.mp h
  have h1 := k.toInt_lt
  have e : (k - 1).toInt = k.toInt - 1 := by
    rw [Int32.toInt_sub]
    exact Int.bmod_eq_of_le (by show _ ≤ _; have : (1 : Int32).toInt = 1 := rfl; rw [this]; omega) (by have : (1 : Int32).toInt = 1 := rfl; rw [this]; omega)
  rw [Int32.le_iff_toInt_le, Int32.lt_iff_toInt_lt, e]
  omega
set_option maxHeartbeats 4000000 in
set_option maxRecDepth 100000 in
theorem c_X8_thrown (G : dk_G) (sr : Nat → Option Nat) (hi : Nat → Nat → Int32) (hf : Nat → Nat → UInt32) (z : (Nat → Nat → Int64) × (Nat → Nat → UInt64))  :
    dk_MF G yX8_thrown cX8_thrown 1 (some .int) 0 0 [.ref 45] (hi, hf, dk_RF sr, z) (some (.int (hi 45 0))) (hi, hf, dk_RF sr, z) := by
  refine dk_met (L := [some (.ref 45)]) pnX8 rfl (Nat.le_of_ble_eq_true rfl) ?_
  intro X C E hNm
  refine dk_aload_n C dX8_thrown_0 rfl rfl ?_
  refine ek_getI C fX8_59 rfl (by decide) rfl dX8_thrown_1 ?_
  exact dk_iret C E dX8_thrown_4 (Nat.zero_le _) (Nat.zero_le _) (⟨rfl, rfl⟩)
set_option maxHeartbeats 4000000 in
set_option maxRecDepth 100000 in
theorem c_X8_in (G : dk_G) (sr : Nat → Option Nat) (hi : Nat → Nat → Int32) (hf : Nat → Nat → UInt32) (z : (Nat → Nat → Int64) × (Nat → Nat → UInt64)) (v a b : Int32) :
    dk_MF G yX8_in cX8_in 3 (some .boolean) 0 0 [.int v, .int a, .int b] (hi, hf, dk_RF sr, z) (some (.int (bI (decide (a ≤ v ∧ v ≤ b))))) (hi, hf, dk_RF sr, z) := by
  refine dk_met (L := [some (.int v), some (.int a), some (.int b)]) pnX8 rfl (Nat.le_of_ble_eq_true rfl) ?_
  intro X C E hNm
  refine dk_iload_n C dX8_in_0 rfl rfl ?_
  refine dk_iload_n C dX8_in_1 rfl rfl ?_
  refine dk_icmp_lt C 14 dX8_in_2 (by decide) (fun c1 => ?_) (fun c1 => ?_)
  · refine dk_iconst C (0) dX8_in_14 rfl ?_
    exact dk_zret C E rfl dX8_in_15 (Nat.zero_le _) (Nat.zero_le _) (⟨pI (bI_f (decide_eq_false (fun q => Int32.not_le.mpr c1 q.1))), rfl⟩)
  · refine dk_iload_n C dX8_in_5 rfl rfl ?_
    refine dk_iload_n C dX8_in_6 rfl rfl ?_
    refine dk_icmp_gt C 14 dX8_in_7 (by decide) (fun c2 => ?_) (fun c2 => ?_)
    · refine dk_iconst C (0) dX8_in_14 rfl ?_
      exact dk_zret C E rfl dX8_in_15 (Nat.zero_le _) (Nat.zero_le _) (⟨pI (bI_f (decide_eq_false (fun q => Int32.not_le.mpr c2 q.2))), rfl⟩)
    · refine dk_iconst C (1) dX8_in_10 rfl ?_
      refine dk_goto C 15 dX8_in_11 (by decide) ?_
      exact dk_zret C E rfl dX8_in_15 (Nat.zero_le _) (Nat.zero_le _) (⟨pI (bI_t (decide_eq_true ⟨Int32.not_lt.mp c1, Int32.not_lt.mp c2⟩)), rfl⟩)
def md_ht (hi : Nat → Nat → Int32) (x : Int32) : Bool := decide (0 ≤ x ∧ x < 3 ∧ 0 < hi 46 (cl x))
theorem md_3 {x : Int32} (h : decide (0 ≤ x ∧ x ≤ 2) = true) : ∃ j, j < 3 ∧ x = nI j ∧ cl x = j := by
  have h2 := of_decide_eq_true h
  rcases pk_ix x (n := 3) (by decide) with q | q | ⟨j, hj, rfl⟩
  · exact absurd h2.1 (Int32.not_le.mpr q)
  · exact absurd (Int32.le_trans (show nI 3 ≤ x from q) h2.2) (by decide)
  · exact ⟨j, hj, rfl, cl_nI (by omega)⟩
theorem md_3f {x : Int32} (h : decide (0 ≤ x ∧ x ≤ 2) = false) : ¬ (0 ≤ x ∧ x < 3) := by
  have h2 := of_decide_eq_false h
  intro q
  exact h2 ⟨q.1, (le_sub1 (k := 3) (by decide)).mpr q.2⟩
set_option maxHeartbeats 4000000 in
set_option maxRecDepth 100000 in
theorem c_X8_isTable (G : dk_G) (sr : Nat → Option Nat) (hi : Nat → Nat → Int32) (hf : Nat → Nat → UInt32) (z : (Nat → Nat → Int64) × (Nat → Nat → UInt64)) (x : Int32) :
    dk_MF G yX8_isTable cX8_isTable 2 (some .boolean) 1 22 [.ref 45, .int x] (hi, hf, dk_RF sr, z) (some (.int (bI (md_ht hi x)))) (hi, hf, dk_RF sr, z) := by
  refine dk_met (L := [some (.ref 45), some (.int x)]) pnX8 rfl (Nat.le_of_ble_eq_true rfl) ?_
  intro X C E hNm
  refine dk_iload_n C dX8_isTable_0 rfl rfl ?_
  refine dk_iconst C (0) dX8_isTable_1 rfl ?_
  refine dk_iconst C (2) dX8_isTable_2 rfl ?_
  refine ek_callS C mX8_63 (c_X8_in _ _ _ _ _ x 0 2) rfl rfl (Nat.le_of_ble_eq_true rfl) (by decide) (by decide) (Nat.zero_le _) (Nat.zero_le _) dX8_isTable_3 ?_
  refine dk_if_eq C 22 dX8_isTable_6 (by decide) (fun c1 => ?_) (fun c1 => ?_)
  · refine dk_iconst C (0) dX8_isTable_22 rfl ?_
    exact dk_zret C E rfl dX8_isTable_23 (Nat.zero_le _) (Nat.zero_le _) (⟨pI (bI_f (decide_eq_false (fun q => md_3f (bI_n0 c1) ⟨q.1, q.2.1⟩))), rfl⟩)
  · obtain ⟨j, hj, rfl, e⟩ := md_3 (bI_n1 c1)
    refine dk_aload_n C dX8_isTable_9 rfl rfl ?_
    refine ek_getR C fX8_7 rfl (by decide) rfl 46 rfl dX8_isTable_10 ?_
    refine dk_iload_n C dX8_isTable_13 rfl rfl ?_
    refine ek_iald C rfl (by decide) (j) (rfl) (hj) (by decide) dX8_isTable_14 ?_
    refine dk_if_le C 22 dX8_isTable_15 (by decide) (fun c2 => ?_) (fun c2 => ?_)
    · refine dk_iconst C (0) dX8_isTable_22 rfl ?_
      exact dk_zret C E rfl dX8_isTable_23 (Nat.zero_le _) (Nat.zero_le _) (⟨pI (bI_f (decide_eq_false (fun q => by rw [e] at q; exact Int32.not_le.mpr q.2.2 c2))), rfl⟩)
    · refine dk_iconst C (1) dX8_isTable_18 rfl ?_
      refine dk_goto C 23 dX8_isTable_19 (by decide) ?_
      exact dk_zret C E rfl dX8_isTable_23 (Nat.zero_le _) (Nat.zero_le _) (⟨pI (bI_t (decide_eq_true ⟨nI_pos' (by omega), nI_lt (b := 3) hj (by decide), by rw [e]; exact Int32.not_le.mp c2⟩)), rfl⟩)
theorem md_ht_1 {hi : Nat → Nat → Int32} {x : Int32} (h : md_ht hi x = true) : ∃ j, j < 3 ∧ x = nI j ∧ cl x = j ∧ 0 < hi 46 j := by
  have h2 := of_decide_eq_true h
  rcases pk_ix x (n := 3) (by decide) with q | q | ⟨j, hj, rfl⟩
  · exact absurd h2.1 (Int32.not_le.mpr q)
  · exact absurd h2.2.1 (Int32.not_lt.mpr q)
  · have e : cl (nI j) = j := cl_nI (by omega)
    exact ⟨j, hj, rfl, e, by rw [e] at h2; exact h2.2.2⟩
def md_hr (hi : Nat → Nat → Int32) (x r : Int32) : Bool := md_ht hi x && (decide (0 ≤ r ∧ r ≤ 59) && decide (hi 48 (60 * cl x + cl r) ≠ 0))
theorem md_60 {x : Int32} (h : decide (0 ≤ x ∧ x ≤ 59) = true) : ∃ j, j < 60 ∧ x = nI j ∧ cl x = j := by
  have h2 := of_decide_eq_true h
  rcases pk_ix x (n := 60) (by decide) with q | q | ⟨j, hj, rfl⟩
  · exact absurd h2.1 (Int32.not_le.mpr q)
  · exact absurd (Int32.le_trans (show nI 60 ≤ x from q) h2.2) (by decide)
  · exact ⟨j, hj, rfl, cl_nI (by omega)⟩
set_option maxHeartbeats 4000000 in
set_option maxRecDepth 100000 in
theorem c_X8_isRow (G : dk_G) (sr : Nat → Option Nat) (hi : Nat → Nat → Int32) (hf : Nat → Nat → UInt32) (z : (Nat → Nat → Int64) × (Nat → Nat → UInt64)) (x r : Int32) :
    dk_MF G yX8_isRow cX8_isRow 3 (some .boolean) 2 43 [.ref 45, .int x, .int r] (hi, hf, dk_RF sr, z) (some (.int (bI (md_hr hi x r)))) (hi, hf, dk_RF sr, z) := by
  refine dk_met (L := [some (.ref 45), some (.int x), some (.int r)]) pnX8 rfl (Nat.le_of_ble_eq_true rfl) ?_
  intro X C E hNm
  refine dk_aload_n C dX8_isRow_0 rfl rfl ?_
  refine dk_iload_n C dX8_isRow_1 rfl rfl ?_
  refine ek_callV C mX8_67 (c_X8_isTable _ _ _ _ _ x) rfl (by decide) rfl rfl (Nat.le_of_ble_eq_true rfl) (by decide) (by decide) (Nat.zero_le _) (Nat.zero_le _) dX8_isRow_2 ?_
  refine dk_if_eq C 36 dX8_isRow_5 (by decide) (fun c1 => ?_) (fun c1 => ?_)
  · refine dk_iconst C (0) dX8_isRow_36 rfl ?_
    exact dk_zret C E rfl dX8_isRow_37 (Nat.zero_le _) (Nat.zero_le _) (⟨pI (bI_f (by rw [md_hr, bI_n0 c1]; rfl)), rfl⟩)
  · obtain ⟨j, hj, rfl, e, h0⟩ := md_ht_1 (bI_n1 c1)
    refine dk_iload_n C dX8_isRow_8 rfl rfl ?_
    refine dk_iconst C (0) dX8_isRow_9 rfl ?_
    refine dk_bipush C (59) dX8_isRow_10 rfl ?_
    refine ek_callS C mX8_63 (c_X8_in _ _ _ _ _ r 0 59) rfl rfl (Nat.le_of_ble_eq_true rfl) (by decide) (by decide) (Nat.zero_le _) (Nat.zero_le _) dX8_isRow_12 ?_
    refine dk_if_eq C 36 dX8_isRow_15 (by decide) (fun c2 => ?_) (fun c2 => ?_)
    · refine dk_iconst C (0) dX8_isRow_36 rfl ?_
      exact dk_zret C E rfl dX8_isRow_37 (Nat.zero_le _) (Nat.zero_le _) (⟨pI (bI_f (by rw [md_hr, bI_n0 c2, Bool.false_and, Bool.and_false])), rfl⟩)
    · obtain ⟨k, hk, rfl, e2⟩ := md_60 (bI_n1 c2)
      refine dk_aload_n C dX8_isRow_18 rfl rfl ?_
      refine ek_getR C fX8_16 rfl (by decide) rfl 48 rfl dX8_isRow_19 ?_
      refine dk_bipush C (60) dX8_isRow_22 rfl ?_
      refine dk_iload_n C dX8_isRow_24 rfl rfl ?_
      refine dk_imul C dX8_isRow_25 ?_
      refine dk_iload_n C dX8_isRow_26 rfl rfl ?_
      refine dk_iadd C dX8_isRow_27 ?_
      refine ek_zald C rfl (by decide) (60 * j + k) (mI60 j k) (by omega) (by decide) dX8_isRow_28 ?_
      refine dk_if_eq C 36 dX8_isRow_29 (by decide) (fun c3 => ?_) (fun c3 => ?_)
      · refine dk_iconst C (0) dX8_isRow_36 rfl ?_
        exact dk_zret C E rfl dX8_isRow_37 (Nat.zero_le _) (Nat.zero_le _) (⟨pI (bI_f (by rw [md_hr, e, e2, c3, Bool.and_eq_false_imp]; intro _; rw [Bool.and_eq_false_imp]; intro _; rfl)), rfl⟩)
      · refine dk_iconst C (1) dX8_isRow_32 rfl ?_
        refine dk_goto C 37 dX8_isRow_33 (by decide) ?_
        exact dk_zret C E rfl dX8_isRow_37 (Nat.zero_le _) (Nat.zero_le _) (⟨pI (bI_t (by rw [md_hr, bI_n1 c1, bI_n1 c2, e, e2, decide_eq_true c3]; rfl)), rfl⟩)
def md_hc (hi : Nat → Nat → Int32) (x c : Int32) : Bool := md_ht hi x && decide (0 ≤ c ∧ c < hi 46 (cl x))
set_option maxHeartbeats 4000000 in
set_option maxRecDepth 100000 in
theorem c_X8_isColumn (G : dk_G) (sr : Nat → Option Nat) (hi : Nat → Nat → Int32) (hf : Nat → Nat → UInt32) (z : (Nat → Nat → Int64) × (Nat → Nat → UInt64)) (x c : Int32) :
    dk_MF G yX8_isColumn cX8_isColumn 3 (some .boolean) 2 43 [.ref 45, .int x, .int c] (hi, hf, dk_RF sr, z) (some (.int (bI (md_hc hi x c)))) (hi, hf, dk_RF sr, z) := by
  refine dk_met (L := [some (.ref 45), some (.int x), some (.int c)]) pnX8 rfl (Nat.le_of_ble_eq_true rfl) ?_
  intro X C E hNm
  refine dk_aload_n C dX8_isColumn_0 rfl rfl ?_
  refine dk_iload_n C dX8_isColumn_1 rfl rfl ?_
  refine ek_callV C mX8_67 (c_X8_isTable _ _ _ _ _ x) rfl (by decide) rfl rfl (Nat.le_of_ble_eq_true rfl) (by decide) (by decide) (Nat.zero_le _) (Nat.zero_le _) dX8_isColumn_2 ?_
  refine dk_if_eq C 28 dX8_isColumn_5 (by decide) (fun c1 => ?_) (fun c1 => ?_)
  · refine dk_iconst C (0) dX8_isColumn_28 rfl ?_
    exact dk_zret C E rfl dX8_isColumn_29 (Nat.zero_le _) (Nat.zero_le _) (⟨pI (bI_f (by rw [md_hc, bI_n0 c1]; rfl)), rfl⟩)
  · obtain ⟨j, hj, rfl, e, h0⟩ := md_ht_1 (bI_n1 c1)
    have el : decide (0 ≤ c ∧ c ≤ hi 46 j - 1) = decide (0 ≤ c ∧ c < hi 46 j) := by
      congr 1
      rw [le_sub1 (Int32.le_of_lt h0)]
    refine dk_iload_n C dX8_isColumn_8 rfl rfl ?_
    refine dk_iconst C (0) dX8_isColumn_9 rfl ?_
    refine dk_aload_n C dX8_isColumn_10 rfl rfl ?_
    refine ek_getR C fX8_7 rfl (by decide) rfl 46 rfl dX8_isColumn_11 ?_
    refine dk_iload_n C dX8_isColumn_14 rfl rfl ?_
    refine ek_iald C rfl (by decide) (j) (rfl) (hj) (by decide) dX8_isColumn_15 ?_
    refine dk_iconst C (1) dX8_isColumn_16 rfl ?_
    refine dk_isub C dX8_isColumn_17 ?_
    refine ek_callS C mX8_63 (c_X8_in _ _ _ _ _ c 0 (hi 46 j - 1)) rfl rfl (Nat.le_of_ble_eq_true rfl) (by decide) (by decide) (Nat.zero_le _) (Nat.zero_le _) dX8_isColumn_18 ?_
    rw [el]
    refine dk_if_eq C 28 dX8_isColumn_21 (by decide) (fun c2 => ?_) (fun c2 => ?_)
    · refine dk_iconst C (0) dX8_isColumn_28 rfl ?_
      exact dk_zret C E rfl dX8_isColumn_29 (Nat.zero_le _) (Nat.zero_le _) (⟨pI (bI_f (by rw [md_hc, e, bI_n0 c2, Bool.and_false])), rfl⟩)
    · refine dk_iconst C (1) dX8_isColumn_24 rfl ?_
      refine dk_goto C 29 dX8_isColumn_25 (by decide) ?_
      exact dk_zret C E rfl dX8_isColumn_29 (Nat.zero_le _) (Nat.zero_le _) (⟨pI (bI_t (by rw [md_hc, e, bI_n1 c1, bI_n1 c2]; rfl)), rfl⟩)
/-- the rows of the model's table j: n of them, in the order of their numbers -/
def mE (hi : Nat → Nat → Int32) (j n : Nat) (E : Nat → Nat) : Prop := (∀ p q, p < q → q < n → E p < E q) ∧ (∀ p, p < n → E p < 60) ∧ (∀ r, r < 60 → (hi 48 (60 * j + r) ≠ 0 ↔ ∃ p, p < n ∧ E p = r)) ∧ n ≤ 24
/-- m of the rows are below r -/
def mP (E : Nat → Nat) (n r m : Nat) : Prop := m ≤ n ∧ (∀ p, p < m → E p < r) ∧ ∀ p, m ≤ p → p < n → r ≤ E p
theorem mP_0 (E : Nat → Nat) (n : Nat) : mP E n 0 0 := ⟨Nat.zero_le _, fun p h => by omega, fun p _ _ => Nat.zero_le _⟩
theorem mE.yes {hi : Nat → Nat → Int32} {j n : Nat} {E : Nat → Nat} (h : mE hi j n E) {r m : Nat} (hp : mP E n r m) (hr : r < 60) (ht : ¬ hi 48 (60 * j + r) = 0) : m < n ∧ E m = r ∧ mP E n (r + 1) (m + 1) := by
  obtain ⟨p, h1, h2⟩ := (h.2.2.1 r hr).mp ht
  have h3 : m ≤ p := Nat.not_lt.mp fun q => by have := hp.2.1 p q; omega
  have h4 : p = m := by
    rcases Nat.lt_or_eq_of_le h3 with q | q
    · have := h.1 m p q h1
      have := hp.2.2 m (Nat.le_refl _) (by omega)
      omega
    · exact q.symm
  subst h4
  refine ⟨h1, h2, by omega, fun q hq => ?_, fun q h5 h6 => ?_⟩
  · rcases Nat.lt_or_eq_of_le (Nat.le_of_lt_succ hq) with z | z
    · exact Nat.lt_succ_of_lt (hp.2.1 q z)
    · rw [z, h2]; omega
  · have := h.1 p q (by omega) h6
    omega
theorem mE.no {hi : Nat → Nat → Int32} {j n : Nat} {E : Nat → Nat} (h : mE hi j n E) {r m : Nat} (hp : mP E n r m) (hr : r < 60) (ht : hi 48 (60 * j + r) = 0) : mP E n (r + 1) m := by
  refine ⟨hp.1, fun p q => Nat.lt_succ_of_lt (hp.2.1 p q), fun p h5 h6 => ?_⟩
  rcases Nat.lt_or_eq_of_le (hp.2.2 p h5 h6) with q | q
  · exact q
  · exact absurd ht ((h.2.2.1 r hr).mpr ⟨p, h6, q.symm⟩)
theorem mE.end {hi : Nat → Nat → Int32} {j n : Nat} {E : Nat → Nat} (h : mE hi j n E) {m : Nat} (hp : mP E n 60 m) : m = n := by
  rcases Nat.lt_or_eq_of_le hp.1 with q | q
  · have := hp.2.2 m (Nat.le_refl _) q
    have := h.2.1 m q
    omega
  · exact q
set_option maxHeartbeats 4000000 in
set_option maxRecDepth 100000 in
theorem c_X8_rowsOf (G : dk_G) (sr : Nat → Option Nat) (hi : Nat → Nat → Int32) (hf : Nat → Nat → UInt32) (z : (Nat → Nat → Int64) × (Nat → Nat → UInt64)) (j n : Nat) (en : Nat → Nat) (hj : j < 3) (hE : mE hi j n en) :
    dk_MF G yX8_rowsOf cX8_rowsOf 4 (some .int) 0 0 [.ref 45, .int (nI j)] (hi, hf, dk_RF sr, z) (some (.int (nI n))) (hi, hf, dk_RF sr, z) := by
  refine dk_met (L := [some (.ref 45), some (.int (nI j)), none, none]) pnX8 rfl (Nat.le_of_ble_eq_true rfl) ?_
  intro X C E hNm
  have loop : ∀ r p m, p + r = 60 → mP en n p m → dk_W X 4 [some (.ref 45), some (.int (nI j)), some (.int (nI m)), some (.int (nI p))] [] 63 (hi, hf, dk_RF sr, z) 0 0 := by
    intro r
    induction r with
    | zero =>
      intro p m hp hm
      obtain rfl : p = 60 := by omega
      obtain rfl := hE.end hm
      refine dk_iload_n C dX8_rowsOf_4 rfl rfl ?_
      refine dk_bipush C (60) dX8_rowsOf_5 rfl ?_
      refine dk_icmp_ge C 38 dX8_rowsOf_7 (by decide) (fun _ => ?_) (fun hz => absurd (by decide) hz)
      refine dk_iload_n C dX8_rowsOf_38 rfl rfl ?_
      exact dk_iret C E dX8_rowsOf_39 (Nat.zero_le _) (Nat.zero_le _) (⟨rfl, rfl⟩)
    | succ r ih =>
      intro p m hp hm
      refine dk_iload_n C dX8_rowsOf_4 rfl rfl ?_
      refine dk_bipush C (60) dX8_rowsOf_5 rfl ?_
      refine dk_icmp_ge C 38 dX8_rowsOf_7 (by decide) (fun hz => absurd hz (nI_ge (b := 60) (by omega) (by omega))) (fun _ => ?_)
      refine dk_iload_n C dX8_rowsOf_10 rfl rfl ?_
      refine dk_aload_n C dX8_rowsOf_11 rfl rfl ?_
      refine ek_getR C fX8_16 rfl (by decide) rfl 48 rfl dX8_rowsOf_12 ?_
      refine dk_bipush C (60) dX8_rowsOf_15 rfl ?_
      refine dk_iload_n C dX8_rowsOf_17 rfl rfl ?_
      refine dk_imul C dX8_rowsOf_18 ?_
      refine dk_iload_n C dX8_rowsOf_19 rfl rfl ?_
      refine dk_iadd C dX8_rowsOf_20 ?_
      refine ek_zald C rfl (by decide) (60 * j + p) (mI60 j p) (by omega) (by decide) dX8_rowsOf_21 ?_
      refine dk_if_eq C 29 dX8_rowsOf_22 (by decide) (fun c1 => ?_) (fun c1 => ?_)
      · refine dk_iconst C (0) dX8_rowsOf_29 rfl ?_
        refine dk_iadd C dX8_rowsOf_30 ?_
        refine dk_istore_n C dX8_rowsOf_31 rfl (by decide) rfl ?_
        refine dk_iinc C (nI (p + 1)) dX8_rowsOf_32 rfl (nI_1 p) (by decide) rfl ?_
        refine dk_goto C 4 dX8_rowsOf_35 (by decide) ?_
        have e : nI m + 0 = nI m := by rw [show (0 : Int32) = nI 0 from rfl, nI_add]; rfl
        rw [e]
        exact ih (p + 1) m (by omega) (hE.no hm (by omega) c1)
      · refine dk_iconst C (1) dX8_rowsOf_25 rfl ?_
        refine dk_goto C 30 dX8_rowsOf_26 (by decide) ?_
        refine dk_iadd C dX8_rowsOf_30 ?_
        refine dk_istore_n C dX8_rowsOf_31 rfl (by decide) rfl ?_
        refine dk_iinc C (nI (p + 1)) dX8_rowsOf_32 rfl (nI_1 p) (by decide) rfl ?_
        refine dk_goto C 4 dX8_rowsOf_35 (by decide) ?_
        have e : nI m + 1 = nI (m + 1) := nI_1 m
        rw [e]
        exact ih (p + 1) (m + 1) (by omega) (hE.yes hm (by omega) c1).2.2
  refine dk_iconst C (0) dX8_rowsOf_0 rfl ?_
  refine dk_istore_n C dX8_rowsOf_1 rfl (by decide) rfl ?_
  refine dk_iconst C (0) dX8_rowsOf_2 rfl ?_
  refine dk_istore_n C dX8_rowsOf_3 rfl (by decide) rfl ?_
  exact loop 60 0 0 (by omega) (mP_0 en n)
set_option maxHeartbeats 4000000 in
set_option maxRecDepth 100000 in
theorem c_X8_get (G : dk_G) (sr : Nat → Option Nat) (hi : Nat → Nat → Int32) (hf : Nat → Nat → UInt32) (z : (Nat → Nat → Int64) × (Nat → Nat → UInt64)) (j r c : Nat) (hj : j < 3) (hr : r < 60) (hc : c < 4) :
    dk_MF G yX8_get cX8_get 4 (some .int) 0 0 [.ref 45, .int (nI j), .int (nI r), .int (nI c)] (hi, hf, dk_RF sr, z) (some (.int (hi 49 (240 * j + 4 * r + c)))) (hi, hf, dk_RF sr, z) := by
  refine dk_met (L := [some (.ref 45), some (.int (nI j)), some (.int (nI r)), some (.int (nI c))]) pnX8 rfl (Nat.le_of_ble_eq_true rfl) ?_
  intro X C E hNm
  refine dk_aload_n C dX8_get_0 rfl rfl ?_
  refine ek_getR C fX8_20 rfl (by decide) rfl 49 rfl dX8_get_1 ?_
  refine dk_sipush C (240) dX8_get_4 rfl ?_
  refine dk_iload_n C dX8_get_7 rfl rfl ?_
  refine dk_imul C dX8_get_8 ?_
  refine dk_iconst C (4) dX8_get_9 rfl ?_
  refine dk_iload_n C dX8_get_10 rfl rfl ?_
  refine dk_imul C dX8_get_11 ?_
  refine dk_iadd C dX8_get_12 ?_
  refine dk_iload_n C dX8_get_13 rfl rfl ?_
  refine dk_iadd C dX8_get_14 ?_
  refine ek_iald C rfl (by decide) (240 * j + 4 * r + c) (mI240 j r c) (by omega) (by decide) dX8_get_15 ?_
  exact dk_iret C E dX8_get_16 (Nat.zero_le _) (Nat.zero_le _) (⟨rfl, rfl⟩)
def md_chg (hi : Nat → Nat → Int32) : Nat → Nat → Int32 := dk_up hi 45 6 (if hi 45 6 = 1 then 3 else hi 45 6)
set_option maxHeartbeats 4000000 in
set_option maxRecDepth 100000 in
theorem c_X8_changed (G : dk_G) (sr : Nat → Option Nat) (hi : Nat → Nat → Int32) (hf : Nat → Nat → UInt32) (z : (Nat → Nat → Int64) × (Nat → Nat → UInt64))  :
    dk_MF G yX8_changed cX8_changed 1 none 0 0 [.ref 45] (hi, hf, dk_RF sr, z) (none) (md_chg hi, hf, dk_RF sr, z) := by
  refine dk_met (L := [some (.ref 45)]) pnX8 rfl (Nat.le_of_ble_eq_true rfl) ?_
  intro X C E hNm
  refine dk_aload_n C dX8_changed_0 rfl rfl ?_
  refine dk_aload_n C dX8_changed_1 rfl rfl ?_
  refine ek_getI C fX8_71 rfl (by decide) rfl dX8_changed_2 ?_
  refine dk_iconst C (1) dX8_changed_5 rfl ?_
  refine dk_icmp_ne C 13 dX8_changed_6 (by decide) (fun c1 => ?_) (fun c1 => ?_)
  · refine dk_aload_n C dX8_changed_13 rfl rfl ?_
    refine ek_getI C fX8_71 rfl (by decide) rfl dX8_changed_14 ?_
    refine ek_putI C fX8_71 fwX8_6 rfl (by decide) rfl dX8_changed_17 ?_
    exact dk_vret C E dX8_changed_20 (Nat.zero_le _) (Nat.zero_le _) (⟨rfl, by rw [md_chg, if_neg c1]⟩)
  · refine dk_iconst C (3) dX8_changed_9 rfl ?_
    refine dk_goto C 17 dX8_changed_10 (by decide) ?_
    refine ek_putI C fX8_71 fwX8_6 rfl (by decide) rfl dX8_changed_17 ?_
    exact dk_vret C E dX8_changed_20 (Nat.zero_le _) (Nat.zero_le _) (⟨rfl, by rw [md_chg, if_pos c1]⟩)
def md_empty (hi : Nat → Nat → Int32) : Nat → Nat → Int32 := dk_up (dk_up (dk_up (dk_up (dk_up (dk_up (dk_up (dk_up (dk_up (dk_up hi 45 6 0) 45 7 0) 45 9 0) 45 11 0) 45 13 0) 45 15 (-1)) 45 16 0) 45 17 64) 45 27 0) 45 28 0
set_option maxHeartbeats 4000000 in
set_option maxRecDepth 100000 in
theorem c_X8_empty (G : dk_G) (sr : Nat → Option Nat) (hi : Nat → Nat → Int32) (hf : Nat → Nat → UInt32) (z : (Nat → Nat → Int64) × (Nat → Nat → UInt64))  :
    dk_MF G yX8_empty cX8_empty 1 none 0 0 [.ref 45] (hi, hf, dk_RF sr, z) (none) (md_empty hi, hf, dk_RF sr, z) := by
  refine dk_met (L := [some (.ref 45)]) pnX8 rfl (Nat.le_of_ble_eq_true rfl) ?_
  intro X C E hNm
  refine dk_aload_n C dX8_empty_0 rfl rfl ?_
  refine dk_iconst C (0) dX8_empty_1 rfl ?_
  refine ek_putI C fX8_71 fwX8_6 rfl (by decide) rfl dX8_empty_2 ?_
  refine dk_aload_n C dX8_empty_5 rfl rfl ?_
  refine dk_iconst C (0) dX8_empty_6 rfl ?_
  refine ek_putI C fX8_96 fwX8_7 rfl (by decide) rfl dX8_empty_7 ?_
  refine dk_aload_n C dX8_empty_10 rfl rfl ?_
  refine dk_iconst C (0) dX8_empty_11 rfl ?_
  refine ek_putI C fX8_99 fwX8_9 rfl (by decide) rfl dX8_empty_12 ?_
  refine dk_aload_n C dX8_empty_15 rfl rfl ?_
  refine dk_iconst C (0) dX8_empty_16 rfl ?_
  refine ek_putI C fX8_102 fwX8_11 rfl (by decide) rfl dX8_empty_17 ?_
  refine dk_aload_n C dX8_empty_20 rfl rfl ?_
  refine dk_iconst C (0) dX8_empty_21 rfl ?_
  refine ek_putI C fX8_105 fwX8_13 rfl (by decide) rfl dX8_empty_22 ?_
  refine dk_aload_n C dX8_empty_25 rfl rfl ?_
  refine dk_iconst C (-1) dX8_empty_26 rfl ?_
  refine ek_putI C fX8_108 fwX8_15 rfl (by decide) rfl dX8_empty_27 ?_
  refine dk_aload_n C dX8_empty_30 rfl rfl ?_
  refine dk_iconst C (0) dX8_empty_31 rfl ?_
  refine ek_putZ C fX8_111 fwX8_16 rfl (by decide) rfl (Or.inl rfl) dX8_empty_32 ?_
  refine dk_aload_n C dX8_empty_35 rfl rfl ?_
  refine dk_bipush C (64) dX8_empty_36 rfl ?_
  refine ek_putI C fX8_115 fwX8_17 rfl (by decide) rfl dX8_empty_38 ?_
  refine dk_aload_n C dX8_empty_41 rfl rfl ?_
  refine dk_iconst C (0) dX8_empty_42 rfl ?_
  refine ek_putI C fX8_118 fwX8_27 rfl (by decide) rfl dX8_empty_43 ?_
  refine dk_aload_n C dX8_empty_46 rfl rfl ?_
  refine dk_iconst C (0) dX8_empty_47 rfl ?_
  refine ek_putI C fX8_121 fwX8_28 rfl (by decide) rfl dX8_empty_48 ?_
  exact dk_vret C E dX8_empty_51 (Nat.zero_le _) (Nat.zero_le _) (⟨rfl, rfl⟩)
set_option maxHeartbeats 4000000 in
set_option maxRecDepth 100000 in
theorem c_X8_ask (G : dk_G) (sr : Nat → Option Nat) (hi : Nat → Nat → Int32) (hf : Nat → Nat → UInt32) (z : (Nat → Nat → Int64) × (Nat → Nat → UInt64))  :
    dk_MF G yX8_ask cX8_ask 1 none 1 20 [.ref 45] (hi, hf, dk_RF sr, z) (none) (md_empty (dk_up hi 45 0 0), hf, dk_RF sr, z) := by
  refine dk_met (L := [some (.ref 45)]) pnX8 rfl (Nat.le_of_ble_eq_true rfl) ?_
  intro X C E hNm
  refine dk_aload_n C dX8_ask_0 rfl rfl ?_
  refine dk_iconst C (0) dX8_ask_1 rfl ?_
  refine ek_putI C fX8_59 fwX8_0 rfl (by decide) rfl dX8_ask_2 ?_
  refine dk_aload_n C dX8_ask_5 rfl rfl ?_
  refine ek_callVv C mX8_56 (c_X8_empty _ _ _ _ _) rfl (by decide) rfl rfl (Nat.le_of_ble_eq_true rfl) (by decide) (by decide) (Nat.zero_le _) (Nat.zero_le _) dX8_ask_6 ?_
  exact dk_vret C E dX8_ask_9 (Nat.zero_le _) (Nat.zero_le _) (⟨rfl, rfl⟩)
/-- the heap but for a run of equal ints from b on -/
def dk_fr (hi : Nat → Nat → Int32) (a b k : Nat) (x : Int32) : Nat → Nat → Int32 := fun i j => if i = a ∧ b ≤ j ∧ j < b + k then x else hi i j
theorem dk_fr_0 (hi : Nat → Nat → Int32) (a b : Nat) (x : Int32) : dk_fr hi a b 0 x = hi := by
  funext i j
  unfold dk_fr
  rw [if_neg (by omega)]
theorem dk_fr_s (hi : Nat → Nat → Int32) (a b k : Nat) (x : Int32) : dk_up (dk_fr hi a b k x) a (b + k) x = dk_fr hi a b (k + 1) x := by
  funext i j
  simp only [dk_up, dk_fr]
  by_cases h1 : i = a ∧ j = b + k
  · rw [if_pos h1, if_pos (by omega)]
  · rw [if_neg h1]
    by_cases h3 : i = a ∧ b ≤ j ∧ j < b + k
    · rw [if_pos h3, if_pos (by omega)]
    · rw [if_neg h3, if_neg (by omega)]
def md_anew (hi : Nat → Nat → Int32) (j : Nat) (c : Int32) : Nat → Nat → Int32 := dk_fr (dk_fr (dk_up (dk_up hi 46 j c) 47 j 0) 48 (60 * j) 60 0) 50 (8 * j) 8 0
set_option maxHeartbeats 4000000 in
set_option maxRecDepth 100000 in
theorem c_X8_create (G : dk_G) (sr : Nat → Option Nat) (hi : Nat → Nat → Int32) (hf : Nat → Nat → UInt32) (z : (Nat → Nat → Int64) × (Nat → Nat → UInt64)) (x c : Int32) :
    dk_MF G yX8_create cX8_create 4 (some .boolean) 1 22 [.ref 45, .int x, .int c] (hi, hf, dk_RF sr, z) (some (.int (bI (cr_ok x c)))) (if cr_ok x c = true then md_empty (md_anew (dk_up hi 45 0 0) (cl x) c) else dk_up hi 45 0 0, hf, dk_RF sr, z) := by
  refine dk_met (L := [some (.ref 45), some (.int x), some (.int c), none]) pnX8 rfl (Nat.le_of_ble_eq_true rfl) ?_
  intro X C E hNm
  have no : cr_ok x c = false → dk_W X 23 [some (.ref 45), some (.int x), some (.int c), none] [] 63 (dk_up hi 45 0 0, hf, dk_RF sr, z) 0 0 := by
    intro e
    refine dk_iconst C (0) dX8_create_23 rfl ?_
    exact dk_zret C E rfl dX8_create_24 (Nat.zero_le _) (Nat.zero_le _) (⟨pI (bI_f e), by rw [e]; rfl⟩)
  refine dk_aload_n C dX8_create_0 rfl rfl ?_
  refine dk_iconst C (0) dX8_create_1 rfl ?_
  refine ek_putI C fX8_59 fwX8_0 rfl (by decide) rfl dX8_create_2 ?_
  refine dk_iload_n C dX8_create_5 rfl rfl ?_
  refine dk_iconst C (0) dX8_create_6 rfl ?_
  refine dk_iconst C (2) dX8_create_7 rfl ?_
  refine ek_callS C mX8_63 (c_X8_in _ _ _ _ _ x 0 2) rfl rfl (Nat.le_of_ble_eq_true rfl) (by decide) (by decide) (Nat.zero_le _) (Nat.zero_le _) dX8_create_8 ?_
  refine dk_if_eq C 23 dX8_create_11 (by decide) (fun c1 => ?_) (fun c1 => ?_)
  · exact no (decide_eq_false (fun q => md_3f (bI_n0 c1) q.1))
  · obtain ⟨j, hj, rfl, e⟩ := md_3 (bI_n1 c1)
    refine dk_iload_n C dX8_create_14 rfl rfl ?_
    refine dk_iconst C (1) dX8_create_15 rfl ?_
    refine dk_iconst C (4) dX8_create_16 rfl ?_
    refine ek_callS C mX8_63 (c_X8_in _ _ _ _ _ c 1 4) rfl rfl (Nat.le_of_ble_eq_true rfl) (by decide) (by decide) (Nat.zero_le _) (Nat.zero_le _) dX8_create_17 ?_
    refine dk_if_ne C 25 dX8_create_20 (by decide) (fun c2 => ?_) (fun c2 => ?_)
    · have eo : cr_ok (nI j) c = true := decide_eq_true ⟨⟨nI_pos' (by omega), nI_lt (b := 3) hj (by decide)⟩, of_decide_eq_true (bI_n1 c2)⟩
      have loop2 : ∀ r p, p + r = 8 → dk_W X 67 [some (.ref 45), some (.int (nI j)), some (.int c), some (.int (nI p))] [] 63 (dk_fr (dk_fr (dk_up (dk_up (dk_up hi 45 0 0) 46 j c) 47 j 0) 48 (60 * j) 60 0) 50 (8 * j) p 0, hf, dk_RF sr, z) 0 0 := by
        intro r
        induction r with
        | zero =>
          intro p hp
          obtain rfl : p = 8 := by omega
          refine dk_iload_n C dX8_create_67 rfl rfl ?_
          refine dk_bipush C (8) dX8_create_68 rfl ?_
          refine dk_icmp_ge C 91 dX8_create_70 (by decide) (fun _ => ?_) (fun hz => absurd (by decide) hz)
          refine dk_aload_n C dX8_create_91 rfl rfl ?_
          refine ek_callVv C mX8_56 (c_X8_empty _ _ _ _ _) rfl (by decide) rfl rfl (Nat.le_of_ble_eq_true rfl) (by decide) (by decide) (Nat.zero_le _) (Nat.zero_le _) dX8_create_92 ?_
          refine dk_iconst C (1) dX8_create_95 rfl ?_
          exact dk_zret C E rfl dX8_create_96 (Nat.zero_le _) (Nat.zero_le _) (⟨pI (bI_t eo), by rw [if_pos eo, e, md_anew]⟩)
        | succ r ih =>
          intro p hp
          refine dk_iload_n C dX8_create_67 rfl rfl ?_
          refine dk_bipush C (8) dX8_create_68 rfl ?_
          refine dk_icmp_ge C 91 dX8_create_70 (by decide) (fun hz => absurd hz (nI_ge (b := 8) (by omega) (by omega))) (fun _ => ?_)
          refine dk_aload_n C dX8_create_73 rfl rfl ?_
          refine ek_getR C fX8_23 rfl (by decide) rfl 50 rfl dX8_create_74 ?_
          refine dk_bipush C (8) dX8_create_77 rfl ?_
          refine dk_iload_n C dX8_create_79 rfl rfl ?_
          refine dk_imul C dX8_create_80 ?_
          refine dk_iload_n C dX8_create_81 rfl rfl ?_
          refine dk_iadd C dX8_create_82 ?_
          refine dk_iconst C (0) dX8_create_83 rfl ?_
          refine ek_zast C rfl (by decide) (8 * j + p) (mI8 j p) (by omega) (by decide) (Or.inl rfl) dX8_create_84 ?_
          refine dk_iinc C (nI (p + 1)) dX8_create_85 rfl (nI_1 p) (by decide) rfl ?_
          refine dk_goto C 67 dX8_create_88 (by decide) ?_
          rw [dk_fr_s]
          exact ih (p + 1) (by omega)
      have loop1 : ∀ r p, p + r = 60 → dk_W X 41 [some (.ref 45), some (.int (nI j)), some (.int c), some (.int (nI p))] [] 63 (dk_fr (dk_up (dk_up (dk_up hi 45 0 0) 46 j c) 47 j 0) 48 (60 * j) p 0, hf, dk_RF sr, z) 0 0 := by
        intro r
        induction r with
        | zero =>
          intro p hp
          obtain rfl : p = 60 := by omega
          refine dk_iload_n C dX8_create_41 rfl rfl ?_
          refine dk_bipush C (60) dX8_create_42 rfl ?_
          refine dk_icmp_ge C 65 dX8_create_44 (by decide) (fun _ => ?_) (fun hz => absurd (by decide) hz)
          refine dk_iconst C (0) dX8_create_65 rfl ?_
          refine dk_istore_n C dX8_create_66 rfl (by decide) rfl ?_
          have h := loop2 8 0 (by omega)
          rw [dk_fr_0] at h
          exact h
        | succ r ih =>
          intro p hp
          refine dk_iload_n C dX8_create_41 rfl rfl ?_
          refine dk_bipush C (60) dX8_create_42 rfl ?_
          refine dk_icmp_ge C 65 dX8_create_44 (by decide) (fun hz => absurd hz (nI_ge (b := 60) (by omega) (by omega))) (fun _ => ?_)
          refine dk_aload_n C dX8_create_47 rfl rfl ?_
          refine ek_getR C fX8_16 rfl (by decide) rfl 48 rfl dX8_create_48 ?_
          refine dk_bipush C (60) dX8_create_51 rfl ?_
          refine dk_iload_n C dX8_create_53 rfl rfl ?_
          refine dk_imul C dX8_create_54 ?_
          refine dk_iload_n C dX8_create_55 rfl rfl ?_
          refine dk_iadd C dX8_create_56 ?_
          refine dk_iconst C (0) dX8_create_57 rfl ?_
          refine ek_zast C rfl (by decide) (60 * j + p) (mI60 j p) (by omega) (by decide) (Or.inl rfl) dX8_create_58 ?_
          refine dk_iinc C (nI (p + 1)) dX8_create_59 rfl (nI_1 p) (by decide) rfl ?_
          refine dk_goto C 41 dX8_create_62 (by decide) ?_
          rw [dk_fr_s]
          exact ih (p + 1) (by omega)
      refine dk_aload_n C dX8_create_25 rfl rfl ?_
      refine ek_getR C fX8_7 rfl (by decide) rfl 46 rfl dX8_create_26 ?_
      refine dk_iload_n C dX8_create_29 rfl rfl ?_
      refine dk_iload_n C dX8_create_30 rfl rfl ?_
      refine ek_iast C rfl (by decide) (j) (rfl) (hj) (by decide) dX8_create_31 ?_
      refine dk_aload_n C dX8_create_32 rfl rfl ?_
      refine ek_getR C fX8_13 rfl (by decide) rfl 47 rfl dX8_create_33 ?_
      refine dk_iload_n C dX8_create_36 rfl rfl ?_
      refine dk_iconst C (0) dX8_create_37 rfl ?_
      refine ek_iast C rfl (by decide) (j) (rfl) (hj) (by decide) dX8_create_38 ?_
      refine dk_iconst C (0) dX8_create_39 rfl ?_
      refine dk_istore_n C dX8_create_40 rfl (by decide) rfl ?_
      have h := loop1 60 0 (by omega)
      rw [dk_fr_0] at h
      exact h
    · have ef : decide ((1 : Int32) ≤ c ∧ c ≤ 4) = false := bI_n0 c2
      exact no (decide_eq_false (fun q => of_decide_eq_false ef q.2))
