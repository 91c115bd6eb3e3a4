/-! ===== QueryDesk: tables ===== -/
abbrev tcl (x : Int32) : Nat := 2 + 4 * cl x
/-- whether there is such a table, row, column -/
def dk_ht (hi : Nat → Nat → Int32) (x : Int32) : Bool := decide (0 ≤ x ∧ x < 3 ∧ 0 < hi (tcl x) 3)
def dk_pl (hi : Nat → Nat → Int32) (x r : Int32) : Int32 := tb_from (hi (tcl x + 1)) r (cl (hi (tcl x) 4)) 0
def dk_hr (hi : Nat → Nat → Int32) (x r : Int32) : Bool := dk_ht hi x && decide (dk_pl hi x r ≠ -1)
def dk_hc (hi : Nat → Nat → Int32) (x c : Int32) : Bool := dk_ht hi x && decide (0 ≤ c ∧ c < hi (tcl x) 3)
/-- the tables' rows are few -/
def tTT (hi : Nat → Nat → Int32) : Prop := ∀ j, j < 3 → ∃ n, n ≤ 24 ∧ hi (2 + 4 * j) 4 = nI n
theorem dk_ht_1 {hi : Nat → Nat → Int32} {x : Int32} (h : dk_ht hi x = true) : ∃ j, j < 3 ∧ x = nI j ∧ cl x = j ∧ 0 < hi (2 + 4 * j) 3 := by
  have h := of_decide_eq_true h
  obtain ⟨j, hj, rfl⟩ : ∃ j, j < 3 ∧ x = nI j := by
    rcases pk_ix x (n := 3) (by decide) with q | q | q
    · exact absurd h.1 (Int32.not_le.mpr q)
    · exact absurd h.2.1 (Int32.not_lt.mpr q)
    · exact q
  have e : cl (nI j) = j := cl_nI (by omega)
  refine ⟨j, hj, rfl, e, ?_⟩
  have := h.2.2
  rw [tcl, e] at this
  exact this
set_option maxHeartbeats 4000000 in
set_option maxRecDepth 100000 in
theorem c_X7_hasTable (G : dk_G) (sr : Nat → Option Nat) (hi : Nat → Nat → Int32) (hf : Nat → Nat → UInt32) (z : (Nat → Nat → Int64) × (Nat → Nat → UInt64)) (x : Int32) :
    dk_MF G yX7_hasTable cX7_hasTable 2 (some .boolean) 0 0 [.ref 0, .int x] (hi, hf, dk_RF sr, z) (some (.int (bI (dk_ht hi x)))) (hi, hf, dk_RF sr, z) := by
  refine dk_met (L := [some (.ref 0), some (.int x)]) pnX7 rfl (Nat.le_of_ble_eq_true rfl) ?_
  intro X C E hNm
  refine dk_iload_n C dX7_hasTable_0 rfl rfl ?_
  rcases pk_ix x (n := 3) (by decide) with h | h | ⟨j, hj, rfl⟩
  · refine dk_if_lt C 25 dX7_hasTable_1 (by decide) (fun _ => ?_) (fun hz => absurd (h) hz)
    refine dk_iconst C (0) dX7_hasTable_25 rfl ?_
    exact dk_zret C E rfl dX7_hasTable_26 (Nat.zero_le _) (Nat.zero_le _) (⟨pI (bI_f (decide_eq_false (fun q => Int32.not_le.mpr h q.1))), rfl⟩)
  · refine dk_if_lt C 25 dX7_hasTable_1 (by decide) (fun hz => absurd hz (Int32.not_lt.mpr (Int32.le_trans (by decide) h))) (fun _ => ?_)
    refine dk_iload_n C dX7_hasTable_4 rfl rfl ?_
    refine dk_iconst C (3) dX7_hasTable_5 rfl ?_
    refine dk_icmp_ge C 25 dX7_hasTable_6 (by decide) (fun _ => ?_) (fun hz => absurd (h) hz)
    refine dk_iconst C (0) dX7_hasTable_25 rfl ?_
    exact dk_zret C E rfl dX7_hasTable_26 (Nat.zero_le _) (Nat.zero_le _) (⟨pI (bI_f (decide_eq_false (fun q => Int32.not_lt.mpr h q.2.1))), rfl⟩)
  · have e : tcl (nI j) = 2 + 4 * j := by rw [tcl, cl_nI (by omega)]
    have T := dk_T1 hj
    refine dk_if_lt C 25 dX7_hasTable_1 (by decide) (fun hz => absurd hz (nI_pos (by omega))) (fun _ => ?_)
    refine dk_iload_n C dX7_hasTable_4 rfl rfl ?_
    refine dk_iconst C (3) dX7_hasTable_5 rfl ?_
    refine dk_icmp_ge C 25 dX7_hasTable_6 (by decide) (fun hz => absurd hz (nI_ge (b := 3) hj (by decide))) (fun _ => ?_)
    refine dk_aload_n C dX7_hasTable_9 rfl rfl ?_
    refine ek_getR C fX7_11 rfl (by decide) rfl 1 rfl dX7_hasTable_10 ?_
    refine dk_iload_n C dX7_hasTable_13 rfl rfl ?_
    refine ek_aald C rfl (by decide) (by decide) (j) (rfl) (hj) (by decide) (2 + 4 * j) (dk_RF1 sr hj) dX7_hasTable_14 ?_
    refine ek_getI C fX7_203 T.s0 T.l0 rfl dX7_hasTable_15 ?_
    refine dk_if_le C 25 dX7_hasTable_18 (by decide) (fun c1 => ?_) (fun c1 => ?_)
    · refine dk_iconst C (0) dX7_hasTable_25 rfl ?_
      exact dk_zret C E rfl dX7_hasTable_26 (Nat.zero_le _) (Nat.zero_le _) (⟨pI (bI_f (decide_eq_false (fun q => by rw [e] at q; exact Int32.not_le.mpr q.2.2 c1))), rfl⟩)
    · refine dk_iconst C (1) dX7_hasTable_21 rfl ?_
      refine dk_goto C 26 dX7_hasTable_22 (by decide) ?_
      exact dk_zret C E rfl dX7_hasTable_26 (Nat.zero_le _) (Nat.zero_le _) (⟨pI (bI_t (decide_eq_true ⟨nI_pos' (by omega), nI_lt (b := 3) hj (by decide), by rw [e]; exact Int32.not_le.mp c1⟩)), rfl⟩)
set_option maxHeartbeats 4000000 in
set_option maxRecDepth 100000 in
theorem c_X7_hasRow (G : dk_G) (sr : Nat → Option Nat) (hi : Nat → Nat → Int32) (hf : Nat → Nat → UInt32) (z : (Nat → Nat → Int64) × (Nat → Nat → UInt64)) (hT : tTT hi) (x r : Int32) :
    dk_MF G yX7_hasRow cX7_hasRow 3 (some .boolean) 1 22 [.ref 0, .int x, .int r] (hi, hf, dk_RF sr, z) (some (.int (bI (dk_hr hi x r)))) (hi, hf, dk_RF sr, z) := by
  refine dk_met (L := [some (.ref 0), some (.int x), some (.int r)]) pnX7 rfl (Nat.le_of_ble_eq_true rfl) ?_
  intro X C E hNm
  refine dk_aload_n C dX7_hasRow_0 rfl rfl ?_
  refine dk_iload_n C dX7_hasRow_1 rfl rfl ?_
  refine ek_callV C mX7_48 (c_X7_hasTable _ _ _ _ _ x) rfl (by decide) rfl rfl (Nat.le_of_ble_eq_true rfl) (by decide) (by decide) (Nat.zero_le _) (Nat.zero_le _) dX7_hasRow_2 ?_
  refine dk_if_eq C 26 dX7_hasRow_5 (by decide) (fun c1 => ?_) (fun c1 => ?_)
  · refine dk_iconst C (0) dX7_hasRow_26 rfl ?_
    exact dk_zret C E rfl dX7_hasRow_27 (Nat.zero_le _) (Nat.zero_le _) (⟨pI (bI_f (by rw [dk_hr, bI_n0 c1]; rfl)), rfl⟩)
  · obtain ⟨j, hj, rfl, e, h0⟩ := dk_ht_1 (bI_n1 c1)
    have T := dk_T1 hj
    obtain ⟨n, hn, en⟩ := hT j hj
    have ep : tb_from (hi (2 + 4 * j + 1)) r n 0 = dk_pl hi (nI j) r := by rw [dk_pl, tcl, e, en, cl_nI (by omega)]
    refine dk_aload_n C dX7_hasRow_8 rfl rfl ?_
    refine ek_getR C fX7_11 rfl (by decide) rfl 1 rfl dX7_hasRow_9 ?_
    refine dk_iload_n C dX7_hasRow_12 rfl rfl ?_
    refine ek_aald C rfl (by decide) (by decide) (j) (rfl) (hj) (by decide) (2 + 4 * j) (dk_RF1 sr hj) dX7_hasRow_13 ?_
    refine dk_iload_n C dX7_hasRow_14 rfl rfl ?_
    refine ek_callV C mX7_81 (c_X5_placeOf _ _ _ _ _ T r n en hn) T.s0 T.l0 rfl rfl (Nat.le_of_ble_eq_true rfl) (by decide) (by decide) (Nat.zero_le _) (Nat.zero_le _) dX7_hasRow_15 ?_
    rw [ep]
    refine dk_iconst C (-1) dX7_hasRow_18 rfl ?_
    refine dk_icmp_eq C 26 dX7_hasRow_19 (by decide) (fun c2 => ?_) (fun c2 => ?_)
    · refine dk_iconst C (0) dX7_hasRow_26 rfl ?_
      exact dk_zret C E rfl dX7_hasRow_27 (Nat.zero_le _) (Nat.zero_le _) (⟨pI (bI_f (by rw [dk_hr, bI_n1 c1, c2]; rfl)), rfl⟩)
    · refine dk_iconst C (1) dX7_hasRow_22 rfl ?_
      refine dk_goto C 27 dX7_hasRow_23 (by decide) ?_
      exact dk_zret C E rfl dX7_hasRow_27 (Nat.zero_le _) (Nat.zero_le _) (⟨pI (bI_t (by rw [dk_hr, bI_n1 c1, decide_eq_true c2]; rfl)), rfl⟩)
set_option maxHeartbeats 4000000 in
set_option maxRecDepth 100000 in
theorem c_X7_hasColumn (G : dk_G) (sr : Nat → Option Nat) (hi : Nat → Nat → Int32) (hf : Nat → Nat → UInt32) (z : (Nat → Nat → Int64) × (Nat → Nat → UInt64)) (x c : Int32) :
    dk_MF G yX7_hasColumn cX7_hasColumn 3 (some .boolean) 1 21 [.ref 0, .int x, .int c] (hi, hf, dk_RF sr, z) (some (.int (bI (dk_hc hi x c)))) (hi, hf, dk_RF sr, z) := by
  refine dk_met (L := [some (.ref 0), some (.int x), some (.int c)]) pnX7 rfl (Nat.le_of_ble_eq_true rfl) ?_
  intro X C E hNm
  refine dk_aload_n C dX7_hasColumn_0 rfl rfl ?_
  refine dk_iload_n C dX7_hasColumn_1 rfl rfl ?_
  refine ek_callV C mX7_48 (c_X7_hasTable _ _ _ _ _ x) rfl (by decide) rfl rfl (Nat.le_of_ble_eq_true rfl) (by decide) (by decide) (Nat.zero_le _) (Nat.zero_le _) dX7_hasColumn_2 ?_
  refine dk_if_eq C 25 dX7_hasColumn_5 (by decide) (fun c1 => ?_) (fun c1 => ?_)
  · refine dk_iconst C (0) dX7_hasColumn_25 rfl ?_
    exact dk_zret C E rfl dX7_hasColumn_26 (Nat.zero_le _) (Nat.zero_le _) (⟨pI (bI_f (by rw [dk_hc, bI_n0 c1]; rfl)), rfl⟩)
  · obtain ⟨j, hj, rfl, e, h0⟩ := dk_ht_1 (bI_n1 c1)
    have T := dk_T1 hj
    refine dk_aload_n C dX7_hasColumn_8 rfl rfl ?_
    refine ek_getR C fX7_11 rfl (by decide) rfl 1 rfl dX7_hasColumn_9 ?_
    refine dk_iload_n C dX7_hasColumn_12 rfl rfl ?_
    refine ek_aald C rfl (by decide) (by decide) (j) (rfl) (hj) (by decide) (2 + 4 * j) (dk_RF1 sr hj) dX7_hasColumn_13 ?_
    refine dk_iload_n C dX7_hasColumn_14 rfl rfl ?_
    refine ek_callV C mX7_206 (c_X5_hasColumn _ _ _ _ _ T c) T.s0 T.l0 rfl rfl (Nat.le_of_ble_eq_true rfl) (by decide) (by decide) (Nat.zero_le _) (Nat.zero_le _) dX7_hasColumn_15 ?_
    refine dk_if_eq C 25 dX7_hasColumn_18 (by decide) (fun c2 => ?_) (fun c2 => ?_)
    · refine dk_iconst C (0) dX7_hasColumn_25 rfl ?_
      exact dk_zret C E rfl dX7_hasColumn_26 (Nat.zero_le _) (Nat.zero_le _) (⟨pI (bI_f (by rw [dk_hc, bI_n1 c1, tcl, e, decide_eq_false (fun q => by rw [if_pos q] at c2; exact absurd c2 (by decide))]; rfl)), rfl⟩)
    · refine dk_iconst C (1) dX7_hasColumn_21 rfl ?_
      refine dk_goto C 26 dX7_hasColumn_22 (by decide) ?_
      exact dk_zret C E rfl dX7_hasColumn_26 (Nat.zero_le _) (Nat.zero_le _) (⟨pI (bI_t (by rw [dk_hc, bI_n1 c1, tcl, e, decide_eq_true (Classical.byContradiction fun q => c2 (by rw [if_neg q]))]; rfl)), rfl⟩)
set_option maxHeartbeats 4000000 in
set_option maxRecDepth 100000 in
theorem c_X7_isKind (G : dk_G) (sr : Nat → Option Nat) (hi : Nat → Nat → Int32) (hf : Nat → Nat → UInt32) (z : (Nat → Nat → Int64) × (Nat → Nat → UInt64)) (x : Int32) :
    dk_MF G yX7_isKind cX7_isKind 1 (some .boolean) 0 0 [.int x] (hi, hf, dk_RF sr, z) (some (.int (bI (decide (x = 0 ∨ x = 1))))) (hi, hf, dk_RF sr, z) := by
  refine dk_met (L := [some (.int x)]) pnX7 rfl (Nat.le_of_ble_eq_true rfl) ?_
  intro X C E hNm
  refine dk_iload_n C dX7_isKind_0 rfl rfl ?_
  refine dk_if_eq C 9 dX7_isKind_1 (by decide) (fun c1 => ?_) (fun c1 => ?_)
  · refine dk_iconst C (1) dX7_isKind_9 rfl ?_
    refine dk_goto C 14 dX7_isKind_10 (by decide) ?_
    exact dk_zret C E rfl dX7_isKind_14 (Nat.zero_le _) (Nat.zero_le _) (⟨pI (bI_t (by simp [c1])), rfl⟩)
  · refine dk_iload_n C dX7_isKind_4 rfl rfl ?_
    refine dk_iconst C (1) dX7_isKind_5 rfl ?_
    refine dk_icmp_ne C 13 dX7_isKind_6 (by decide) (fun c2 => ?_) (fun c2 => ?_)
    · refine dk_iconst C (0) dX7_isKind_13 rfl ?_
      exact dk_zret C E rfl dX7_isKind_14 (Nat.zero_le _) (Nat.zero_le _) (⟨pI (bI_f (by simp [c1, c2])), rfl⟩)
    · refine dk_iconst C (1) dX7_isKind_9 rfl ?_
      refine dk_goto C 14 dX7_isKind_10 (by decide) ?_
      exact dk_zret C E rfl dX7_isKind_14 (Nat.zero_le _) (Nat.zero_le _) (⟨pI (bI_t (by simp [c2])), rfl⟩)
def dk_begin (hi : Nat → Nat → Int32) : Nat → Nat → Int32 := dk_up (wk_clear (qu_clear hi)) 0 4 0
set_option maxHeartbeats 4000000 in
set_option maxRecDepth 100000 in
theorem c_X7_beginQuestion (G : dk_G) (sr : Nat → Option Nat) (hi : Nat → Nat → Int32) (hf : Nat → Nat → UInt32) (z : (Nat → Nat → Int64) × (Nat → Nat → UInt64))  :
    dk_MF G yX7_beginQuestion cX7_beginQuestion 1 none 1 20 [.ref 0] (hi, hf, dk_RF sr, z) (none) (dk_begin hi, hf, dk_RF sr, z) := by
  refine dk_met (L := [some (.ref 0)]) pnX7 rfl (Nat.le_of_ble_eq_true rfl) ?_
  intro X C E hNm
  refine dk_aload_n C dX7_beginQuestion_0 rfl rfl ?_
  refine ek_getR C fX7_19 rfl (by decide) rfl 14 rfl dX7_beginQuestion_1 ?_
  refine ek_callVv C mX7_208 (c_X4_clear _ _ _ _ _) rfl (by decide) rfl rfl (Nat.le_of_ble_eq_true rfl) (by decide) (by decide) (Nat.zero_le _) (Nat.zero_le _) dX7_beginQuestion_4 ?_
  refine dk_aload_n C dX7_beginQuestion_7 rfl rfl ?_
  refine ek_getR C fX7_33 rfl (by decide) rfl 38 rfl dX7_beginQuestion_8 ?_
  refine ek_callVv C mX7_211 (c_X6_clear _ _ _ _ _) rfl (by decide) rfl rfl (Nat.le_of_ble_eq_true rfl) (by decide) (by decide) (Nat.zero_le _) (Nat.zero_le _) dX7_beginQuestion_11 ?_
  refine dk_aload_n C dX7_beginQuestion_14 rfl rfl ?_
  refine dk_iconst C (0) dX7_beginQuestion_15 rfl ?_
  refine ek_putI C fX7_37 fwX7_4 rfl (by decide) rfl dX7_beginQuestion_16 ?_
  exact dk_vret C E dX7_beginQuestion_19 (Nat.zero_le _) (Nat.zero_le _) (⟨rfl, rfl⟩)
def dk_end (hi : Nat → Nat → Int32) : Nat → Nat → Int32 := if hi 0 4 = 1 then dk_up hi 0 4 3 else hi
theorem dk_end_ne {hi : Nat → Nat → Int32} {i j : Nat} (h : i ≠ 0) : dk_end hi i j = hi i j := by
  unfold dk_end
  split
  · exact dk_up_ne _ _ (Or.inl h)
  · rfl
set_option maxHeartbeats 4000000 in
set_option maxRecDepth 100000 in
theorem c_X7_endQuestion (G : dk_G) (sr : Nat → Option Nat) (hi : Nat → Nat → Int32) (hf : Nat → Nat → UInt32) (z : (Nat → Nat → Int64) × (Nat → Nat → UInt64))  :
    dk_MF G yX7_endQuestion cX7_endQuestion 1 none 0 0 [.ref 0] (hi, hf, dk_RF sr, z) (none) (dk_end hi, hf, dk_RF sr, z) := by
  refine dk_met (L := [some (.ref 0)]) pnX7 rfl (Nat.le_of_ble_eq_true rfl) ?_
  intro X C E hNm
  refine dk_aload_n C dX7_endQuestion_0 rfl rfl ?_
  refine ek_getI C fX7_37 rfl (by decide) rfl dX7_endQuestion_1 ?_
  refine dk_iconst C (1) dX7_endQuestion_4 rfl ?_
  refine dk_icmp_ne C 13 dX7_endQuestion_5 (by decide) (fun c1 => ?_) (fun c1 => ?_)
  · exact dk_vret C E dX7_endQuestion_13 (Nat.zero_le _) (Nat.zero_le _) (⟨rfl, by rw [dk_end, if_neg c1]⟩)
  · refine dk_aload_n C dX7_endQuestion_8 rfl rfl ?_
    refine dk_iconst C (3) dX7_endQuestion_9 rfl ?_
    refine ek_putI C fX7_37 fwX7_4 rfl (by decide) rfl dX7_endQuestion_10 ?_
    exact dk_vret C E dX7_endQuestion_13 (Nat.zero_le _) (Nat.zero_le _) (⟨rfl, by rw [dk_end, if_pos c1]⟩)
set_option maxHeartbeats 4000000 in
set_option maxRecDepth 100000 in
theorem c_X7_givenAnswers (G : dk_G) (sr : Nat → Option Nat) (hi : Nat → Nat → Int32) (hf : Nat → Nat → UInt32) (z : (Nat → Nat → Int64) × (Nat → Nat → UInt64))  :
    dk_MF G yX7_givenAnswers cX7_givenAnswers 1 (some .int) 1 21 [.ref 0] (hi, hf, dk_RF sr, z) (some (.int (if hi 14 10 < hi 38 6 then hi 14 10 else hi 38 6))) (hi, hf, dk_RF sr, z) := by
  refine dk_met (L := [some (.ref 0)]) pnX7 rfl (Nat.le_of_ble_eq_true rfl) ?_
  intro X C E hNm
  refine dk_aload_n C dX7_givenAnswers_0 rfl rfl ?_
  refine ek_getR C fX7_33 rfl (by decide) rfl 38 rfl dX7_givenAnswers_1 ?_
  refine ek_getI C fX7_190 rfl (by decide) rfl dX7_givenAnswers_4 ?_
  refine dk_aload_n C dX7_givenAnswers_7 rfl rfl ?_
  refine ek_getR C fX7_19 rfl (by decide) rfl 14 rfl dX7_givenAnswers_8 ?_
  refine ek_getI C fX7_145 rfl (by decide) rfl dX7_givenAnswers_11 ?_
  refine dk_mmin C mmX7_212 mm1min mm2 mm3min dX7_givenAnswers_14 (by decide) (Nat.le_of_ble_eq_true rfl) (Nat.zero_le _) (Nat.zero_le _) ?_
  exact dk_iret C E dX7_givenAnswers_17 (Nat.zero_le _) (Nat.zero_le _) (⟨rfl, rfl⟩)
set_option maxHeartbeats 4000000 in
set_option maxRecDepth 100000 in
theorem c_X7_ask (G : dk_G) (sr : Nat → Option Nat) (hi : Nat → Nat → Int32) (hf : Nat → Nat → UInt32) (z : (Nat → Nat → Int64) × (Nat → Nat → UInt64))  :
    dk_MF G yX7_ask cX7_ask 1 none 2 40 [.ref 0] (hi, hf, dk_RF sr, z) (none) (dk_begin hi, hf, dk_RF sr, z) := by
  refine dk_met (L := [some (.ref 0)]) pnX7 rfl (Nat.le_of_ble_eq_true rfl) ?_
  intro X C E hNm
  refine dk_aload_n C dX7_ask_0 rfl rfl ?_
  refine ek_callVv C mX7_45 (c_X7_beginQuestion _ _ _ _ _) rfl (by decide) rfl rfl (Nat.le_of_ble_eq_true rfl) (by decide) (by decide) (Nat.zero_le _) (Nat.zero_le _) dX7_ask_1 ?_
  exact dk_vret C E dX7_ask_4 (Nat.zero_le _) (Nat.zero_le _) (⟨rfl, rfl⟩)
/-- create: whether it's taken, and the heap behind it -/
def cr_ok (x c : Int32) : Bool := decide ((0 ≤ x ∧ x < 3) ∧ 1 ≤ c ∧ c ≤ 4)
set_option maxHeartbeats 4000000 in
set_option maxRecDepth 100000 in
theorem c_X7_create (G : dk_G) (sr : Nat → Option Nat) (hi : Nat → Nat → Int32) (hf : Nat → Nat → UInt32) (z : (Nat → Nat → Int64) × (Nat → Nat → UInt64)) (x c : Int32) :
    dk_MF G yX7_create cX7_create 3 (some .boolean) 2 40 [.ref 0, .int x, .int c] (hi, hf, dk_RF sr, z) (some (.int (bI (cr_ok x c)))) (if cr_ok x c = true then dk_begin (tb_anew hi (tcl x) c) else hi, hf, dk_RF sr, z) := by
  refine dk_met (L := [some (.ref 0), some (.int x), some (.int c)]) pnX7 rfl (Nat.le_of_ble_eq_true rfl) ?_
  intro X C E hNm
  have no : cr_ok x c = false → dk_W X 19 [some (.ref 0), some (.int x), some (.int c)] [] 63 (hi, hf, dk_RF sr, z) 0 0 := by
    intro e
    refine dk_iconst C (0) dX7_create_19 rfl ?_
    exact dk_zret C E rfl dX7_create_20 (Nat.zero_le _) (Nat.zero_le _) (⟨pI (bI_f e), by rw [e]; rfl⟩)
  refine dk_iload_n C dX7_create_0 rfl rfl ?_
  rcases pk_ix x (n := 3) (by decide) with h | h | ⟨j, hj, rfl⟩
  · refine dk_if_lt C 19 dX7_create_1 (by decide) (fun _ => ?_) (fun hz => absurd (h) hz)
    exact no (decide_eq_false (fun q => Int32.not_le.mpr h q.1.1))
  · refine dk_if_lt C 19 dX7_create_1 (by decide) (fun hz => absurd hz (Int32.not_lt.mpr (Int32.le_trans (by decide) h))) (fun _ => ?_)
    refine dk_iload_n C dX7_create_4 rfl rfl ?_
    refine dk_iconst C (3) dX7_create_5 rfl ?_
    refine dk_icmp_ge C 19 dX7_create_6 (by decide) (fun _ => ?_) (fun hz => absurd (h) hz)
    exact no (decide_eq_false (fun q => Int32.not_lt.mpr h q.1.2))
  · have e : tcl (nI j) = 2 + 4 * j := by rw [tcl, cl_nI (by omega)]
    have T := dk_T1 hj
    refine dk_if_lt C 19 dX7_create_1 (by decide) (fun hz => absurd hz (nI_pos (by omega))) (fun _ => ?_)
    refine dk_iload_n C dX7_create_4 rfl rfl ?_
    refine dk_iconst C (3) dX7_create_5 rfl ?_
    refine dk_icmp_ge C 19 dX7_create_6 (by decide) (fun hz => absurd hz (nI_ge (b := 3) hj (by decide))) (fun _ => ?_)
    refine dk_iload_n C dX7_create_9 rfl rfl ?_
    refine dk_iconst C (1) dX7_create_10 rfl ?_
    refine dk_icmp_lt C 19 dX7_create_11 (by decide) (fun c1 => ?_) (fun c1 => ?_)
    · exact no (decide_eq_false (fun q => Int32.not_le.mpr c1 q.2.1))
    · refine dk_iload_n C dX7_create_14 rfl rfl ?_
      refine dk_iconst C (4) dX7_create_15 rfl ?_
      refine dk_icmp_le C 21 dX7_create_16 (by decide) (fun c2 => ?_) (fun c2 => ?_)
      · have eo : cr_ok (nI j) c = true := decide_eq_true ⟨⟨nI_pos' (by omega), nI_lt (b := 3) hj (by decide)⟩, Int32.not_lt.mp c1, c2⟩
        refine dk_aload_n C dX7_create_21 rfl rfl ?_
        refine ek_getR C fX7_11 rfl (by decide) rfl 1 rfl dX7_create_22 ?_
        refine dk_iload_n C dX7_create_25 rfl rfl ?_
        refine ek_aald C rfl (by decide) (by decide) (j) (rfl) (hj) (by decide) (2 + 4 * j) (dk_RF1 sr hj) dX7_create_26 ?_
        refine dk_iload_n C dX7_create_27 rfl rfl ?_
        refine ek_callVv C mX7_41 (c_X5_makeAnew _ _ _ _ _ T c) T.s0 T.l0 rfl rfl (Nat.le_of_ble_eq_true rfl) (by decide) (by decide) (Nat.zero_le _) (Nat.zero_le _) dX7_create_28 ?_
        refine dk_aload_n C dX7_create_31 rfl rfl ?_
        refine ek_callVv C mX7_45 (c_X7_beginQuestion _ _ _ _ _) rfl (by decide) rfl rfl (Nat.le_of_ble_eq_true rfl) (by decide) (by decide) (Nat.zero_le _) (Nat.zero_le _) dX7_create_32 ?_
        refine dk_iconst C (1) dX7_create_35 rfl ?_
        exact dk_zret C E rfl dX7_create_36 (Nat.zero_le _) (Nat.zero_le _) (⟨pI (bI_t eo), by rw [if_pos eo, e]⟩)
      · exact no (decide_eq_false (fun q => c2 q.2.2))
/-- the marks of the indices are 0 or 1 -/
def tIX (hi : Nat → Nat → Int32) : Prop := ∀ t, dk_T t → ∀ q, q < 8 → hi (t + 3) q = 0 ∨ hi (t + 3) q = 1
/-- whether an index of a kind can be made (on = 1), dropped (on = 0); the heap behind it -/
def ix_at (c k : Int32) : Nat := cl c * 2 + cl k
def ix_ok (hi : Nat → Nat → Int32) (x c k on : Int32) : Bool := dk_hc hi x c && (decide (k = 0 ∨ k = 1) && decide (hi (tcl x + 3) (ix_at c k) ≠ on))
def ix_hi (hi : Nat → Nat → Int32) (x c k on : Int32) : Nat → Nat → Int32 := dk_up (dk_end hi) (tcl x + 3) (ix_at c k) on
theorem dk_hc_1 {hi : Nat → Nat → Int32} {x c : Int32} (h : dk_hc hi x c = true) (h4 : ∀ j, j < 3 → hi (2 + 4 * j) 3 ≤ 4) : ∃ j m, j < 3 ∧ m < 4 ∧ x = nI j ∧ c = nI m ∧ cl x = j ∧ cl c = m := by
  rw [dk_hc, Bool.and_eq_true] at h
  obtain ⟨j, hj, ej, e, h0⟩ := dk_ht_1 h.1
  have h2 := of_decide_eq_true h.2
  rw [tcl, e] at h2
  obtain ⟨m, hm, rfl⟩ : ∃ m, m < 4 ∧ c = nI m := by
    rcases pk_ix c (n := 4) (by decide) with q | q | q
    · exact absurd h2.1 (Int32.not_le.mpr q)
    · exact absurd h2.2 (Int32.not_lt.mpr (Int32.le_trans (h4 j hj) q))
    · exact q
  exact ⟨j, m, hj, hm, ej, rfl, e, cl_nI (by omega)⟩
