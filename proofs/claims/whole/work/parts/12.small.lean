/-! ===== Condition, Join, Question ===== -/
def bI (b : Bool) : Int32 := if b = true then 1 else 0
theorem bI_or (b : Bool) : bI b = 0 ∨ bI b = 1 := by cases b <;> simp [bI]
theorem bI_t {b : Bool} (h : b = true) : (1 : Int32) = bI b := by rw [h]; rfl
theorem bI_f {b : Bool} (h : b = false) : (0 : Int32) = bI b := by rw [h]; rfl
theorem bI_n1 {b : Bool} (h : ¬ bI b = 0) : b = true := by cases b <;> simp_all [bI]
theorem bI_n0 {b : Bool} (h : bI b = 0) : b = false := by cases b <;> simp_all [bI]
/-- a condition: operator, value, number -/
def cn_b (o : Nat) (v num : Int32) : Bool := match o with
  | 0 => decide (v = num)
  | 1 => decide (v < num)
  | 2 => decide (num < v)
  | _ => decide (v ≠ num)
set_option maxHeartbeats 4000000 in
set_option maxRecDepth 100000 in
theorem c_X0_holds (G : dk_G) (sr : Nat → Option Nat) (hi : Nat → Nat → Int32) (hf : Nat → Nat → UInt32) (z : (Nat → Nat → Int64) × (Nat → Nat → UInt64)) {c : Nat} (Q : dk_Q0 c) (v : Int32) (o : Nat) (ho : hi c 2 = nI o) (ho' : o < 4) :
    dk_MF G yX0_holds cX0_holds 2 (some .boolean) 0 0 [.ref c, .int v] (hi, hf, dk_RF sr, z) (some (.int (bI (cn_b o v (hi c 3))))) (hi, hf, dk_RF sr, z) := by
  refine dk_met (L := [some (.ref c), some (.int v)]) pnX0 rfl (Nat.le_of_ble_eq_true rfl) ?_
  intro X C E hNm
  refine dk_aload_n C dX0_holds_0 rfl rfl ?_
  refine ek_getI C fX0_9 Q.s0 Q.l0 rfl dX0_holds_1 ?_
  rw [ho]
  rcases (show o = 0 ∨ o = 1 ∨ o = 2 ∨ o = 3 by omega) with rfl | rfl | rfl | rfl
  · refine dk_tableIn C 32 dX0_holds_4 (by decide) (by decide) rfl (by decide) ?_
    refine dk_iload_n C dX0_holds_32 rfl rfl ?_
    refine dk_aload_n C dX0_holds_33 rfl rfl ?_
    refine ek_getI C fX0_15 Q.s0 Q.l0 rfl dX0_holds_34 ?_
    refine dk_icmp_ne C 44 dX0_holds_37 (by decide) (fun c1 => ?_) (fun c1 => ?_)
    · refine dk_iconst C (0) dX0_holds_44 rfl ?_
      exact dk_zret C E rfl dX0_holds_45 (Nat.zero_le _) (Nat.zero_le _) (⟨pI (bI_f (by simpa [cn_b] using c1)), rfl⟩)
    · refine dk_iconst C (1) dX0_holds_40 rfl ?_
      refine dk_goto C 45 dX0_holds_41 (by decide) ?_
      exact dk_zret C E rfl dX0_holds_45 (Nat.zero_le _) (Nat.zero_le _) (⟨pI (bI_t (by simpa [cn_b] using c1)), rfl⟩)
  · refine dk_tableIn C 46 dX0_holds_4 (by decide) (by decide) rfl (by decide) ?_
    refine dk_iload_n C dX0_holds_46 rfl rfl ?_
    refine dk_aload_n C dX0_holds_47 rfl rfl ?_
    refine ek_getI C fX0_15 Q.s0 Q.l0 rfl dX0_holds_48 ?_
    refine dk_icmp_ge C 58 dX0_holds_51 (by decide) (fun c1 => ?_) (fun c1 => ?_)
    · refine dk_iconst C (0) dX0_holds_58 rfl ?_
      exact dk_zret C E rfl dX0_holds_59 (Nat.zero_le _) (Nat.zero_le _) (⟨pI (bI_f (by simpa [cn_b] using c1)), rfl⟩)
    · refine dk_iconst C (1) dX0_holds_54 rfl ?_
      refine dk_goto C 59 dX0_holds_55 (by decide) ?_
      exact dk_zret C E rfl dX0_holds_59 (Nat.zero_le _) (Nat.zero_le _) (⟨pI (bI_t (by simpa [cn_b] using c1)), rfl⟩)
  · refine dk_tableIn C 60 dX0_holds_4 (by decide) (by decide) rfl (by decide) ?_
    refine dk_iload_n C dX0_holds_60 rfl rfl ?_
    refine dk_aload_n C dX0_holds_61 rfl rfl ?_
    refine ek_getI C fX0_15 Q.s0 Q.l0 rfl dX0_holds_62 ?_
    refine dk_icmp_le C 72 dX0_holds_65 (by decide) (fun c1 => ?_) (fun c1 => ?_)
    · refine dk_iconst C (0) dX0_holds_72 rfl ?_
      exact dk_zret C E rfl dX0_holds_73 (Nat.zero_le _) (Nat.zero_le _) (⟨pI (bI_f (by simpa [cn_b] using c1)), rfl⟩)
    · refine dk_iconst C (1) dX0_holds_68 rfl ?_
      refine dk_goto C 73 dX0_holds_69 (by decide) ?_
      exact dk_zret C E rfl dX0_holds_73 (Nat.zero_le _) (Nat.zero_le _) (⟨pI (bI_t (by simpa [cn_b] using c1)), rfl⟩)
  · refine dk_tableOut C 74 dX0_holds_4 (by decide) (by decide) ?_
    refine dk_iload_n C dX0_holds_74 rfl rfl ?_
    refine dk_aload_n C dX0_holds_75 rfl rfl ?_
    refine ek_getI C fX0_15 Q.s0 Q.l0 rfl dX0_holds_76 ?_
    refine dk_icmp_eq C 86 dX0_holds_79 (by decide) (fun c1 => ?_) (fun c1 => ?_)
    · refine dk_iconst C (0) dX0_holds_86 rfl ?_
      exact dk_zret C E rfl dX0_holds_87 (Nat.zero_le _) (Nat.zero_le _) (⟨pI (bI_f (by simpa [cn_b] using c1)), rfl⟩)
    · refine dk_iconst C (1) dX0_holds_82 rfl ?_
      refine dk_goto C 87 dX0_holds_83 (by decide) ?_
      exact dk_zret C E rfl dX0_holds_87 (Nat.zero_le _) (Nat.zero_le _) (⟨pI (bI_t (by simpa [cn_b] using c1)), rfl⟩)
set_option maxHeartbeats 4000000 in
set_option maxRecDepth 100000 in
theorem c_X1_ties (G : dk_G) (sr : Nat → Option Nat) (hi : Nat → Nat → Int32) (hf : Nat → Nat → UInt32) (z : (Nat → Nat → Int64) × (Nat → Nat → UInt64)) {c : Nat} (Q : dk_Q1 c) (s : Int32) :
    dk_MF G yX1_ties cX1_ties 2 (some .boolean) 0 0 [.ref c, .int s] (hi, hf, dk_RF sr, z) (some (.int (bI (decide (hi c 0 = s ∨ hi c 2 = s))))) (hi, hf, dk_RF sr, z) := by
  refine dk_met (L := [some (.ref c), some (.int s)]) pnX1 rfl (Nat.le_of_ble_eq_true rfl) ?_
  intro X C E hNm
  refine dk_aload_n C dX1_ties_0 rfl rfl ?_
  refine ek_getI C fX1_7 Q.s0 Q.l0 rfl dX1_ties_1 ?_
  refine dk_iload_n C dX1_ties_4 rfl rfl ?_
  refine dk_icmp_eq C 16 dX1_ties_5 (by decide) (fun c1 => ?_) (fun c1 => ?_)
  · refine dk_iconst C (1) dX1_ties_16 rfl ?_
    refine dk_goto C 21 dX1_ties_17 (by decide) ?_
    exact dk_zret C E rfl dX1_ties_21 (Nat.zero_le _) (Nat.zero_le _) (⟨pI (bI_t (by simp [c1])), rfl⟩)
  · refine dk_aload_n C dX1_ties_8 rfl rfl ?_
    refine ek_getI C fX1_13 Q.s0 Q.l0 rfl dX1_ties_9 ?_
    refine dk_iload_n C dX1_ties_12 rfl rfl ?_
    refine dk_icmp_ne C 20 dX1_ties_13 (by decide) (fun c2 => ?_) (fun c2 => ?_)
    · refine dk_iconst C (0) dX1_ties_20 rfl ?_
      exact dk_zret C E rfl dX1_ties_21 (Nat.zero_le _) (Nat.zero_le _) (⟨pI (bI_f (by simp [c1, c2])), rfl⟩)
    · refine dk_iconst C (1) dX1_ties_16 rfl ?_
      refine dk_goto C 21 dX1_ties_17 (by decide) ?_
      exact dk_zret C E rfl dX1_ties_21 (Nat.zero_le _) (Nat.zero_le _) (⟨pI (bI_t (by simp [c2])), rfl⟩)
set_option maxHeartbeats 4000000 in
set_option maxRecDepth 100000 in
theorem c_X1_partnerOf (G : dk_G) (sr : Nat → Option Nat) (hi : Nat → Nat → Int32) (hf : Nat → Nat → UInt32) (z : (Nat → Nat → Int64) × (Nat → Nat → UInt64)) {c : Nat} (Q : dk_Q1 c) (s : Int32) :
    dk_MF G yX1_partnerOf cX1_partnerOf 2 (some .int) 0 0 [.ref c, .int s] (hi, hf, dk_RF sr, z) (some (.int (if hi c 0 = s then hi c 2 else hi c 0))) (hi, hf, dk_RF sr, z) := by
  refine dk_met (L := [some (.ref c), some (.int s)]) pnX1 rfl (Nat.le_of_ble_eq_true rfl) ?_
  intro X C E hNm
  refine dk_aload_n C dX1_partnerOf_0 rfl rfl ?_
  refine ek_getI C fX1_7 Q.s0 Q.l0 rfl dX1_partnerOf_1 ?_
  refine dk_iload_n C dX1_partnerOf_4 rfl rfl ?_
  refine dk_icmp_ne C 15 dX1_partnerOf_5 (by decide) (fun c1 => ?_) (fun c1 => ?_)
  · refine dk_aload_n C dX1_partnerOf_15 rfl rfl ?_
    refine ek_getI C fX1_7 Q.s0 Q.l0 rfl dX1_partnerOf_16 ?_
    exact dk_iret C E dX1_partnerOf_19 (Nat.zero_le _) (Nat.zero_le _) (⟨pI (by rw [if_neg c1]), rfl⟩)
  · refine dk_aload_n C dX1_partnerOf_8 rfl rfl ?_
    refine ek_getI C fX1_13 Q.s0 Q.l0 rfl dX1_partnerOf_9 ?_
    refine dk_goto C 19 dX1_partnerOf_12 (by decide) ?_
    exact dk_iret C E dX1_partnerOf_19 (Nat.zero_le _) (Nat.zero_le _) (⟨pI (by rw [if_pos c1]), rfl⟩)
set_option maxHeartbeats 4000000 in
set_option maxRecDepth 100000 in
theorem c_X1_columnOf (G : dk_G) (sr : Nat → Option Nat) (hi : Nat → Nat → Int32) (hf : Nat → Nat → UInt32) (z : (Nat → Nat → Int64) × (Nat → Nat → UInt64)) {c : Nat} (Q : dk_Q1 c) (s : Int32) :
    dk_MF G yX1_columnOf cX1_columnOf 2 (some .int) 0 0 [.ref c, .int s] (hi, hf, dk_RF sr, z) (some (.int (if hi c 0 = s then hi c 1 else hi c 3))) (hi, hf, dk_RF sr, z) := by
  refine dk_met (L := [some (.ref c), some (.int s)]) pnX1 rfl (Nat.le_of_ble_eq_true rfl) ?_
  intro X C E hNm
  refine dk_aload_n C dX1_columnOf_0 rfl rfl ?_
  refine ek_getI C fX1_7 Q.s0 Q.l0 rfl dX1_columnOf_1 ?_
  refine dk_iload_n C dX1_columnOf_4 rfl rfl ?_
  refine dk_icmp_ne C 15 dX1_columnOf_5 (by decide) (fun c1 => ?_) (fun c1 => ?_)
  · refine dk_aload_n C dX1_columnOf_15 rfl rfl ?_
    refine ek_getI C fX1_19 Q.s0 Q.l0 rfl dX1_columnOf_16 ?_
    exact dk_iret C E dX1_columnOf_19 (Nat.zero_le _) (Nat.zero_le _) (⟨pI (by rw [if_neg c1]), rfl⟩)
  · refine dk_aload_n C dX1_columnOf_8 rfl rfl ?_
    refine ek_getI C fX1_16 Q.s0 Q.l0 rfl dX1_columnOf_9 ?_
    refine dk_goto C 19 dX1_columnOf_12 (by decide) ?_
    exact dk_iret C E dX1_columnOf_19 (Nat.zero_le _) (Nat.zero_le _) (⟨pI (by rw [if_pos c1]), rfl⟩)
/-- the question, emptied -/
def qu_clear (hi : Nat → Nat → Int32) : Nat → Nat → Int32 := dk_up (dk_up (dk_up (dk_up (dk_up (dk_up (dk_up hi 14 4 0) 14 5 0) 14 6 0) 14 7 0) 14 8 (-1)) 14 9 0) 14 10 64
set_option maxHeartbeats 4000000 in
set_option maxRecDepth 100000 in
theorem c_X4_clear (G : dk_G) (sr : Nat → Option Nat) (hi : Nat → Nat → Int32) (hf : Nat → Nat → UInt32) (z : (Nat → Nat → Int64) × (Nat → Nat → UInt64))  :
    dk_MF G yX4_clear cX4_clear 1 none 0 0 [.ref 14] (hi, hf, dk_RF sr, z) (none) (qu_clear hi, hf, dk_RF sr, z) := by
  refine dk_met (L := [some (.ref 14)]) pnX4 rfl (Nat.le_of_ble_eq_true rfl) ?_
  intro X C E hNm
  refine dk_aload_n C dX4_clear_0 rfl rfl ?_
  refine dk_iconst C (0) dX4_clear_1 rfl ?_
  refine ek_putI C fX4_45 fwX4_4 rfl (by decide) rfl dX4_clear_2 ?_
  refine dk_aload_n C dX4_clear_5 rfl rfl ?_
  refine dk_iconst C (0) dX4_clear_6 rfl ?_
  refine ek_putI C fX4_48 fwX4_5 rfl (by decide) rfl dX4_clear_7 ?_
  refine dk_aload_n C dX4_clear_10 rfl rfl ?_
  refine dk_iconst C (0) dX4_clear_11 rfl ?_
  refine ek_putI C fX4_51 fwX4_6 rfl (by decide) rfl dX4_clear_12 ?_
  refine dk_aload_n C dX4_clear_15 rfl rfl ?_
  refine dk_iconst C (0) dX4_clear_16 rfl ?_
  refine ek_putI C fX4_54 fwX4_7 rfl (by decide) rfl dX4_clear_17 ?_
  refine dk_aload_n C dX4_clear_20 rfl rfl ?_
  refine dk_iconst C (-1) dX4_clear_21 rfl ?_
  refine ek_putI C fX4_38 fwX4_8 rfl (by decide) rfl dX4_clear_22 ?_
  refine dk_aload_n C dX4_clear_25 rfl rfl ?_
  refine dk_iconst C (0) dX4_clear_26 rfl ?_
  refine ek_putZ C fX4_57 fwX4_9 rfl (by decide) rfl (Or.inl rfl) dX4_clear_27 ?_
  refine dk_aload_n C dX4_clear_30 rfl rfl ?_
  refine dk_bipush C (64) dX4_clear_31 rfl ?_
  refine ek_putI C fX4_42 fwX4_10 rfl (by decide) rfl dX4_clear_33 ?_
  exact dk_vret C E dX4_clear_36 (Nat.zero_le _) (Nat.zero_le _) (⟨rfl, rfl⟩)
/-- the sources stand: n of them, each a table's cell -/
def qu_S (sr : Nat → Option Nat) (n : Nat) (st : Nat → Nat) : Prop := n ≤ 3 ∧ ∀ k, k < n → sr k = some (st k) ∧ dk_T (st k)
def qu_has (hi : Nat → Nat → Int32) (n : Nat) (st : Nat → Nat) (s c : Int32) : Bool := decide (0 ≤ s ∧ s < nI n ∧ 0 ≤ c ∧ c < hi (st s.toNatClampNeg) 3)
set_option maxHeartbeats 4000000 in
set_option maxRecDepth 100000 in
theorem c_X4_hasColumn (G : dk_G) (sr : Nat → Option Nat) (hi : Nat → Nat → Int32) (hf : Nat → Nat → UInt32) (z : (Nat → Nat → Int64) × (Nat → Nat → UInt64)) (n : Nat) (st : Nat → Nat) (Sn : qu_S sr n st) (hn : hi 14 4 = nI n) (s c : Int32) :
    dk_MF G yX4_hasColumn cX4_hasColumn 3 (some .boolean) 1 21 [.ref 14, .int s, .int c] (hi, hf, dk_RF sr, z) (some (.int (bI (qu_has hi n st s c)))) (hi, hf, dk_RF sr, z) := by
  refine dk_met (L := [some (.ref 14), some (.int s), some (.int c)]) pnX4 rfl (Nat.le_of_ble_eq_true rfl) ?_
  intro X C E hNm
  have hn3 := Sn.1
  refine dk_iload_n C dX4_hasColumn_0 rfl rfl ?_
  rcases pk_ix s (n := n) (by omega) with h | h | ⟨j, hj, rfl⟩
  · refine dk_if_lt C 29 dX4_hasColumn_1 (by decide) (fun _ => ?_) (fun hz => absurd (h) hz)
    refine dk_iconst C (0) dX4_hasColumn_29 rfl ?_
    exact dk_zret C E rfl dX4_hasColumn_30 (Nat.zero_le _) (Nat.zero_le _) (⟨pI (bI_f (by simp [qu_has, Int32.not_le.mpr h])), rfl⟩)
  · have h0 : ¬ s < 0 := Int32.not_lt.mpr (Int32.le_trans (nI_pos' (by omega)) h)
    refine dk_if_lt C 29 dX4_hasColumn_1 (by decide) (fun hz => absurd hz (h0)) (fun _ => ?_)
    refine dk_iload_n C dX4_hasColumn_4 rfl rfl ?_
    refine dk_aload_n C dX4_hasColumn_5 rfl rfl ?_
    refine ek_getI C fX4_45 rfl (by decide) rfl dX4_hasColumn_6 ?_
    refine dk_icmp_ge C 29 dX4_hasColumn_9 (by decide) (fun _ => ?_) (fun hz => absurd (by rw [hn]; exact h) hz)
    refine dk_iconst C (0) dX4_hasColumn_29 rfl ?_
    exact dk_zret C E rfl dX4_hasColumn_30 (Nat.zero_le _) (Nat.zero_le _) (⟨pI (bI_f (by simp [qu_has, Int32.not_lt.mpr h])), rfl⟩)
  · obtain ⟨hs, T⟩ := Sn.2 j hj
    refine dk_if_lt C 29 dX4_hasColumn_1 (by decide) (fun hz => absurd hz (nI_pos (by omega))) (fun _ => ?_)
    refine dk_iload_n C dX4_hasColumn_4 rfl rfl ?_
    refine dk_aload_n C dX4_hasColumn_5 rfl rfl ?_
    refine ek_getI C fX4_45 rfl (by decide) rfl dX4_hasColumn_6 ?_
    refine dk_icmp_ge C 29 dX4_hasColumn_9 (by decide) (fun hz => absurd hz (by rw [hn]; exact nI_ge hj (by omega))) (fun _ => ?_)
    have hcl : (nI j).toNatClampNeg = j := nI_clamp (by omega)
    have hjl := nI_lt hj (show n < 2 ^ 31 by omega)
    refine dk_aload_n C dX4_hasColumn_12 rfl rfl ?_
    refine ek_getR C fX4_13 rfl (by decide) rfl 15 rfl dX4_hasColumn_13 ?_
    refine dk_iload_n C dX4_hasColumn_16 rfl rfl ?_
    refine ek_aald C rfl (by decide) (by decide) (j) (rfl) (by omega) (by decide) (st j) (hs) dX4_hasColumn_17 ?_
    refine dk_iload_n C dX4_hasColumn_18 rfl rfl ?_
    refine ek_callV C mX4_61 (c_X5_hasColumn _ _ _ _ _ T c) T.s0 T.l0 rfl rfl (Nat.le_of_ble_eq_true rfl) (by decide) (by decide) (Nat.zero_le _) (Nat.zero_le _) dX4_hasColumn_19 ?_
    refine dk_if_eq C 29 dX4_hasColumn_22 (by decide) (fun c1 => ?_) (fun c1 => ?_)
    · have e : qu_has hi n st (nI j) c = false := by
        have : ¬ (0 ≤ c ∧ c < hi (st j) 3) := fun q => by rw [if_pos q] at c1; exact absurd c1 (by decide)
        simp only [qu_has, hcl, decide_eq_false_iff_not]
        exact fun q => this q.2.2
      refine dk_iconst C (0) dX4_hasColumn_29 rfl ?_
      exact dk_zret C E rfl dX4_hasColumn_30 (Nat.zero_le _) (Nat.zero_le _) (⟨pI (bI_f e), rfl⟩)
    · have e : qu_has hi n st (nI j) c = true := by
        have : 0 ≤ c ∧ c < hi (st j) 3 := Classical.byContradiction fun q => c1 (by rw [if_neg q])
        simp only [qu_has, hcl, decide_eq_true_eq]
        exact ⟨nI_pos' (by omega), hjl, this⟩
      refine dk_iconst C (1) dX4_hasColumn_25 rfl ?_
      refine dk_goto C 30 dX4_hasColumn_26 (by decide) ?_
      exact dk_zret C E rfl dX4_hasColumn_30 (Nat.zero_le _) (Nat.zero_le _) (⟨pI (bI_t e), rfl⟩)
set_option maxHeartbeats 4000000 in
set_option maxRecDepth 100000 in
theorem c_X4_addSource (G : dk_G) (sr : Nat → Option Nat) (hi : Nat → Nat → Int32) (hf : Nat → Nat → UInt32) (z : (Nat → Nat → Int64) × (Nat → Nat → UInt64)) (n : Nat) {t : Nat} (T : dk_T t) (hn : hi 14 4 = nI n) (hn3 : n < 3) :
    dk_MF G yX4_addSource cX4_addSource 3 (some .int) 0 0 [.ref 14, .ref t] (hi, hf, dk_RF sr, z) (some (.int (nI n))) (dk_up hi 14 4 (nI (n + 1)), hf, dk_RF (sr_up sr n (some t)), z) := by
  refine dk_met (L := [some (.ref 14), some (.ref t), none]) pnX4 rfl (Nat.le_of_ble_eq_true rfl) ?_
  intro X C E hNm
  refine dk_aload_n C dX4_addSource_0 rfl rfl ?_
  refine ek_getI C fX4_45 rfl (by decide) rfl dX4_addSource_1 ?_
  refine dk_istore_n C dX4_addSource_4 rfl (by decide) rfl ?_
  refine dk_aload_n C dX4_addSource_5 rfl rfl ?_
  refine ek_getR C fX4_13 rfl (by decide) rfl 15 rfl dX4_addSource_6 ?_
  refine dk_iload_n C dX4_addSource_9 rfl rfl ?_
  refine dk_aload_n C dX4_addSource_10 rfl rfl ?_
  refine ek_aast C (n) (hn) (hn3) (T) dX4_addSource_11 ?_
  refine dk_aload_n C dX4_addSource_12 rfl rfl ?_
  refine dk_dup C dX4_addSource_13 rfl ?_
  refine ek_getI C fX4_45 rfl (by decide) rfl dX4_addSource_14 ?_
  refine dk_iconst C (1) dX4_addSource_17 rfl ?_
  refine dk_iadd C dX4_addSource_18 ?_
  refine ek_putI C fX4_45 fwX4_4 rfl (by decide) rfl dX4_addSource_19 ?_
  rw [hn]
  refine dk_iload_n C dX4_addSource_22 rfl rfl ?_
  exact dk_iret C E dX4_addSource_23 (Nat.zero_le _) (Nat.zero_le _) (⟨rfl, by rw [nI_1]⟩)
/-- a condition, a join, an output more -/
def qu_addC (hi : Nat → Nat → Int32) (n : Nat) (s c o x : Int32) : Nat → Nat → Int32 := dk_up (dk_up (dk_up (dk_up (dk_up hi (17 + n) 0 s) (17 + n) 1 c) (17 + n) 2 o) (17 + n) 3 x) 14 5 (nI (n + 1))
theorem dk_RF16 (sr : Nat → Option Nat) {n : Nat} (h : n < 4) : dk_RF sr 16 n = some (17 + n) := by rcases (show n = 0 ∨ n = 1 ∨ n = 2 ∨ n = 3 by omega) with rfl | rfl | rfl | rfl <;> rfl
theorem dk_RF21 (sr : Nat → Option Nat) {n : Nat} (h : n < 3) : dk_RF sr 21 n = some (22 + n) := by rcases (show n = 0 ∨ n = 1 ∨ n = 2 by omega) with rfl | rfl | rfl <;> rfl
theorem dk_RF25 (sr : Nat → Option Nat) {n : Nat} (h : n < 4) : dk_RF sr 25 n = some (26 + n) := by rcases (show n = 0 ∨ n = 1 ∨ n = 2 ∨ n = 3 by omega) with rfl | rfl | rfl | rfl <;> rfl
theorem dk_RF1 (sr : Nat → Option Nat) {n : Nat} (h : n < 3) : dk_RF sr 1 n = some (2 + 4 * n) := by rcases (show n = 0 ∨ n = 1 ∨ n = 2 by omega) with rfl | rfl | rfl <;> rfl
theorem dk_T1 {n : Nat} (h : n < 3) : dk_T (2 + 4 * n) := by unfold dk_T; omega
theorem dk_Q0i {n : Nat} (h : n < 4) : dk_Q0 (17 + n) := by unfold dk_Q0; omega
theorem dk_Q1i {n : Nat} (h : n < 3) : dk_Q1 (22 + n) := by unfold dk_Q1; omega
theorem dk_Q2i {n : Nat} (h : n < 4) : dk_Q2 (26 + n) := by unfold dk_Q2; omega
set_option maxHeartbeats 4000000 in
set_option maxRecDepth 100000 in
theorem c_X4_addCondition (G : dk_G) (sr : Nat → Option Nat) (hi : Nat → Nat → Int32) (hf : Nat → Nat → UInt32) (z : (Nat → Nat → Int64) × (Nat → Nat → UInt64)) (n : Nat) (hn : hi 14 5 = nI n) (hn4 : n < 4) (s c o x : Int32) :
    dk_MF G yX4_addCondition cX4_addCondition 6 none 0 0 [.ref 14, .int s, .int c, .int o, .int x] (hi, hf, dk_RF sr, z) (none) (qu_addC hi n s c o x, hf, dk_RF sr, z) := by
  refine dk_met (L := [some (.ref 14), some (.int s), some (.int c), some (.int o), some (.int x), none]) pnX4 rfl (Nat.le_of_ble_eq_true rfl) ?_
  intro X C E hNm
  have Q := dk_Q0i hn4
  refine dk_aload_n C dX4_addCondition_0 rfl rfl ?_
  refine ek_getR C fX4_19 rfl (by decide) rfl 16 rfl dX4_addCondition_1 ?_
  refine dk_aload_n C dX4_addCondition_4 rfl rfl ?_
  refine ek_getI C fX4_48 rfl (by decide) rfl dX4_addCondition_5 ?_
  refine ek_aald C rfl (by decide) (by decide) (n) (hn) (hn4) (by decide) (17 + n) (dk_RF16 sr hn4) dX4_addCondition_8 ?_
  refine dk_astore C dX4_addCondition_9 (by decide) rfl ?_
  refine dk_aload C dX4_addCondition_11 rfl ?_
  refine dk_iload_n C dX4_addCondition_13 rfl rfl ?_
  refine ek_putI C fX4_65 fwX0_0 Q.s0 Q.l0 rfl dX4_addCondition_14 ?_
  refine dk_aload C dX4_addCondition_17 rfl ?_
  refine dk_iload_n C dX4_addCondition_19 rfl rfl ?_
  refine ek_putI C fX4_68 fwX0_1 Q.s0 Q.l0 rfl dX4_addCondition_20 ?_
  refine dk_aload C dX4_addCondition_23 rfl ?_
  refine dk_iload_n C dX4_addCondition_25 rfl rfl ?_
  refine ek_putI C fX4_71 fwX0_2 Q.s0 Q.l0 rfl dX4_addCondition_26 ?_
  refine dk_aload C dX4_addCondition_29 rfl ?_
  refine dk_iload C dX4_addCondition_31 rfl ?_
  refine ek_putI C fX4_74 fwX0_3 Q.s0 Q.l0 rfl dX4_addCondition_33 ?_
  refine dk_aload_n C dX4_addCondition_36 rfl rfl ?_
  refine dk_dup C dX4_addCondition_37 rfl ?_
  refine ek_getI C fX4_48 rfl (by decide) rfl dX4_addCondition_38 ?_
  refine dk_iconst C (1) dX4_addCondition_41 rfl ?_
  refine dk_iadd C dX4_addCondition_42 ?_
  refine ek_putI C fX4_48 fwX4_5 rfl (by decide) rfl dX4_addCondition_43 ?_
  have e : dk_up (dk_up (dk_up (dk_up hi (17 + n) 0 s) (17 + n) 1 c) (17 + n) 2 o) (17 + n) 3 x 14 5 = nI n := by
    rw [dk_up_ne _ _ (Or.inl (by omega)), dk_up_ne _ _ (Or.inl (by omega)), dk_up_ne _ _ (Or.inl (by omega)), dk_up_ne _ _ (Or.inl (by omega)), hn]
  rw [e, nI_1]
  exact dk_vret C E dX4_addCondition_46 (Nat.zero_le _) (Nat.zero_le _) (⟨rfl, rfl⟩)
def qu_addJ (hi : Nat → Nat → Int32) (n : Nat) (s c o x : Int32) : Nat → Nat → Int32 := dk_up (dk_up (dk_up (dk_up (dk_up hi (22 + n) 0 s) (22 + n) 1 c) (22 + n) 2 o) (22 + n) 3 x) 14 6 (nI (n + 1))
set_option maxHeartbeats 4000000 in
set_option maxRecDepth 100000 in
theorem c_X4_addJoin (G : dk_G) (sr : Nat → Option Nat) (hi : Nat → Nat → Int32) (hf : Nat → Nat → UInt32) (z : (Nat → Nat → Int64) × (Nat → Nat → UInt64)) (n : Nat) (hn : hi 14 6 = nI n) (hn3 : n < 3) (s c o x : Int32) :
    dk_MF G yX4_addJoin cX4_addJoin 6 none 0 0 [.ref 14, .int s, .int c, .int o, .int x] (hi, hf, dk_RF sr, z) (none) (qu_addJ hi n s c o x, hf, dk_RF sr, z) := by
  refine dk_met (L := [some (.ref 14), some (.int s), some (.int c), some (.int o), some (.int x), none]) pnX4 rfl (Nat.le_of_ble_eq_true rfl) ?_
  intro X C E hNm
  have Q := dk_Q1i hn3
  refine dk_aload_n C dX4_addJoin_0 rfl rfl ?_
  refine ek_getR C fX4_26 rfl (by decide) rfl 21 rfl dX4_addJoin_1 ?_
  refine dk_aload_n C dX4_addJoin_4 rfl rfl ?_
  refine ek_getI C fX4_51 rfl (by decide) rfl dX4_addJoin_5 ?_
  refine ek_aald C rfl (by decide) (by decide) (n) (hn) (hn3) (by decide) (22 + n) (dk_RF21 sr hn3) dX4_addJoin_8 ?_
  refine dk_astore C dX4_addJoin_9 (by decide) rfl ?_
  refine dk_aload C dX4_addJoin_11 rfl ?_
  refine dk_iload_n C dX4_addJoin_13 rfl rfl ?_
  refine ek_putI C fX4_77 fwX1_0 Q.s0 Q.l0 rfl dX4_addJoin_14 ?_
  refine dk_aload C dX4_addJoin_17 rfl ?_
  refine dk_iload_n C dX4_addJoin_19 rfl rfl ?_
  refine ek_putI C fX4_80 fwX1_1 Q.s0 Q.l0 rfl dX4_addJoin_20 ?_
  refine dk_aload C dX4_addJoin_23 rfl ?_
  refine dk_iload_n C dX4_addJoin_25 rfl rfl ?_
  refine ek_putI C fX4_83 fwX1_2 Q.s0 Q.l0 rfl dX4_addJoin_26 ?_
  refine dk_aload C dX4_addJoin_29 rfl ?_
  refine dk_iload C dX4_addJoin_31 rfl ?_
  refine ek_putI C fX4_86 fwX1_3 Q.s0 Q.l0 rfl dX4_addJoin_33 ?_
  refine dk_aload_n C dX4_addJoin_36 rfl rfl ?_
  refine dk_dup C dX4_addJoin_37 rfl ?_
  refine ek_getI C fX4_51 rfl (by decide) rfl dX4_addJoin_38 ?_
  refine dk_iconst C (1) dX4_addJoin_41 rfl ?_
  refine dk_iadd C dX4_addJoin_42 ?_
  refine ek_putI C fX4_51 fwX4_6 rfl (by decide) rfl dX4_addJoin_43 ?_
  have e : dk_up (dk_up (dk_up (dk_up hi (22 + n) 0 s) (22 + n) 1 c) (22 + n) 2 o) (22 + n) 3 x 14 6 = nI n := by
    rw [dk_up_ne _ _ (Or.inl (by omega)), dk_up_ne _ _ (Or.inl (by omega)), dk_up_ne _ _ (Or.inl (by omega)), dk_up_ne _ _ (Or.inl (by omega)), hn]
  rw [e, nI_1]
  exact dk_vret C E dX4_addJoin_46 (Nat.zero_le _) (Nat.zero_le _) (⟨rfl, rfl⟩)
def qu_addO (hi : Nat → Nat → Int32) (n : Nat) (s c : Int32) : Nat → Nat → Int32 := dk_up (dk_up (dk_up hi (26 + n) 0 s) (26 + n) 1 c) 14 7 (nI (n + 1))
set_option maxHeartbeats 4000000 in
set_option maxRecDepth 100000 in
theorem c_X4_addOutput (G : dk_G) (sr : Nat → Option Nat) (hi : Nat → Nat → Int32) (hf : Nat → Nat → UInt32) (z : (Nat → Nat → Int64) × (Nat → Nat → UInt64)) (n : Nat) (hn : hi 14 7 = nI n) (hn4 : n < 4) (s c : Int32) :
    dk_MF G yX4_addOutput cX4_addOutput 4 (some .int) 0 0 [.ref 14, .int s, .int c] (hi, hf, dk_RF sr, z) (some (.int (nI n))) (qu_addO hi n s c, hf, dk_RF sr, z) := by
  refine dk_met (L := [some (.ref 14), some (.int s), some (.int c), none]) pnX4 rfl (Nat.le_of_ble_eq_true rfl) ?_
  intro X C E hNm
  have Q := dk_Q2i hn4
  refine dk_aload_n C dX4_addOutput_0 rfl rfl ?_
  refine ek_getI C fX4_54 rfl (by decide) rfl dX4_addOutput_1 ?_
  refine dk_istore_n C dX4_addOutput_4 rfl (by decide) rfl ?_
  refine dk_aload_n C dX4_addOutput_5 rfl rfl ?_
  refine ek_getR C fX4_33 rfl (by decide) rfl 25 rfl dX4_addOutput_6 ?_
  refine dk_iload_n C dX4_addOutput_9 rfl rfl ?_
  refine ek_aald C rfl (by decide) (by decide) (n) (hn) (hn4) (by decide) (26 + n) (dk_RF25 sr hn4) dX4_addOutput_10 ?_
  refine dk_iload_n C dX4_addOutput_11 rfl rfl ?_
  refine ek_putI C fX4_89 fwX2_0 Q.s0 Q.l0 rfl dX4_addOutput_12 ?_
  refine dk_aload_n C dX4_addOutput_15 rfl rfl ?_
  refine ek_getR C fX4_33 rfl (by decide) rfl 25 rfl dX4_addOutput_16 ?_
  refine dk_iload_n C dX4_addOutput_19 rfl rfl ?_
  refine ek_aald C rfl (by decide) (by decide) (n) (hn) (hn4) (by decide) (26 + n) (dk_RF25 sr hn4) dX4_addOutput_20 ?_
  refine dk_iload_n C dX4_addOutput_21 rfl rfl ?_
  refine ek_putI C fX4_90 fwX2_1 Q.s0 Q.l0 rfl dX4_addOutput_22 ?_
  have e : dk_up (dk_up hi (26 + n) 0 s) (26 + n) 1 c 14 7 = nI n := by
    rw [dk_up_ne _ _ (Or.inl (by omega)), dk_up_ne _ _ (Or.inl (by omega)), hn]
  refine dk_aload_n C dX4_addOutput_25 rfl rfl ?_
  refine dk_dup C dX4_addOutput_26 rfl ?_
  refine ek_getI C fX4_54 rfl (by decide) rfl dX4_addOutput_27 ?_
  refine dk_iconst C (1) dX4_addOutput_30 rfl ?_
  refine dk_iadd C dX4_addOutput_31 ?_
  refine ek_putI C fX4_54 fwX4_7 rfl (by decide) rfl dX4_addOutput_32 ?_
  rw [e, nI_1, hn]
  refine dk_iload_n C dX4_addOutput_35 rfl rfl ?_
  exact dk_iret C E dX4_addOutput_36 (Nat.zero_le _) (Nat.zero_le _) (⟨rfl, rfl⟩)
set_option maxHeartbeats 4000000 in
set_option maxRecDepth 100000 in
theorem c_X4_isOrdered (G : dk_G) (sr : Nat → Option Nat) (hi : Nat → Nat → Int32) (hf : Nat → Nat → UInt32) (z : (Nat → Nat → Int64) × (Nat → Nat → UInt64))  :
    dk_MF G yX4_isOrdered cX4_isOrdered 1 (some .boolean) 0 0 [.ref 14] (hi, hf, dk_RF sr, z) (some (.int (bI (decide (hi 14 8 ≠ -1))))) (hi, hf, dk_RF sr, z) := by
  refine dk_met (L := [some (.ref 14)]) pnX4 rfl (Nat.le_of_ble_eq_true rfl) ?_
  intro X C E hNm
  refine dk_aload_n C dX4_isOrdered_0 rfl rfl ?_
  refine ek_getI C fX4_38 rfl (by decide) rfl dX4_isOrdered_1 ?_
  refine dk_iconst C (-1) dX4_isOrdered_4 rfl ?_
  refine dk_icmp_eq C 12 dX4_isOrdered_5 (by decide) (fun c1 => ?_) (fun c1 => ?_)
  · refine dk_iconst C (0) dX4_isOrdered_12 rfl ?_
    exact dk_zret C E rfl dX4_isOrdered_13 (Nat.zero_le _) (Nat.zero_le _) (⟨pI (bI_f (by simp [c1])), rfl⟩)
  · refine dk_iconst C (1) dX4_isOrdered_8 rfl ?_
    refine dk_goto C 13 dX4_isOrdered_9 (by decide) ?_
    exact dk_zret C E rfl dX4_isOrdered_13 (Nat.zero_le _) (Nat.zero_le _) (⟨pI (bI_t (by simpa using c1)), rfl⟩)
set_option maxHeartbeats 4000000 in
set_option maxRecDepth 100000 in
theorem c_X4_enoughAnswers (G : dk_G) (sr : Nat → Option Nat) (hi : Nat → Nat → Int32) (hf : Nat → Nat → UInt32) (z : (Nat → Nat → Int64) × (Nat → Nat → UInt64))  :
    dk_MF G yX4_enoughAnswers cX4_enoughAnswers 1 (some .int) 1 20 [.ref 14] (hi, hf, dk_RF sr, z) (some (.int (if hi 14 8 = -1 then hi 14 10 else 64))) (hi, hf, dk_RF sr, z) := by
  refine dk_met (L := [some (.ref 14)]) pnX4 rfl (Nat.le_of_ble_eq_true rfl) ?_
  intro X C E hNm
  refine dk_aload_n C dX4_enoughAnswers_0 rfl rfl ?_
  refine ek_callV C mX4_91 (c_X4_isOrdered _ _ _ _ _) rfl (by decide) rfl rfl (Nat.le_of_ble_eq_true rfl) (by decide) (by decide) (Nat.zero_le _) (Nat.zero_le _) dX4_enoughAnswers_1 ?_
  refine dk_if_eq C 12 dX4_enoughAnswers_4 (by decide) (fun c1 => ?_) (fun c1 => ?_)
  · refine dk_aload_n C dX4_enoughAnswers_12 rfl rfl ?_
    refine ek_getI C fX4_42 rfl (by decide) rfl dX4_enoughAnswers_13 ?_
    exact dk_iret C E dX4_enoughAnswers_16 (Nat.zero_le _) (Nat.zero_le _) (⟨pI (by rw [if_pos]; simpa using bI_n0 c1), rfl⟩)
  · refine dk_bipush C (64) dX4_enoughAnswers_7 rfl ?_
    refine dk_goto C 16 dX4_enoughAnswers_9 (by decide) ?_
    exact dk_iret C E dX4_enoughAnswers_16 (Nat.zero_le _) (Nat.zero_le _) (⟨pI (by rw [if_neg]; simpa using bI_n1 c1), rfl⟩)
