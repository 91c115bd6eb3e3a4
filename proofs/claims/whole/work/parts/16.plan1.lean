/-! ===== QueryDesk$Plan: the leaves ===== -/
/-- magnitude of a float, by its exponent field -/
def fb (K : Nat) (x : UInt32) : Prop := x.toNat % 2 ^ 31 < K * 2 ^ 23
theorem fb_n {K : Nat} {x : UInt32} (h : fb K x) (hK : K ≤ 255) : vf_n32 x := by
  unfold fb at h
  unfold vf_n32
  rw [UInt32.le_iff_toNat_le, UInt32.toNat_and]
  have e : (0x7fffffff : UInt32).toNat = 2 ^ 31 - 1 := rfl
  rw [e, Nat.and_two_pow_sub_one_eq_mod]
  have e2 : (0x7f800000 : UInt32).toNat = 255 * 2 ^ 23 := rfl
  rw [e2]
  have : K * 2 ^ 23 ≤ 255 * 2 ^ 23 := Nat.mul_le_mul_right _ hK
  omega
theorem fb_w {K K' : Nat} {x : UInt32} (h : fb K x) (hK : K ≤ K') : fb K' x := Nat.lt_of_lt_of_le h (Nat.mul_le_mul_right _ hK)
theorem fb_mul {Ka Kb : Nat} {x y : UInt32} (ha : fb Ka x) (hb : fb Kb y) (h1 : Ka ≤ 255) (h2 : Kb ≤ 255) : fb (Ka + Kb - 129 + 3) (FP.fmul x y) := FP.Core.fmul_mag ha hb h1 h2
theorem fb_add {K : Nat} {x y : UInt32} (ha : fb K x) (hb : fb K y) (h1 : K ≤ 255) : fb (K + 2) (FP.fadd x y) := FP.Core.fadd_mag ha hb h1
theorem fb_sub {K : Nat} {x y : UInt32} (ha : fb K x) (hb : fb K y) (h1 : K ≤ 255) : fb (K + 2) (FP.fsub x y) := FP.Core.fsub_mag ha hb h1
theorem fb_0 : fb 1 FP.fconst0 := by unfold fb FP.fconst0; decide
theorem fb_1 : fb 128 FP.fconst1 := by unfold fb FP.fconst1; decide
theorem fb_2 : fb 129 FP.fconst2 := by unfold fb FP.fconst2; decide
theorem fb_i {n : Nat} (h : n ≤ 24) : fb 133 (FP.i2f (nI n)) := by
  have h1 : (nI n).toInt.natAbs ≤ 2 ^ 5 := by rw [nI_toInt (by omega)]; omega
  have := FP.Core.fromInt_mag32 (FP.Core.toNat_i2f (nI n)) h1 (K := 132) (by decide) (by decide)
  unfold fb
  exact Nat.lt_of_le_of_lt this (by decide)
/-- less, as fcmpg and ifge have it -/
def flt (x y : UInt32) : Prop := ¬ (0 ≤ Op.cmpValue (FP.fcmp x y) .g)
/-- the way chosen so far: its rows, its kind, condition and join -/
abbrev pl_B : Type := UInt32 × Int32 × Int32 × Int32
def pl_cand (b : pl_B) (r : UInt32) (w c j : Int32) : pl_B := if 0 ≤ Op.cmpValue (FP.fcmp r b.1) .g then b else (r, w, c, j)
def pl_hi (hi : Nat → Nat → Int32) (k : Nat) (b : pl_B) : Nat → Nat → Int32 := dk_up (dk_up (dk_up hi 35 k b.2.1) 36 k b.2.2.1) 37 k b.2.2.2
def pl_hf (hf : Nat → Nat → UInt32) (b : pl_B) : Nat → Nat → UInt32 := dk_up hf 30 7 b.1
theorem dk_up_up {α : Type} (f : Nat → Nat → α) (i k : Nat) (v w : α) : dk_up (dk_up f i k v) i k w = dk_up f i k w := by
  funext a b
  unfold dk_up
  by_cases h : a = i ∧ b = k
  · rw [if_pos h, if_pos h]
  · rw [if_neg h, if_neg h, if_neg h]
theorem dk_up_comm {α : Type} (f : Nat → Nat → α) {i k i' k' : Nat} (v w : α) (h : i ≠ i' ∨ k ≠ k') : dk_up (dk_up f i k v) i' k' w = dk_up (dk_up f i' k' w) i k v := by
  funext a b
  unfold dk_up
  by_cases h1 : a = i' ∧ b = k' <;> by_cases h2 : a = i ∧ b = k
  · omega
  · rw [if_pos h1, if_neg h2, if_pos h1]
  · rw [if_neg h1, if_pos h2, if_pos h2]
  · rw [if_neg h1, if_neg h2, if_neg h2, if_neg h1]
theorem pl_hi_hi (hi : Nat → Nat → Int32) (k : Nat) (b : pl_B) (w c j : Int32) : dk_up (dk_up (dk_up (pl_hi hi k b) 35 k w) 36 k c) 37 k j = dk_up (dk_up (dk_up hi 35 k w) 36 k c) 37 k j := by
  unfold pl_hi
  rw [dk_up_comm (dk_up (dk_up hi 35 k b.2.1) 36 k b.2.2.1) _ w (Or.inl (by decide)), dk_up_comm (dk_up hi 35 k b.2.1) _ w (Or.inl (by decide)), dk_up_up]
  rw [dk_up_comm (dk_up (dk_up hi 35 k w) 36 k b.2.2.1) _ c (Or.inl (by decide)), dk_up_up, dk_up_up]
theorem pl_hf_hf (hf : Nat → Nat → UInt32) (b : pl_B) (r : UInt32) : dk_up (pl_hf hf b) 30 7 r = dk_up hf 30 7 r := dk_up_up _ _ _ _ _
set_option maxHeartbeats 4000000 in
set_option maxRecDepth 100000 in
theorem c_X3_takeWay (G : dk_G) (sr : Nat → Option Nat) (hi : Nat → Nat → Int32) (hf : Nat → Nat → UInt32) (z : (Nat → Nat → Int64) × (Nat → Nat → UInt64)) (k : Nat) (hk : k < 3) (w c j : Int32) :
    dk_MF G yX3_takeWay cX3_takeWay 5 none 0 0 [.ref 30, .int (nI k), .int w, .int c, .int j] (hi, hf, dk_RF sr, z) (none) (dk_up (dk_up (dk_up hi 35 k w) 36 k c) 37 k j, hf, dk_RF sr, z) := by
  refine dk_met (L := [some (.ref 30), some (.int (nI k)), some (.int w), some (.int c), some (.int j)]) pnX3 rfl (Nat.le_of_ble_eq_true rfl) ?_
  intro X C E hNm
  refine dk_aload_n C dX3_takeWay_0 rfl rfl ?_
  refine ek_getR C fX3_27 rfl (by decide) rfl 35 rfl dX3_takeWay_1 ?_
  refine dk_iload_n C dX3_takeWay_4 rfl rfl ?_
  refine dk_iload_n C dX3_takeWay_5 rfl rfl ?_
  refine ek_iast C rfl (by decide) (k) (rfl) (hk) (by decide) dX3_takeWay_6 ?_
  refine dk_aload_n C dX3_takeWay_7 rfl rfl ?_
  refine ek_getR C fX3_30 rfl (by decide) rfl 36 rfl dX3_takeWay_8 ?_
  refine dk_iload_n C dX3_takeWay_11 rfl rfl ?_
  refine dk_iload_n C dX3_takeWay_12 rfl rfl ?_
  refine ek_iast C rfl (by decide) (k) (rfl) (hk) (by decide) dX3_takeWay_13 ?_
  refine dk_aload_n C dX3_takeWay_14 rfl rfl ?_
  refine ek_getR C fX3_33 rfl (by decide) rfl 37 rfl dX3_takeWay_15 ?_
  refine dk_iload_n C dX3_takeWay_18 rfl rfl ?_
  refine dk_iload C dX3_takeWay_19 rfl ?_
  refine ek_iast C rfl (by decide) (k) (rfl) (hk) (by decide) dX3_takeWay_21 ?_
  exact dk_vret C E dX3_takeWay_22 (Nat.zero_le _) (Nat.zero_le _) (⟨rfl, rfl⟩)
set_option maxHeartbeats 4000000 in
set_option maxRecDepth 100000 in
theorem c_X3_considerWay (G : dk_G) (sr : Nat → Option Nat) (hi : Nat → Nat → Int32) (hf : Nat → Nat → UInt32) (z : (Nat → Nat → Int64) × (Nat → Nat → UInt64)) (k : Nat) (hk : k < 3) (b : pl_B) (r : UInt32) (w c j : Int32) :
    dk_MF G yX3_considerWay cX3_considerWay 6 none 1 24 [.ref 30, .float r, .int (nI k), .int w, .int c, .int j] (pl_hi hi k b, pl_hf hf b, dk_RF sr, z) none (pl_hi hi k (pl_cand b r w c j), pl_hf hf (pl_cand b r w c j), dk_RF sr, z) := by
  refine dk_met (L := [some (.ref 30), some (.float r), some (.int (nI k)), some (.int w), some (.int c), some (.int j)]) pnX3 rfl (Nat.le_of_ble_eq_true rfl) ?_
  intro X C E hNm
  have e : pl_hf hf b 30 7 = b.1 := dk_up_same _ _ _ _
  refine dk_fload_n C dX3_considerWay_0 rfl rfl ?_
  refine dk_aload_n C dX3_considerWay_1 rfl rfl ?_
  refine ek_getF C fX3_152 rfl (by decide) rfl dX3_considerWay_2 ?_
  rw [e]
  refine dk_fcmp C dX3_considerWay_5 ?_
  refine dk_if_ge C 24 dX3_considerWay_6 (by decide) (fun c1 => ?_) (fun c1 => ?_)
  · exact dk_vret C E dX3_considerWay_24 (Nat.zero_le _) (Nat.zero_le _) (⟨rfl, by rw [pl_cand, if_pos c1]⟩)
  · refine dk_aload_n C dX3_considerWay_9 rfl rfl ?_
    refine dk_fload_n C dX3_considerWay_10 rfl rfl ?_
    refine ek_putF C fX3_152 fwX3_7 rfl (by decide) rfl dX3_considerWay_11 ?_
    refine dk_aload_n C dX3_considerWay_14 rfl rfl ?_
    refine dk_iload_n C dX3_considerWay_15 rfl rfl ?_
    refine dk_iload_n C dX3_considerWay_16 rfl rfl ?_
    refine dk_iload C dX3_considerWay_17 rfl ?_
    refine dk_iload C dX3_considerWay_19 rfl ?_
    refine ek_callVv C mX3_168 (c_X3_takeWay _ _ _ _ _ k hk w c j) rfl (by decide) rfl rfl (Nat.le_of_ble_eq_true rfl) (by decide) (by decide) (Nat.zero_le _) (Nat.zero_le _) dX3_considerWay_21 ?_
    rw [pl_hi_hi, pl_hf_hf]
    exact dk_vret C E dX3_considerWay_24 (Nat.zero_le _) (Nat.zero_le _) (⟨rfl, by rw [pl_cand, if_neg c1]; rfl⟩)
set_option maxHeartbeats 4000000 in
set_option maxRecDepth 100000 in
theorem c_X3_orderCountOf (G : dk_G) (sr : Nat → Option Nat) (hi : Nat → Nat → Int32) (hf : Nat → Nat → UInt32) (z : (Nat → Nat → Int64) × (Nat → Nat → UInt64)) (n : Nat) (hn : n ≤ 3) :
    dk_MF G yX3_orderCountOf cX3_orderCountOf 1 (some .int) 0 0 [.int (nI n)] (hi, hf, dk_RF sr, z) (some (.int (nI (if n = 3 then 6 else n)))) (hi, hf, dk_RF sr, z) := by
  refine dk_met (L := [some (.int (nI n))]) pnX3 rfl (Nat.le_of_ble_eq_true rfl) ?_
  intro X C E hNm
  refine dk_iload_n C dX3_orderCountOf_0 rfl rfl ?_
  refine dk_iconst C (3) dX3_orderCountOf_1 rfl ?_
  refine dk_icmp_ne C 10 dX3_orderCountOf_2 (by decide) (fun c1 => ?_) (fun c1 => ?_)
  · refine dk_iload_n C dX3_orderCountOf_10 rfl rfl ?_
    exact dk_iret C E dX3_orderCountOf_11 (Nat.zero_le _) (Nat.zero_le _) (⟨pI (by rw [if_neg (fun q => c1 (by rw [q]; rfl))]), rfl⟩)
  · have e : n = 3 := (nI_eq (by omega) (by decide)).mp c1
    refine dk_bipush C (6) dX3_orderCountOf_5 rfl ?_
    refine dk_goto C 11 dX3_orderCountOf_7 (by decide) ?_
    exact dk_iret C E dX3_orderCountOf_11 (Nat.zero_le _) (Nat.zero_le _) (⟨pI (by rw [if_pos e]; rfl), rfl⟩)
/-- which static array holds the orders of n sources -/
def pl_o (n : Nat) : Nat := if n = 1 then 0 else if n = 2 then 1 else 2
set_option maxHeartbeats 4000000 in
set_option maxRecDepth 100000 in
theorem c_X3_ordersOf (G : dk_G) (sr : Nat → Option Nat) (hi : Nat → Nat → Int32) (hf : Nat → Nat → UInt32) (z : (Nat → Nat → Int64) × (Nat → Nat → UInt64)) (n : Nat) (hn : n ≤ 3) :
    dk_MF G yX3_ordersOf cX3_ordersOf 1 (some (.array .int)) 0 0 [.int (nI n)] (hi, hf, dk_RF sr, z) (some (.retAddr (pl_o n))) (hi, hf, dk_RF sr, z) := by
  refine dk_met (L := [some (.int (nI n))]) pnX3 rfl (Nat.le_of_ble_eq_true rfl) ?_
  intro X C E hNm
  refine dk_iload_n C dX3_ordersOf_0 rfl rfl ?_
  refine dk_iconst C (1) dX3_ordersOf_1 rfl ?_
  refine dk_icmp_ne C 9 dX3_ordersOf_2 (by decide) (fun c1 => ?_) (fun c1 => ?_)
  · have e1 : n ≠ 1 := fun q => c1 (by rw [q]; rfl)
    refine dk_iload_n C dX3_ordersOf_9 rfl rfl ?_
    refine dk_iconst C (2) dX3_ordersOf_10 rfl ?_
    refine dk_icmp_ne C 20 dX3_ordersOf_11 (by decide) (fun c2 => ?_) (fun c2 => ?_)
    · have e2 : n ≠ 2 := fun q => c2 (by rw [q]; rfl)
      refine dk_gets C 2 (by decide) gsX3_75 dX3_ordersOf_20 ?_
      exact dk_aret C E rfl (Or.inr ⟨_, rfl⟩) dX3_ordersOf_23 (Nat.zero_le _) (Nat.zero_le _) ⟨by rw [pl_o, if_neg e1, if_neg e2], rfl⟩
    · have e2 : n = 2 := (nI_eq (by omega) (by decide)).mp c2
      refine dk_gets C 1 (by decide) gsX3_72 dX3_ordersOf_14 ?_
      refine dk_goto C 23 dX3_ordersOf_17 (by decide) ?_
      exact dk_aret C E rfl (Or.inr ⟨_, rfl⟩) dX3_ordersOf_23 (Nat.zero_le _) (Nat.zero_le _) ⟨by rw [pl_o, if_neg e1, if_pos e2], rfl⟩
  · have e1 : n = 1 := (nI_eq (by omega) (by decide)).mp c1
    refine dk_gets C 0 (by decide) gsX3_69 dX3_ordersOf_5 ?_
    exact dk_aret C E rfl (Or.inr ⟨_, rfl⟩) dX3_ordersOf_8 (Nat.zero_le _) (Nat.zero_le _) ⟨by rw [pl_o, if_pos e1], rfl⟩
/-- whether the source x stands among the first k of the order -/
def pl_bef (hi : Nat → Nat → Int32) (x : Int32) (k : Nat) : Bool := (List.range k).any (fun i => decide (hi 34 i = x))
theorem pl_bef_t {hi : Nat → Nat → Int32} {x : Int32} {k i : Nat} (h : i < k) (e : hi 34 i = x) : pl_bef hi x k = true := List.any_eq_true.mpr ⟨i, List.mem_range.mpr h, by simpa using e⟩
theorem pl_bef_f {hi : Nat → Nat → Int32} {x : Int32} {k : Nat} (h : ∀ i, i < k → hi 34 i ≠ x) : pl_bef hi x k = false := by
  cases e : pl_bef hi x k with
  | false => rfl
  | true =>
    obtain ⟨i, h1, h2⟩ := List.any_eq_true.mp e
    exact absurd (by simpa using h2) (h i (List.mem_range.mp h1))
set_option maxHeartbeats 4000000 in
set_option maxRecDepth 100000 in
theorem c_X3_isBefore (G : dk_G) (sr : Nat → Option Nat) (hi : Nat → Nat → Int32) (hf : Nat → Nat → UInt32) (z : (Nat → Nat → Int64) × (Nat → Nat → UInt64)) (x : Int32) (k : Nat) (hk : k ≤ 3) :
    dk_MF G yX3_isBefore cX3_isBefore 4 (some .boolean) 0 0 [.ref 30, .int x, .int (nI k)] (hi, hf, dk_RF sr, z) (some (.int (bI (pl_bef hi x k)))) (hi, hf, dk_RF sr, z) := by
  refine dk_met (L := [some (.ref 30), some (.int x), some (.int (nI k)), none]) pnX3 rfl (Nat.le_of_ble_eq_true rfl) ?_
  intro X C E hNm
  have loop : ∀ r p, p + r = k → (∀ i, i < p → hi 34 i ≠ x) → dk_W X 2 [some (.ref 30), some (.int x), some (.int (nI k)), some (.int (nI p))] [] 63 (hi, hf, dk_RF sr, z) 0 0 := by
    intro r
    induction r with
    | zero =>
      intro p hp he
      obtain rfl : p = k := by omega
      refine dk_iload_n C dX3_isBefore_2 rfl rfl ?_
      refine dk_iload_n C dX3_isBefore_3 rfl rfl ?_
      refine dk_icmp_ge C 25 dX3_isBefore_4 (by decide) (fun _ => ?_) (fun hz => absurd (Int32.le_refl _) hz)
      refine dk_iconst C (0) dX3_isBefore_25 rfl ?_
      exact dk_zret C E rfl dX3_isBefore_26 (Nat.zero_le _) (Nat.zero_le _) (⟨pI (bI_f (pl_bef_f he)), rfl⟩)
    | succ r ih =>
      intro p hp he
      refine dk_iload_n C dX3_isBefore_2 rfl rfl ?_
      refine dk_iload_n C dX3_isBefore_3 rfl rfl ?_
      refine dk_icmp_ge C 25 dX3_isBefore_4 (by decide) (fun hz => absurd hz (nI_ge (by omega) (by omega))) (fun _ => ?_)
      refine dk_aload_n C dX3_isBefore_7 rfl rfl ?_
      refine ek_getR C fX3_23 rfl (by decide) rfl 34 rfl dX3_isBefore_8 ?_
      refine dk_iload_n C dX3_isBefore_11 rfl rfl ?_
      refine ek_iald C rfl (by decide) (p) (rfl) (by omega) (by decide) dX3_isBefore_12 ?_
      refine dk_iload_n C dX3_isBefore_13 rfl rfl ?_
      refine dk_icmp_ne C 19 dX3_isBefore_14 (by decide) (fun c1 => ?_) (fun c1 => ?_)
      · refine dk_iinc C (nI (p + 1)) dX3_isBefore_19 rfl (nI_1 p) (by decide) rfl ?_
        refine dk_goto C 2 dX3_isBefore_22 (by decide) ?_
        exact ih (p + 1) (by omega) (lt_s he c1)
      · refine dk_iconst C (1) dX3_isBefore_17 rfl ?_
        exact dk_zret C E rfl dX3_isBefore_18 (Nat.zero_le _) (Nat.zero_le _) (⟨pI (bI_t (pl_bef_t (by omega) c1)), rfl⟩)
  refine dk_iconst C (0) dX3_isBefore_0 rfl ?_
  refine dk_istore_n C dX3_isBefore_1 rfl (by decide) rfl ?_
  exact loop k 0 (by omega) lt_0
/-- whether a join asks something of the k-th source with one before it -/
def pl_ties (hi : Nat → Nat → Int32) (c k : Nat) : Bool := decide (hi c 0 = hi 34 k ∨ hi c 2 = hi 34 k) && pl_bef hi (if hi c 0 = hi 34 k then hi c 2 else hi c 0) k
set_option maxHeartbeats 4000000 in
set_option maxRecDepth 100000 in
theorem c_X3_tiesBack (G : dk_G) (sr : Nat → Option Nat) (hi : Nat → Nat → Int32) (hf : Nat → Nat → UInt32) (z : (Nat → Nat → Int64) × (Nat → Nat → UInt64)) {c : Nat} (Q : dk_Q1 c) (k : Nat) (hk : k < 3) :
    dk_MF G yX3_tiesBack cX3_tiesBack 3 (some .boolean) 1 23 [.ref 30, .ref c, .int (nI k)] (hi, hf, dk_RF sr, z) (some (.int (bI (pl_ties hi c k)))) (hi, hf, dk_RF sr, z) := by
  refine dk_met (L := [some (.ref 30), some (.ref c), some (.int (nI k))]) pnX3 rfl (Nat.le_of_ble_eq_true rfl) ?_
  intro X C E hNm
  refine dk_aload_n C dX3_tiesBack_0 rfl rfl ?_
  refine dk_aload_n C dX3_tiesBack_1 rfl rfl ?_
  refine ek_getR C fX3_23 rfl (by decide) rfl 34 rfl dX3_tiesBack_2 ?_
  refine dk_iload_n C dX3_tiesBack_5 rfl rfl ?_
  refine ek_iald C rfl (by decide) (k) (rfl) (hk) (by decide) dX3_tiesBack_6 ?_
  refine ek_callV C mX3_56 (c_X1_ties _ _ _ _ _ Q (hi 34 k)) Q.s0 Q.l0 rfl rfl (Nat.le_of_ble_eq_true rfl) (by decide) (by decide) (Nat.zero_le _) (Nat.zero_le _) dX3_tiesBack_7 ?_
  refine dk_if_eq C 35 dX3_tiesBack_10 (by decide) (fun c1 => ?_) (fun c1 => ?_)
  · refine dk_iconst C (0) dX3_tiesBack_35 rfl ?_
    exact dk_zret C E rfl dX3_tiesBack_36 (Nat.zero_le _) (Nat.zero_le _) (⟨pI (bI_f (by rw [pl_ties, bI_n0 c1]; rfl)), rfl⟩)
  · refine dk_aload_n C dX3_tiesBack_13 rfl rfl ?_
    refine dk_aload_n C dX3_tiesBack_14 rfl rfl ?_
    refine dk_aload_n C dX3_tiesBack_15 rfl rfl ?_
    refine ek_getR C fX3_23 rfl (by decide) rfl 34 rfl dX3_tiesBack_16 ?_
    refine dk_iload_n C dX3_tiesBack_19 rfl rfl ?_
    refine ek_iald C rfl (by decide) (k) (rfl) (hk) (by decide) dX3_tiesBack_20 ?_
    refine ek_callV C mX3_62 (c_X1_partnerOf _ _ _ _ _ Q (hi 34 k)) Q.s0 Q.l0 rfl rfl (Nat.le_of_ble_eq_true rfl) (by decide) (by decide) (Nat.zero_le _) (Nat.zero_le _) dX3_tiesBack_21 ?_
    refine dk_iload_n C dX3_tiesBack_24 rfl rfl ?_
    refine ek_callV C mX3_65 (c_X3_isBefore _ _ _ _ _ _ k (by omega)) rfl (by decide) rfl rfl (Nat.le_of_ble_eq_true rfl) (by decide) (by decide) (Nat.zero_le _) (Nat.zero_le _) dX3_tiesBack_25 ?_
    refine dk_if_eq C 35 dX3_tiesBack_28 (by decide) (fun c2 => ?_) (fun c2 => ?_)
    · refine dk_iconst C (0) dX3_tiesBack_35 rfl ?_
      exact dk_zret C E rfl dX3_tiesBack_36 (Nat.zero_le _) (Nat.zero_le _) (⟨pI (bI_f (by rw [pl_ties, bI_n1 c1, bI_n0 c2]; rfl)), rfl⟩)
    · refine dk_iconst C (1) dX3_tiesBack_31 rfl ?_
      refine dk_goto C 36 dX3_tiesBack_32 (by decide) ?_
      exact dk_zret C E rfl dX3_tiesBack_36 (Nat.zero_le _) (Nat.zero_le _) (⟨pI (bI_t (by rw [pl_ties, bI_n1 c1, bI_n1 c2]; rfl)), rfl⟩)
set_option maxHeartbeats 4000000 in
set_option maxRecDepth 100000 in
theorem c_X3_joinShare (G : dk_G) (sr : Nat → Option Nat) (hi : Nat → Nat → Int32) (hf : Nat → Nat → UInt32) (z : (Nat → Nat → Int64) × (Nat → Nat → UInt64)) {c : Nat} (Q : dk_Q1 c) (j : Nat) (hj : j < 3) (s : Int32) :
    dk_MF G yX3_joinShare cX3_joinShare 4 (some .float) 0 0 [.ref 30, .ref c, .int (nI j), .int s] (hi, hf, dk_RF sr, z) (some (.float (if hi c 0 = s then hf 32 j else hf 33 j))) (hi, hf, dk_RF sr, z) := by
  refine dk_met (L := [some (.ref 30), some (.ref c), some (.int (nI j)), some (.int s)]) pnX3 rfl (Nat.le_of_ble_eq_true rfl) ?_
  intro X C E hNm
  refine dk_aload_n C dX3_joinShare_0 rfl rfl ?_
  refine ek_getI C fX3_105 Q.s0 Q.l0 rfl dX3_joinShare_1 ?_
  refine dk_iload_n C dX3_joinShare_4 rfl rfl ?_
  refine dk_icmp_ne C 17 dX3_joinShare_5 (by decide) (fun c1 => ?_) (fun c1 => ?_)
  · refine dk_aload_n C dX3_joinShare_17 rfl rfl ?_
    refine ek_getR C fX3_20 rfl (by decide) rfl 33 rfl dX3_joinShare_18 ?_
    refine dk_iload_n C dX3_joinShare_21 rfl rfl ?_
    refine ek_fald C rfl (by decide) (j) (rfl) (hj) (by decide) dX3_joinShare_22 ?_
    exact dk_fret C E dX3_joinShare_23 (Nat.zero_le _) (Nat.zero_le _) (⟨pF (by rw [if_neg c1]), rfl⟩)
  · refine dk_aload_n C dX3_joinShare_8 rfl rfl ?_
    refine ek_getR C fX3_17 rfl (by decide) rfl 32 rfl dX3_joinShare_9 ?_
    refine dk_iload_n C dX3_joinShare_12 rfl rfl ?_
    refine ek_fald C rfl (by decide) (j) (rfl) (hj) (by decide) dX3_joinShare_13 ?_
    refine dk_goto C 23 dX3_joinShare_14 (by decide) ?_
    exact dk_fret C E dX3_joinShare_23 (Nat.zero_le _) (Nat.zero_le _) (⟨pF (by rw [if_pos c1]), rfl⟩)
