/-! ===== QueryDesk$Table ===== -/
theorem pI {a b : Int32} (h : a = b) : some (Value.int a) = some (Value.int b) := by rw [h]
theorem pF {a b : UInt32} (h : a = b) : some (Value.float a) = some (Value.float b) := by rw [h]
theorem nb {x : Int32} (h : x = 0 ∨ x = 1) : narrow .boolean (.int x) = .int x := by rcases h with rfl | rfl <;> rfl
theorem nI4 (p c : Nat) : nI p * 4 + nI c = nI (p * 4 + c) := by rw [show (4 : Int32) = nI 4 from rfl, pk_mul, nI_add]
theorem nI2 (p c : Nat) : nI p * 2 + nI c = nI (p * 2 + c) := by rw [show (2 : Int32) = nI 2 from rfl, pk_mul, nI_add]
theorem nI4a (p c : Nat) : nI p * 4 + nI c = nI (4 * p + c) := by rw [nI4, Nat.mul_comm]
/-- the heap but for a run of equal ints from 0 on -/
def dk_fill (hi : Nat → Nat → Int32) (a k : Nat) (x : Int32) : Nat → Nat → Int32 := fun i j => if i = a ∧ j < k then x else hi i j
theorem dk_fill_0 (hi : Nat → Nat → Int32) (a : Nat) (x : Int32) : dk_fill hi a 0 x = hi := by
  funext i j; simp [dk_fill]
theorem dk_fill_s (hi : Nat → Nat → Int32) (a k : Nat) (x : Int32) : dk_up (dk_fill hi a k x) a k x = dk_fill hi a (k + 1) x := by
  funext i j
  simp only [dk_up, dk_fill]
  by_cases h1 : i = a
  · by_cases h2 : j = k
    · simp [h1, h2]
    · by_cases h3 : j < k
      · rw [if_neg (fun q => h2 q.2), if_pos ⟨h1, h3⟩, if_pos ⟨h1, by omega⟩]
      · rw [if_neg (fun q => h2 q.2), if_neg (fun q => h3 q.2), if_neg (fun q => by omega)]
  · simp [h1]
/-- the first place from p on, among r, where f holds x; -1 without -/
def tb_from (f : Nat → Int32) (x : Int32) : Nat → Nat → Int32
  | 0, _ => -1
  | r + 1, p => if f p = x then nI p else tb_from f x r (p + 1)
set_option maxHeartbeats 4000000 in
set_option maxRecDepth 100000 in
theorem c_X5_placeOf (G : dk_G) (sr : Nat → Option Nat) (hi : Nat → Nat → Int32) (hf : Nat → Nat → UInt32) (z : (Nat → Nat → Int64) × (Nat → Nat → UInt64)) {t : Nat} (T : dk_T t) (x : Int32) (n : Nat) (hn : hi t 4 = nI n) (hn' : n ≤ 24) :
    dk_MF G yX5_placeOf cX5_placeOf 3 (some .int) 0 0 [.ref t, .int x] (hi, hf, dk_RF sr, z) (some (.int (tb_from (hi (t + 1)) x n 0))) (hi, hf, dk_RF sr, z) := by
  refine dk_met (L := [some (.ref t), some (.int x), none]) pnX5 rfl (Nat.le_of_ble_eq_true rfl) ?_
  intro X C E hNm
  have loop : ∀ r p, p + r = n → tb_from (hi (t + 1)) x r p = tb_from (hi (t + 1)) x n 0 → dk_W X 2 [some (.ref t), some (.int x), some (.int (nI p))] [] 63 (hi, hf, dk_RF sr, z) 0 0 := by
    intro r
    induction r with
    | zero =>
      intro p hp he
      refine dk_iload_n C dX5_placeOf_2 rfl rfl ?_
      refine dk_aload_n C dX5_placeOf_3 rfl rfl ?_
      refine ek_getI C fX5_26 T.s0 T.l0 rfl dX5_placeOf_4 ?_
      refine dk_icmp_ge C 28 dX5_placeOf_7 (by decide) (fun _ => ?_) (fun hz => absurd (by rw [hn]; exact nI_le (by omega) (by omega)) hz)
      refine dk_iconst C (-1) dX5_placeOf_28 rfl ?_
      exact dk_iret C E dX5_placeOf_29 (Nat.zero_le _) (Nat.zero_le _) (⟨pI he, rfl⟩)
    | succ r ih =>
      intro p hp he
      refine dk_iload_n C dX5_placeOf_2 rfl rfl ?_
      refine dk_aload_n C dX5_placeOf_3 rfl rfl ?_
      refine ek_getI C fX5_26 T.s0 T.l0 rfl dX5_placeOf_4 ?_
      refine dk_icmp_ge C 28 dX5_placeOf_7 (by decide) (fun hz => absurd hz (by rw [hn]; exact nI_ge (by omega) (by omega))) (fun _ => ?_)
      refine dk_aload_n C dX5_placeOf_10 rfl rfl ?_
      refine ek_getR C fX5_11 T.s0 T.l0 rfl (t + 1) (T.r0 _) dX5_placeOf_11 ?_
      refine dk_iload_n C dX5_placeOf_14 rfl rfl ?_
      refine ek_iald C T.s1 T.l1 (p) (rfl) (by omega) (by decide) dX5_placeOf_15 ?_
      refine dk_iload_n C dX5_placeOf_16 rfl rfl ?_
      refine dk_icmp_ne C 22 dX5_placeOf_17 (by decide) (fun c1 => ?_) (fun c1 => ?_)
      · refine dk_iinc C (nI (p + 1)) dX5_placeOf_22 rfl (nI_1 p) (by decide) rfl ?_
        refine dk_goto C 2 dX5_placeOf_25 (by decide) ?_
        exact ih (p + 1) (by omega) (by rw [← he, tb_from, if_neg c1])
      · refine dk_iload_n C dX5_placeOf_20 rfl rfl ?_
        exact dk_iret C E dX5_placeOf_21 (Nat.zero_le _) (Nat.zero_le _) (⟨pI (by rw [← he, tb_from, if_pos c1]), rfl⟩)
  refine dk_iconst C (0) dX5_placeOf_0 rfl ?_
  refine dk_istore_n C dX5_placeOf_1 rfl (by decide) rfl ?_
  exact loop n 0 (by omega) rfl
set_option maxHeartbeats 4000000 in
set_option maxRecDepth 100000 in
theorem c_X5_hasColumn (G : dk_G) (sr : Nat → Option Nat) (hi : Nat → Nat → Int32) (hf : Nat → Nat → UInt32) (z : (Nat → Nat → Int64) × (Nat → Nat → UInt64)) {t : Nat} (T : dk_T t) (x : Int32) :
    dk_MF G yX5_hasColumn cX5_hasColumn 2 (some .boolean) 0 0 [.ref t, .int x] (hi, hf, dk_RF sr, z) (some (.int (if 0 ≤ x ∧ x < hi t 3 then 1 else 0))) (hi, hf, dk_RF sr, z) := by
  refine dk_met (L := [some (.ref t), some (.int x)]) pnX5 rfl (Nat.le_of_ble_eq_true rfl) ?_
  intro X C E hNm
  refine dk_iload_n C dX5_hasColumn_0 rfl rfl ?_
  refine dk_if_lt C 16 dX5_hasColumn_1 (by decide) (fun c1 => ?_) (fun c1 => ?_)
  · refine dk_iconst C (0) dX5_hasColumn_16 rfl ?_
    exact dk_zret C E rfl dX5_hasColumn_17 (Nat.zero_le _) (Nat.zero_le _) (⟨pI (by rw [if_neg (fun q => Int32.not_le.mpr c1 q.1)]), rfl⟩)
  · refine dk_iload_n C dX5_hasColumn_4 rfl rfl ?_
    refine dk_aload_n C dX5_hasColumn_5 rfl rfl ?_
    refine ek_getI C fX5_22 T.s0 T.l0 rfl dX5_hasColumn_6 ?_
    refine dk_icmp_ge C 16 dX5_hasColumn_9 (by decide) (fun c2 => ?_) (fun c2 => ?_)
    · refine dk_iconst C (0) dX5_hasColumn_16 rfl ?_
      exact dk_zret C E rfl dX5_hasColumn_17 (Nat.zero_le _) (Nat.zero_le _) (⟨pI (by rw [if_neg (fun q => Int32.not_le.mpr q.2 c2)]), rfl⟩)
    · refine dk_iconst C (1) dX5_hasColumn_12 rfl ?_
      refine dk_goto C 17 dX5_hasColumn_13 (by decide) ?_
      exact dk_zret C E rfl dX5_hasColumn_17 (Nat.zero_le _) (Nat.zero_le _) (⟨pI (by rw [if_pos ⟨Int32.not_lt.mp c1, Int32.not_le.mp c2⟩]), rfl⟩)
set_option maxHeartbeats 4000000 in
set_option maxRecDepth 100000 in
theorem c_X5_isFull (G : dk_G) (sr : Nat → Option Nat) (hi : Nat → Nat → Int32) (hf : Nat → Nat → UInt32) (z : (Nat → Nat → Int64) × (Nat → Nat → UInt64)) {t : Nat} (T : dk_T t) :
    dk_MF G yX5_isFull cX5_isFull 1 (some .boolean) 0 0 [.ref t] (hi, hf, dk_RF sr, z) (some (.int (if 24 ≤ hi t 4 ∨ 60 ≤ hi t 5 then 1 else 0))) (hi, hf, dk_RF sr, z) := by
  refine dk_met (L := [some (.ref t)]) pnX5 rfl (Nat.le_of_ble_eq_true rfl) ?_
  intro X C E hNm
  refine dk_aload_n C dX5_isFull_0 rfl rfl ?_
  refine ek_getI C fX5_26 T.s0 T.l0 rfl dX5_isFull_1 ?_
  refine dk_bipush C (24) dX5_isFull_4 rfl ?_
  refine dk_icmp_ge C 18 dX5_isFull_6 (by decide) (fun c1 => ?_) (fun c1 => ?_)
  · refine dk_iconst C (1) dX5_isFull_18 rfl ?_
    refine dk_goto C 23 dX5_isFull_19 (by decide) ?_
    exact dk_zret C E rfl dX5_isFull_23 (Nat.zero_le _) (Nat.zero_le _) (⟨pI (by rw [if_pos (Or.inl c1)]), rfl⟩)
  · refine dk_aload_n C dX5_isFull_9 rfl rfl ?_
    refine ek_getI C fX5_29 T.s0 T.l0 rfl dX5_isFull_10 ?_
    refine dk_bipush C (60) dX5_isFull_13 rfl ?_
    refine dk_icmp_lt C 22 dX5_isFull_15 (by decide) (fun c2 => ?_) (fun c2 => ?_)
    · refine dk_iconst C (0) dX5_isFull_22 rfl ?_
      exact dk_zret C E rfl dX5_isFull_23 (Nat.zero_le _) (Nat.zero_le _) (⟨pI (by rw [if_neg (fun q => q.elim (fun q => c1 q) (fun q => Int32.not_le.mpr c2 q))]), rfl⟩)
    · refine dk_iconst C (1) dX5_isFull_18 rfl ?_
      refine dk_goto C 23 dX5_isFull_19 (by decide) ?_
      exact dk_zret C E rfl dX5_isFull_23 (Nat.zero_le _) (Nat.zero_le _) (⟨pI (by rw [if_pos (Or.inr (Int32.not_lt.mp c2))]), rfl⟩)
/-- a table made anew -/
def tb_anew (hi : Nat → Nat → Int32) (t : Nat) (x : Int32) : Nat → Nat → Int32 := dk_fill (dk_up (dk_up (dk_up hi t 3 x) t 4 0) t 5 0) (t + 3) 8 0
set_option maxHeartbeats 4000000 in
set_option maxRecDepth 100000 in
theorem c_X5_makeAnew (G : dk_G) (sr : Nat → Option Nat) (hi : Nat → Nat → Int32) (hf : Nat → Nat → UInt32) (z : (Nat → Nat → Int64) × (Nat → Nat → UInt64)) {t : Nat} (T : dk_T t) (x : Int32) :
    dk_MF G yX5_makeAnew cX5_makeAnew 3 none 0 0 [.ref t, .int x] (hi, hf, dk_RF sr, z) (none) (tb_anew hi t x, hf, dk_RF sr, z) := by
  refine dk_met (L := [some (.ref t), some (.int x), none]) pnX5 rfl (Nat.le_of_ble_eq_true rfl) ?_
  intro X C E hNm
  have loop : ∀ r p, p + r = 8 → dk_W X 17 [some (.ref t), some (.int x), some (.int (nI p))] [] 63 (dk_fill (dk_up (dk_up (dk_up hi t 3 x) t 4 0) t 5 0) (t + 3) p 0, hf, dk_RF sr, z) 0 0 := by
    intro r
    induction r with
    | zero =>
      intro p hp
      obtain rfl : p = 8 := by omega
      refine dk_iload_n C dX5_makeAnew_17 rfl rfl ?_
      refine dk_bipush C (8) dX5_makeAnew_18 rfl ?_
      refine dk_icmp_ge C 36 dX5_makeAnew_20 (by decide) (fun _ => ?_) (fun hz => absurd (by decide) hz)
      exact dk_vret C E dX5_makeAnew_36 (Nat.zero_le _) (Nat.zero_le _) (⟨rfl, rfl⟩)
    | succ r ih =>
      intro p hp
      refine dk_iload_n C dX5_makeAnew_17 rfl rfl ?_
      refine dk_bipush C (8) dX5_makeAnew_18 rfl ?_
      refine dk_icmp_ge C 36 dX5_makeAnew_20 (by decide) (fun hz => absurd hz (nI_ge (b := 8) (by omega) (by omega))) (fun _ => ?_)
      refine dk_aload_n C dX5_makeAnew_23 rfl rfl ?_
      refine ek_getR C fX5_18 T.s0 T.l0 rfl (t + 3) (T.r2 _) dX5_makeAnew_24 ?_
      refine dk_iload_n C dX5_makeAnew_27 rfl rfl ?_
      refine dk_iconst C (0) dX5_makeAnew_28 rfl ?_
      refine ek_zast C T.s3 T.l3 (p) (rfl) (by omega) (by decide) (Or.inl rfl) dX5_makeAnew_29 ?_
      refine dk_iinc C (nI (p + 1)) dX5_makeAnew_30 rfl (nI_1 p) (by decide) rfl ?_
      refine dk_goto C 17 dX5_makeAnew_33 (by decide) ?_
      rw [dk_fill_s]
      exact ih (p + 1) (by omega)
  refine dk_aload_n C dX5_makeAnew_0 rfl rfl ?_
  refine dk_iload_n C dX5_makeAnew_1 rfl rfl ?_
  refine ek_putI C fX5_22 fwX5_3 T.s0 T.l0 rfl dX5_makeAnew_2 ?_
  refine dk_aload_n C dX5_makeAnew_5 rfl rfl ?_
  refine dk_iconst C (0) dX5_makeAnew_6 rfl ?_
  refine ek_putI C fX5_26 fwX5_4 T.s0 T.l0 rfl dX5_makeAnew_7 ?_
  refine dk_aload_n C dX5_makeAnew_10 rfl rfl ?_
  refine dk_iconst C (0) dX5_makeAnew_11 rfl ?_
  refine ek_putI C fX5_29 fwX5_5 T.s0 T.l0 rfl dX5_makeAnew_12 ?_
  refine dk_iconst C (0) dX5_makeAnew_15 rfl ?_
  refine dk_istore_n C dX5_makeAnew_16 rfl (by decide) rfl ?_
  rw [← dk_fill_0 (dk_up (dk_up (dk_up hi t 3 x) t 4 0) t 5 0) (t + 3) 0]
  exact loop 8 0 rfl
set_option maxHeartbeats 4000000 in
set_option maxRecDepth 100000 in
theorem c_X5_value (G : dk_G) (sr : Nat → Option Nat) (hi : Nat → Nat → Int32) (hf : Nat → Nat → UInt32) (z : (Nat → Nat → Int64) × (Nat → Nat → UInt64)) {t : Nat} (T : dk_T t) (p c : Nat) (hp : p < 24) (hc : c < 4) :
    dk_MF G yX5_value cX5_value 3 (some .int) 0 0 [.ref t, .int (nI p), .int (nI c)] (hi, hf, dk_RF sr, z) (some (.int (hi (t + 2) (p * 4 + c)))) (hi, hf, dk_RF sr, z) := by
  refine dk_met (L := [some (.ref t), some (.int (nI p)), some (.int (nI c))]) pnX5 rfl (Nat.le_of_ble_eq_true rfl) ?_
  intro X C E hNm
  refine dk_aload_n C dX5_value_0 rfl rfl ?_
  refine ek_getR C fX5_15 T.s0 T.l0 rfl (t + 2) (T.r1 _) dX5_value_1 ?_
  refine dk_iload_n C dX5_value_4 rfl rfl ?_
  refine dk_iconst C (4) dX5_value_5 rfl ?_
  refine dk_imul C dX5_value_6 ?_
  refine dk_iload_n C dX5_value_7 rfl rfl ?_
  refine dk_iadd C dX5_value_8 ?_
  refine ek_iald C T.s2 T.l2 (p * 4 + c) (nI4 p c) (by omega) (by decide) dX5_value_9 ?_
  exact dk_iret C E dX5_value_10 (Nat.zero_le _) (Nat.zero_le _) (⟨rfl, rfl⟩)
set_option maxHeartbeats 4000000 in
set_option maxRecDepth 100000 in
theorem c_X5_put (G : dk_G) (sr : Nat → Option Nat) (hi : Nat → Nat → Int32) (hf : Nat → Nat → UInt32) (z : (Nat → Nat → Int64) × (Nat → Nat → UInt64)) {t : Nat} (T : dk_T t) (p c : Nat) (x : Int32) (hp : p < 24) (hc : c < 4) :
    dk_MF G yX5_put cX5_put 4 none 0 0 [.ref t, .int (nI p), .int (nI c), .int x] (hi, hf, dk_RF sr, z) (none) (dk_up hi (t + 2) (p * 4 + c) x, hf, dk_RF sr, z) := by
  refine dk_met (L := [some (.ref t), some (.int (nI p)), some (.int (nI c)), some (.int x)]) pnX5 rfl (Nat.le_of_ble_eq_true rfl) ?_
  intro X C E hNm
  refine dk_aload_n C dX5_put_0 rfl rfl ?_
  refine ek_getR C fX5_15 T.s0 T.l0 rfl (t + 2) (T.r1 _) dX5_put_1 ?_
  refine dk_iload_n C dX5_put_4 rfl rfl ?_
  refine dk_iconst C (4) dX5_put_5 rfl ?_
  refine dk_imul C dX5_put_6 ?_
  refine dk_iload_n C dX5_put_7 rfl rfl ?_
  refine dk_iadd C dX5_put_8 ?_
  refine dk_iload_n C dX5_put_9 rfl rfl ?_
  refine ek_iast C T.s2 T.l2 (p * 4 + c) (nI4 p c) (by omega) (by decide) dX5_put_10 ?_
  exact dk_vret C E dX5_put_11 (Nat.zero_le _) (Nat.zero_le _) (⟨rfl, rfl⟩)
set_option maxHeartbeats 4000000 in
set_option maxRecDepth 100000 in
theorem c_X5_hasIndex (G : dk_G) (sr : Nat → Option Nat) (hi : Nat → Nat → Int32) (hf : Nat → Nat → UInt32) (z : (Nat → Nat → Int64) × (Nat → Nat → UInt64)) {t : Nat} (T : dk_T t) (c k : Nat) (hc : c < 4) (hk : k < 2) (hb : hi (t + 3) (c * 2 + k) = 0 ∨ hi (t + 3) (c * 2 + k) = 1) :
    dk_MF G yX5_hasIndex cX5_hasIndex 3 (some .boolean) 0 0 [.ref t, .int (nI c), .int (nI k)] (hi, hf, dk_RF sr, z) (some (.int (hi (t + 3) (c * 2 + k)))) (hi, hf, dk_RF sr, z) := by
  refine dk_met (L := [some (.ref t), some (.int (nI c)), some (.int (nI k))]) pnX5 rfl (Nat.le_of_ble_eq_true rfl) ?_
  intro X C E hNm
  refine dk_aload_n C dX5_hasIndex_0 rfl rfl ?_
  refine ek_getR C fX5_18 T.s0 T.l0 rfl (t + 3) (T.r2 _) dX5_hasIndex_1 ?_
  refine dk_iload_n C dX5_hasIndex_4 rfl rfl ?_
  refine dk_iconst C (2) dX5_hasIndex_5 rfl ?_
  refine dk_imul C dX5_hasIndex_6 ?_
  refine dk_iload_n C dX5_hasIndex_7 rfl rfl ?_
  refine dk_iadd C dX5_hasIndex_8 ?_
  refine ek_zald C T.s3 T.l3 (c * 2 + k) (nI2 c k) (by omega) (by decide) dX5_hasIndex_9 ?_
  exact dk_zret C E (nb hb) dX5_hasIndex_10 (Nat.zero_le _) (Nat.zero_le _) (⟨rfl, rfl⟩)
set_option maxHeartbeats 4000000 in
set_option maxRecDepth 100000 in
theorem c_X5_setIndex (G : dk_G) (sr : Nat → Option Nat) (hi : Nat → Nat → Int32) (hf : Nat → Nat → UInt32) (z : (Nat → Nat → Int64) × (Nat → Nat → UInt64)) {t : Nat} (T : dk_T t) (c k : Nat) (x : Int32) (hc : c < 4) (hk : k < 2) (hx : x = 0 ∨ x = 1) :
    dk_MF G yX5_setIndex cX5_setIndex 4 none 0 0 [.ref t, .int (nI c), .int (nI k), .int x] (hi, hf, dk_RF sr, z) (none) (dk_up hi (t + 3) (c * 2 + k) x, hf, dk_RF sr, z) := by
  refine dk_met (L := [some (.ref t), some (.int (nI c)), some (.int (nI k)), some (.int x)]) pnX5 rfl (Nat.le_of_ble_eq_true rfl) ?_
  intro X C E hNm
  refine dk_aload_n C dX5_setIndex_0 rfl rfl ?_
  refine ek_getR C fX5_18 T.s0 T.l0 rfl (t + 3) (T.r2 _) dX5_setIndex_1 ?_
  refine dk_iload_n C dX5_setIndex_4 rfl rfl ?_
  refine dk_iconst C (2) dX5_setIndex_5 rfl ?_
  refine dk_imul C dX5_setIndex_6 ?_
  refine dk_iload_n C dX5_setIndex_7 rfl rfl ?_
  refine dk_iadd C dX5_setIndex_8 ?_
  refine dk_iload_n C dX5_setIndex_9 rfl rfl ?_
  refine ek_zast C T.s3 T.l3 (c * 2 + k) (nI2 c k) (by omega) (by decide) (hx) dX5_setIndex_10 ?_
  exact dk_vret C E dX5_setIndex_11 (Nat.zero_le _) (Nat.zero_le _) (⟨rfl, rfl⟩)
/-- whether f's value at p stands before p -/
def sbf (f : Nat → Int32) (p : Nat) : Prop := ∃ q, q < p ∧ f q = f p
theorem sbf_dec (f : Nat → Int32) (p : Nat) : Nonempty (Decidable (sbf f p)) := ⟨Classical.propDecidable _⟩
noncomputable def sbI (f : Nat → Int32) (p : Nat) : Int32 := if (List.range p).any (fun q => decide (f q = f p)) = true then 1 else 0
theorem sbI_1 {f : Nat → Int32} {p q : Nat} (h : q < p) (e : f q = f p) : sbI f p = 1 := by
  unfold sbI
  rw [if_pos (List.any_eq_true.mpr ⟨q, List.mem_range.mpr h, by simpa using e⟩)]
theorem sbI_0 {f : Nat → Int32} {p : Nat} (h : ∀ q, q < p → f q ≠ f p) : sbI f p = 0 := by
  unfold sbI
  rw [if_neg]
  intro z
  obtain ⟨q, h1, h2⟩ := List.any_eq_true.mp z
  exact h q (List.mem_range.mp h1) (by simpa using h2)
theorem sbI_or (f : Nat → Int32) (p : Nat) : sbI f p = 0 ∨ sbI f p = 1 := by
  unfold sbI
  split
  · exact Or.inr rfl
  · exact Or.inl rfl
/-- a column of a table: the value at a place -/
abbrev tb_c (hi : Nat → Nat → Int32) (t c : Nat) : Nat → Int32 := fun p => hi (t + 2) (p * 4 + c)
set_option maxHeartbeats 4000000 in
set_option maxRecDepth 100000 in
theorem c_X5_standsBefore (G : dk_G) (sr : Nat → Option Nat) (hi : Nat → Nat → Int32) (hf : Nat → Nat → UInt32) (z : (Nat → Nat → Int64) × (Nat → Nat → UInt64)) {t : Nat} (T : dk_T t) (p c : Nat) (hp : p < 24) (hc : c < 4) :
    dk_MF G yX5_standsBefore cX5_standsBefore 5 (some .boolean) 1 22 [.ref t, .int (nI p), .int (nI c)] (hi, hf, dk_RF sr, z) (some (.int (sbI (tb_c hi t c) p))) (hi, hf, dk_RF sr, z) := by
  refine dk_met (L := [some (.ref t), some (.int (nI p)), some (.int (nI c)), none, none]) pnX5 rfl (Nat.le_of_ble_eq_true rfl) ?_
  intro X C E hNm
  have loop : ∀ r q, q + r = p → (∀ k, k < q → tb_c hi t c k ≠ tb_c hi t c p) → dk_W X 10 [some (.ref t), some (.int (nI p)), some (.int (nI c)), some (.int (tb_c hi t c p)), some (.int (nI q))] [] 63 (hi, hf, dk_RF sr, z) 0 0 := by
    intro r
    induction r with
    | zero =>
      intro q hq he
      obtain rfl : q = p := by omega
      refine dk_iload C dX5_standsBefore_10 rfl ?_
      refine dk_iload_n C dX5_standsBefore_12 rfl rfl ?_
      refine dk_icmp_ge C 35 dX5_standsBefore_13 (by decide) (fun _ => ?_) (fun hz => absurd (Int32.le_refl _) hz)
      refine dk_iconst C (0) dX5_standsBefore_35 rfl ?_
      exact dk_zret C E rfl dX5_standsBefore_36 (Nat.zero_le _) (Nat.zero_le _) (⟨pI (sbI_0 he).symm, rfl⟩)
    | succ r ih =>
      intro q hq he
      refine dk_iload C dX5_standsBefore_10 rfl ?_
      refine dk_iload_n C dX5_standsBefore_12 rfl rfl ?_
      refine dk_icmp_ge C 35 dX5_standsBefore_13 (by decide) (fun hz => absurd hz (nI_ge (by omega) (by omega))) (fun _ => ?_)
      refine dk_aload_n C dX5_standsBefore_16 rfl rfl ?_
      refine dk_iload C dX5_standsBefore_17 rfl ?_
      refine dk_iload_n C dX5_standsBefore_19 rfl rfl ?_
      refine ek_callV C mX5_42 (c_X5_value _ _ _ _ _ T q c (by omega) hc) T.s0 T.l0 rfl rfl (Nat.le_of_ble_eq_true rfl) (by decide) (by decide) (Nat.zero_le _) (Nat.zero_le _) dX5_standsBefore_20 ?_
      refine dk_iload_n C dX5_standsBefore_23 rfl rfl ?_
      refine dk_icmp_ne C 29 dX5_standsBefore_24 (by decide) (fun c1 => ?_) (fun c1 => ?_)
      · refine dk_iinc C (nI (q + 1)) dX5_standsBefore_29 rfl (nI_1 q) (by decide) rfl ?_
        refine dk_goto C 10 dX5_standsBefore_32 (by decide) ?_
        exact ih (q + 1) (by omega) (lt_s he c1)
      · refine dk_iconst C (1) dX5_standsBefore_27 rfl ?_
        exact dk_zret C E rfl dX5_standsBefore_28 (Nat.zero_le _) (Nat.zero_le _) (⟨pI (sbI_1 (f := tb_c hi t c) (q := q) (by omega) c1).symm, rfl⟩)
  refine dk_aload_n C dX5_standsBefore_0 rfl rfl ?_
  refine dk_iload_n C dX5_standsBefore_1 rfl rfl ?_
  refine dk_iload_n C dX5_standsBefore_2 rfl rfl ?_
  refine ek_callV C mX5_42 (c_X5_value _ _ _ _ _ T p c hp hc) T.s0 T.l0 rfl rfl (Nat.le_of_ble_eq_true rfl) (by decide) (by decide) (Nat.zero_le _) (Nat.zero_le _) dX5_standsBefore_3 ?_
  refine dk_istore_n C dX5_standsBefore_6 rfl (by decide) rfl ?_
  refine dk_iconst C (0) dX5_standsBefore_7 rfl ?_
  refine dk_istore C dX5_standsBefore_8 (by decide) rfl ?_
  exact loop p 0 (by omega) lt_0
/-- how many different values f has below n -/
noncomputable def dvc (f : Nat → Int32) : Nat → Nat
  | 0 => 0
  | n + 1 => dvc f n + (if sbI f n = 0 then 1 else 0)
set_option maxHeartbeats 4000000 in
set_option maxRecDepth 100000 in
theorem c_X5_differentValues (G : dk_G) (sr : Nat → Option Nat) (hi : Nat → Nat → Int32) (hf : Nat → Nat → UInt32) (z : (Nat → Nat → Int64) × (Nat → Nat → UInt64)) {t : Nat} (T : dk_T t) (c n : Nat) (hc : c < 4) (hn : hi t 4 = nI n) (hn' : n ≤ 24) :
    dk_MF G yX5_differentValues cX5_differentValues 4 (some .int) 2 46 [.ref t, .int (nI c)] (hi, hf, dk_RF sr, z) (some (.int (nI (dvc (tb_c hi t c) n)))) (hi, hf, dk_RF sr, z) := by
  refine dk_met (L := [some (.ref t), some (.int (nI c)), none, none]) pnX5 rfl (Nat.le_of_ble_eq_true rfl) ?_
  intro X C E hNm
  have loop : ∀ r p, p + r = n → dk_W X 4 [some (.ref t), some (.int (nI c)), some (.int (nI (dvc (tb_c hi t c) p))), some (.int (nI p))] [] 63 (hi, hf, dk_RF sr, z) 0 0 := by
    intro r
    induction r with
    | zero =>
      intro p hp
      obtain rfl : p = n := by omega
      refine dk_iload_n C dX5_differentValues_4 rfl rfl ?_
      refine dk_aload_n C dX5_differentValues_5 rfl rfl ?_
      refine ek_getI C fX5_26 T.s0 T.l0 rfl dX5_differentValues_6 ?_
      refine dk_icmp_ge C 30 dX5_differentValues_9 (by decide) (fun _ => ?_) (fun hz => absurd (by rw [hn]; exact Int32.le_refl _) hz)
      refine dk_iload_n C dX5_differentValues_30 rfl rfl ?_
      exact dk_iret C E dX5_differentValues_31 (Nat.zero_le _) (Nat.zero_le _) (⟨rfl, rfl⟩)
    | succ r ih =>
      intro p hp
      refine dk_iload_n C dX5_differentValues_4 rfl rfl ?_
      refine dk_aload_n C dX5_differentValues_5 rfl rfl ?_
      refine ek_getI C fX5_26 T.s0 T.l0 rfl dX5_differentValues_6 ?_
      refine dk_icmp_ge C 30 dX5_differentValues_9 (by decide) (fun hz => absurd hz (by rw [hn]; exact nI_ge (by omega) (by omega))) (fun _ => ?_)
      refine dk_aload_n C dX5_differentValues_12 rfl rfl ?_
      refine dk_iload_n C dX5_differentValues_13 rfl rfl ?_
      refine dk_iload_n C dX5_differentValues_14 rfl rfl ?_
      refine ek_callV C mX5_38 (c_X5_standsBefore _ _ _ _ _ T p c (by omega) hc) T.s0 T.l0 rfl rfl (Nat.le_of_ble_eq_true rfl) (by decide) (by decide) (Nat.zero_le _) (Nat.zero_le _) dX5_differentValues_15 ?_
      refine dk_if_ne C 24 dX5_differentValues_18 (by decide) (fun c1 => ?_) (fun c1 => ?_)
      · refine dk_iinc C (nI (p + 1)) dX5_differentValues_24 rfl (nI_1 p) (by decide) rfl ?_
        refine dk_goto C 4 dX5_differentValues_27 (by decide) ?_
        have e : dvc (tb_c hi t c) (p + 1) = dvc (tb_c hi t c) p := by rw [dvc, if_neg c1]; rfl
        rw [← e]
        exact ih (p + 1) (by omega)
      · refine dk_iinc C (nI (dvc (tb_c hi t c) p + 1)) dX5_differentValues_21 rfl (nI_1 _) (by decide) rfl ?_
        refine dk_iinc C (nI (p + 1)) dX5_differentValues_24 rfl (nI_1 p) (by decide) rfl ?_
        refine dk_goto C 4 dX5_differentValues_27 (by decide) ?_
        have e : dvc (tb_c hi t c) (p + 1) = dvc (tb_c hi t c) p + 1 := by rw [dvc, if_pos c1]
        rw [← e]
        exact ih (p + 1) (by omega)
  refine dk_iconst C (0) dX5_differentValues_0 rfl ?_
  refine dk_istore_n C dX5_differentValues_1 rfl (by decide) rfl ?_
  refine dk_iconst C (0) dX5_differentValues_2 rfl ?_
  refine dk_istore_n C dX5_differentValues_3 rfl (by decide) rfl ?_
  exact loop n 0 (by omega)
/-- the least, the greatest of f's values from 0 to n -/
def mnc (f : Nat → Int32) : Nat → Int32
  | 0 => f 0
  | n + 1 => if f (n + 1) < mnc f n then f (n + 1) else mnc f n
def mxc (f : Nat → Int32) : Nat → Int32
  | 0 => f 0
  | n + 1 => if mxc f n < f (n + 1) then f (n + 1) else mxc f n
set_option maxHeartbeats 4000000 in
set_option maxRecDepth 100000 in
theorem c_X5_least (G : dk_G) (sr : Nat → Option Nat) (hi : Nat → Nat → Int32) (hf : Nat → Nat → UInt32) (z : (Nat → Nat → Int64) × (Nat → Nat → UInt64)) {t : Nat} (T : dk_T t) (c n : Nat) (hc : c < 4) (hn : hi t 4 = nI (n + 1)) (hn' : n + 1 ≤ 24) :
    dk_MF G yX5_least cX5_least 4 (some .int) 1 22 [.ref t, .int (nI c)] (hi, hf, dk_RF sr, z) (some (.int (mnc (tb_c hi t c) n))) (hi, hf, dk_RF sr, z) := by
  refine dk_met (L := [some (.ref t), some (.int (nI c)), none, none]) pnX5 rfl (Nat.le_of_ble_eq_true rfl) ?_
  intro X C E hNm
  have loop : ∀ r p, p + r = n → dk_W X 9 [some (.ref t), some (.int (nI c)), some (.int (mnc (tb_c hi t c) p)), some (.int (nI (p + 1)))] [] 63 (hi, hf, dk_RF sr, z) 0 0 := by
    intro r
    induction r with
    | zero =>
      intro p hp
      obtain rfl : p = n := by omega
      refine dk_iload_n C dX5_least_9 rfl rfl ?_
      refine dk_aload_n C dX5_least_10 rfl rfl ?_
      refine ek_getI C fX5_26 T.s0 T.l0 rfl dX5_least_11 ?_
      refine dk_icmp_ge C 34 dX5_least_14 (by decide) (fun _ => ?_) (fun hz => absurd (by rw [hn]; exact Int32.le_refl _) hz)
      refine dk_iload_n C dX5_least_34 rfl rfl ?_
      exact dk_iret C E dX5_least_35 (Nat.zero_le _) (Nat.zero_le _) (⟨rfl, rfl⟩)
    | succ r ih =>
      intro p hp
      refine dk_iload_n C dX5_least_9 rfl rfl ?_
      refine dk_aload_n C dX5_least_10 rfl rfl ?_
      refine ek_getI C fX5_26 T.s0 T.l0 rfl dX5_least_11 ?_
      refine dk_icmp_ge C 34 dX5_least_14 (by decide) (fun hz => absurd hz (by rw [hn]; exact nI_ge (by omega) (by omega))) (fun _ => ?_)
      refine dk_iload_n C dX5_least_17 rfl rfl ?_
      refine dk_aload_n C dX5_least_18 rfl rfl ?_
      refine dk_iload_n C dX5_least_19 rfl rfl ?_
      refine dk_iload_n C dX5_least_20 rfl rfl ?_
      refine ek_callV C mX5_42 (c_X5_value _ _ _ _ _ T (p + 1) c (by omega) hc) T.s0 T.l0 rfl rfl (Nat.le_of_ble_eq_true rfl) (by decide) (by decide) (Nat.zero_le _) (Nat.zero_le _) dX5_least_21 ?_
      refine dk_mmin C mmX5_46 mm1min mm2 mm3min dX5_least_24 (by decide) (Nat.le_of_ble_eq_true rfl) (Nat.zero_le _) (Nat.zero_le _) ?_
      refine dk_istore_n C dX5_least_27 rfl (by decide) rfl ?_
      refine dk_iinc C (nI (p + 1 + 1)) dX5_least_28 rfl (nI_1 _) (by decide) rfl ?_
      refine dk_goto C 9 dX5_least_31 (by decide) ?_
      exact ih (p + 1) (by omega)
  refine dk_aload_n C dX5_least_0 rfl rfl ?_
  refine dk_iconst C (0) dX5_least_1 rfl ?_
  refine dk_iload_n C dX5_least_2 rfl rfl ?_
  refine ek_callV C mX5_42 (c_X5_value _ _ _ _ _ T 0 c (by omega) hc) T.s0 T.l0 rfl rfl (Nat.le_of_ble_eq_true rfl) (by decide) (by decide) (Nat.zero_le _) (Nat.zero_le _) dX5_least_3 ?_
  refine dk_istore_n C dX5_least_6 rfl (by decide) rfl ?_
  refine dk_iconst C (1) dX5_least_7 rfl ?_
  refine dk_istore_n C dX5_least_8 rfl (by decide) rfl ?_
  exact loop n 0 (by omega)
set_option maxHeartbeats 4000000 in
set_option maxRecDepth 100000 in
theorem c_X5_greatest (G : dk_G) (sr : Nat → Option Nat) (hi : Nat → Nat → Int32) (hf : Nat → Nat → UInt32) (z : (Nat → Nat → Int64) × (Nat → Nat → UInt64)) {t : Nat} (T : dk_T t) (c n : Nat) (hc : c < 4) (hn : hi t 4 = nI (n + 1)) (hn' : n + 1 ≤ 24) :
    dk_MF G yX5_greatest cX5_greatest 4 (some .int) 1 22 [.ref t, .int (nI c)] (hi, hf, dk_RF sr, z) (some (.int (mxc (tb_c hi t c) n))) (hi, hf, dk_RF sr, z) := by
  refine dk_met (L := [some (.ref t), some (.int (nI c)), none, none]) pnX5 rfl (Nat.le_of_ble_eq_true rfl) ?_
  intro X C E hNm
  have loop : ∀ r p, p + r = n → dk_W X 9 [some (.ref t), some (.int (nI c)), some (.int (mxc (tb_c hi t c) p)), some (.int (nI (p + 1)))] [] 63 (hi, hf, dk_RF sr, z) 0 0 := by
    intro r
    induction r with
    | zero =>
      intro p hp
      obtain rfl : p = n := by omega
      refine dk_iload_n C dX5_greatest_9 rfl rfl ?_
      refine dk_aload_n C dX5_greatest_10 rfl rfl ?_
      refine ek_getI C fX5_26 T.s0 T.l0 rfl dX5_greatest_11 ?_
      refine dk_icmp_ge C 34 dX5_greatest_14 (by decide) (fun _ => ?_) (fun hz => absurd (by rw [hn]; exact Int32.le_refl _) hz)
      refine dk_iload_n C dX5_greatest_34 rfl rfl ?_
      exact dk_iret C E dX5_greatest_35 (Nat.zero_le _) (Nat.zero_le _) (⟨rfl, rfl⟩)
    | succ r ih =>
      intro p hp
      refine dk_iload_n C dX5_greatest_9 rfl rfl ?_
      refine dk_aload_n C dX5_greatest_10 rfl rfl ?_
      refine ek_getI C fX5_26 T.s0 T.l0 rfl dX5_greatest_11 ?_
      refine dk_icmp_ge C 34 dX5_greatest_14 (by decide) (fun hz => absurd hz (by rw [hn]; exact nI_ge (by omega) (by omega))) (fun _ => ?_)
      refine dk_iload_n C dX5_greatest_17 rfl rfl ?_
      refine dk_aload_n C dX5_greatest_18 rfl rfl ?_
      refine dk_iload_n C dX5_greatest_19 rfl rfl ?_
      refine dk_iload_n C dX5_greatest_20 rfl rfl ?_
      refine ek_callV C mX5_42 (c_X5_value _ _ _ _ _ T (p + 1) c (by omega) hc) T.s0 T.l0 rfl rfl (Nat.le_of_ble_eq_true rfl) (by decide) (by decide) (Nat.zero_le _) (Nat.zero_le _) dX5_greatest_21 ?_
      refine dk_mmax C mmX5_51 mm1max mm2 mm3max dX5_greatest_24 (by decide) (Nat.le_of_ble_eq_true rfl) (Nat.zero_le _) (Nat.zero_le _) ?_
      refine dk_istore_n C dX5_greatest_27 rfl (by decide) rfl ?_
      refine dk_iinc C (nI (p + 1 + 1)) dX5_greatest_28 rfl (nI_1 _) (by decide) rfl ?_
      refine dk_goto C 9 dX5_greatest_31 (by decide) ?_
      exact ih (p + 1) (by omega)
  refine dk_aload_n C dX5_greatest_0 rfl rfl ?_
  refine dk_iconst C (0) dX5_greatest_1 rfl ?_
  refine dk_iload_n C dX5_greatest_2 rfl rfl ?_
  refine ek_callV C mX5_42 (c_X5_value _ _ _ _ _ T 0 c (by omega) hc) T.s0 T.l0 rfl rfl (Nat.le_of_ble_eq_true rfl) (by decide) (by decide) (Nat.zero_le _) (Nat.zero_le _) dX5_greatest_3 ?_
  refine dk_istore_n C dX5_greatest_6 rfl (by decide) rfl ?_
  refine dk_iconst C (1) dX5_greatest_7 rfl ?_
  refine dk_istore_n C dX5_greatest_8 rfl (by decide) rfl ?_
  exact loop n 0 (by omega)
