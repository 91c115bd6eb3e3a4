/-- a table with a row more -/
def tb_add (hi : Nat → Nat → Int32) (t r : Nat) (a b c d : Int32) : Nat → Nat → Int32 :=
  dk_up (dk_up (dk_up (dk_up (dk_up (dk_up (dk_up hi (t + 2) (r * 4) a) (t + 2) (r * 4 + 1) b) (t + 2) (r * 4 + 2) c) (t + 2) (r * 4 + 3) d) (t + 1) r (hi t 5)) t 4 (nI (r + 1))) t 5 (hi t 5 + 1)
theorem nI4k (p : Nat) : nI p * 4 = nI (p * 4) := by rw [show (4 : Int32) = nI 4 from rfl, pk_mul]
set_option maxHeartbeats 4000000 in
set_option maxRecDepth 100000 in
theorem c_X5_add (G : dk_G) (sr : Nat → Option Nat) (hi : Nat → Nat → Int32) (hf : Nat → Nat → UInt32) (z : (Nat → Nat → Int64) × (Nat → Nat → UInt64)) {t : Nat} (T : dk_T t) (r : Nat) (a b c d : Int32) (hr : hi t 4 = nI r) (hr' : r < 24) :
    dk_MF G yX5_add cX5_add 7 (some .int) 0 0 [.ref t, .int a, .int b, .int c, .int d] (hi, hf, dk_RF sr, z) (some (.int (hi t 5))) (tb_add hi t r a b c d, hf, dk_RF sr, z) := by
  refine dk_met (L := [some (.ref t), some (.int a), some (.int b), some (.int c), some (.int d), none, none]) pnX5 rfl (Nat.le_of_ble_eq_true rfl) ?_
  intro X C E hNm
  have e0 : hi t 4 * 4 = nI (r * 4) := by rw [hr, nI4k]
  refine dk_aload_n C dX5_add_0 rfl rfl ?_
  refine ek_getI C fX5_26 T.s0 T.l0 rfl dX5_add_1 ?_
  refine dk_iconst C (4) dX5_add_4 rfl ?_
  refine dk_imul C dX5_add_5 ?_
  rw [e0]
  refine dk_istore C dX5_add_6 (by decide) rfl ?_
  refine dk_aload_n C dX5_add_8 rfl rfl ?_
  refine ek_getR C fX5_15 T.s0 T.l0 rfl (t + 2) (T.r1 _) dX5_add_9 ?_
  refine dk_iload C dX5_add_12 rfl ?_
  refine dk_iload_n C dX5_add_14 rfl rfl ?_
  refine ek_iast C T.s2 T.l2 (r * 4) (rfl) (by omega) (by decide) dX5_add_15 ?_
  refine dk_aload_n C dX5_add_16 rfl rfl ?_
  refine ek_getR C fX5_15 T.s0 T.l0 rfl (t + 2) (T.r1 _) dX5_add_17 ?_
  refine dk_iload C dX5_add_20 rfl ?_
  refine dk_iconst C (1) dX5_add_22 rfl ?_
  refine dk_iadd C dX5_add_23 ?_
  refine dk_iload_n C dX5_add_24 rfl rfl ?_
  refine ek_iast C T.s2 T.l2 (r * 4 + 1) (nI_add (r * 4) 1) (by omega) (by decide) dX5_add_25 ?_
  refine dk_aload_n C dX5_add_26 rfl rfl ?_
  refine ek_getR C fX5_15 T.s0 T.l0 rfl (t + 2) (T.r1 _) dX5_add_27 ?_
  refine dk_iload C dX5_add_30 rfl ?_
  refine dk_iconst C (2) dX5_add_32 rfl ?_
  refine dk_iadd C dX5_add_33 ?_
  refine dk_iload_n C dX5_add_34 rfl rfl ?_
  refine ek_iast C T.s2 T.l2 (r * 4 + 2) (nI_add (r * 4) 2) (by omega) (by decide) dX5_add_35 ?_
  refine dk_aload_n C dX5_add_36 rfl rfl ?_
  refine ek_getR C fX5_15 T.s0 T.l0 rfl (t + 2) (T.r1 _) dX5_add_37 ?_
  refine dk_iload C dX5_add_40 rfl ?_
  refine dk_iconst C (3) dX5_add_42 rfl ?_
  refine dk_iadd C dX5_add_43 ?_
  refine dk_iload C dX5_add_44 rfl ?_
  refine ek_iast C T.s2 T.l2 (r * 4 + 3) (nI_add (r * 4) 3) (by omega) (by decide) dX5_add_46 ?_
  obtain ⟨h1, hh, e4, e5⟩ : ∃ h1, h1 = dk_up (dk_up (dk_up (dk_up hi (t + 2) (r * 4) a) (t + 2) (r * 4 + 1) b) (t + 2) (r * 4 + 2) c) (t + 2) (r * 4 + 3) d ∧ h1 t 4 = nI r ∧ h1 t 5 = hi t 5 := ⟨_, rfl, by simp [dk_up, hr], by simp [dk_up]⟩
  rw [← hh]
  refine dk_aload_n C dX5_add_47 rfl rfl ?_
  refine ek_getI C fX5_29 T.s0 T.l0 rfl dX5_add_48 ?_
  refine dk_istore C dX5_add_51 (by decide) rfl ?_
  refine dk_aload_n C dX5_add_53 rfl rfl ?_
  refine ek_getR C fX5_11 T.s0 T.l0 rfl (t + 1) (T.r0 _) dX5_add_54 ?_
  refine dk_aload_n C dX5_add_57 rfl rfl ?_
  refine ek_getI C fX5_26 T.s0 T.l0 rfl dX5_add_58 ?_
  refine dk_iload C dX5_add_61 rfl ?_
  refine ek_iast C T.s1 T.l1 (r) (e4) (hr') (by decide) dX5_add_63 ?_
  refine dk_aload_n C dX5_add_64 rfl rfl ?_
  refine dk_dup C dX5_add_65 rfl ?_
  refine ek_getI C fX5_26 T.s0 T.l0 rfl dX5_add_66 ?_
  refine dk_iconst C (1) dX5_add_69 rfl ?_
  refine dk_iadd C dX5_add_70 ?_
  refine ek_putI C fX5_26 fwX5_4 T.s0 T.l0 rfl dX5_add_71 ?_
  refine dk_aload_n C dX5_add_74 rfl rfl ?_
  refine dk_dup C dX5_add_75 rfl ?_
  refine ek_getI C fX5_29 T.s0 T.l0 rfl dX5_add_76 ?_
  refine dk_iconst C (1) dX5_add_79 rfl ?_
  refine dk_iadd C dX5_add_80 ?_
  refine ek_putI C fX5_29 fwX5_5 T.s0 T.l0 rfl dX5_add_81 ?_
  have e6 : dk_up h1 (t + 1) r (h1 t 5) t 4 = nI r := by rw [dk_up_ne _ _ (Or.inl (by omega)), e4]
  rw [e6]
  have e7 : dk_up (dk_up h1 (t + 1) r (h1 t 5)) t 4 (nI r + 1) t 5 = hi t 5 := by rw [dk_up_ne _ _ (Or.inr (by omega)), dk_up_ne _ _ (Or.inl (by omega)), e5]
  rw [e7, e5]
  refine dk_iload C dX5_add_84 rfl ?_
  exact dk_iret C E dX5_add_86 (Nat.zero_le _) (Nat.zero_le _) (⟨rfl, by rw [tb_add, ← hh, nI_1]⟩)
/-- a table with a row less -/
def tb_rem (hi : Nat → Nat → Int32) (t n p : Nat) : Nat → Nat → Int32 :=
  dk_up (dk_cp (dk_cp hi (t + 1) (p + 1) p (n - p - 1)) (t + 2) ((p + 1) * 4) (p * 4) ((n - p - 1) * 4)) t 4 (nI (n - 1))
set_option maxHeartbeats 4000000 in
set_option maxRecDepth 100000 in
theorem c_X5_remove (G : dk_G) (sr : Nat → Option Nat) (hi : Nat → Nat → Int32) (hf : Nat → Nat → UInt32) (z : (Nat → Nat → Int64) × (Nat → Nat → UInt64)) {t : Nat} (T : dk_T t) (n p : Nat) (hn : hi t 4 = nI n) (hn' : n ≤ 24) (hp : p < n) :
    dk_MF G yX5_remove cX5_remove 3 none 1 60 [.ref t, .int (nI p)] (hi, hf, dk_RF sr, z) (none) (tb_rem hi t n p, hf, dk_RF sr, z) := by
  refine dk_met (L := [some (.ref t), some (.int (nI p)), none]) pnX5 rfl (Nat.le_of_ble_eq_true rfl) ?_
  intro X C E hNm
  refine dk_aload_n C dX5_remove_0 rfl rfl ?_
  refine ek_getI C fX5_26 T.s0 T.l0 rfl dX5_remove_1 ?_
  refine dk_iload_n C dX5_remove_4 rfl rfl ?_
  refine dk_isub C dX5_remove_5 ?_
  refine dk_iconst C (1) dX5_remove_6 rfl ?_
  refine dk_isub C dX5_remove_7 ?_
  have e0 : hi t 4 - nI p - 1 = nI (n - p - 1) := by rw [hn, pk_sub (by omega), show (1 : Int32) = nI 1 from rfl, pk_sub (by omega)]
  rw [e0]
  have e1 : nI p + 1 = nI (p + 1) := nI_1 p
  refine dk_istore_n C dX5_remove_8 rfl (by decide) rfl ?_
  refine dk_aload_n C dX5_remove_9 rfl rfl ?_
  refine ek_getR C fX5_11 T.s0 T.l0 rfl (t + 1) (T.r0 _) dX5_remove_10 ?_
  refine dk_iload_n C dX5_remove_13 rfl rfl ?_
  refine dk_iconst C (1) dX5_remove_14 rfl ?_
  refine dk_iadd C dX5_remove_15 ?_
  refine dk_aload_n C dX5_remove_16 rfl rfl ?_
  refine ek_getR C fX5_11 T.s0 T.l0 rfl (t + 1) (T.r0 _) dX5_remove_17 ?_
  refine dk_iload_n C dX5_remove_20 rfl rfl ?_
  refine dk_iload_n C dX5_remove_21 rfl rfl ?_
  refine ek_copyi C acX5_32 T.s1 T.l1 (p + 1) (p) (n - p - 1) (e1) (rfl) (rfl) (by omega) (by omega) (by decide) (by decide) (Nat.le_of_ble_eq_true rfl) dX5_remove_22 ?_
  refine dk_aload_n C dX5_remove_25 rfl rfl ?_
  refine ek_getR C fX5_15 T.s0 T.l0 rfl (t + 2) (T.r1 _) dX5_remove_26 ?_
  refine dk_iload_n C dX5_remove_29 rfl rfl ?_
  refine dk_iconst C (1) dX5_remove_30 rfl ?_
  refine dk_iadd C dX5_remove_31 ?_
  refine dk_iconst C (4) dX5_remove_32 rfl ?_
  refine dk_imul C dX5_remove_33 ?_
  refine dk_aload_n C dX5_remove_34 rfl rfl ?_
  refine ek_getR C fX5_15 T.s0 T.l0 rfl (t + 2) (T.r1 _) dX5_remove_35 ?_
  refine dk_iload_n C dX5_remove_38 rfl rfl ?_
  refine dk_iconst C (4) dX5_remove_39 rfl ?_
  refine dk_imul C dX5_remove_40 ?_
  refine dk_iload_n C dX5_remove_41 rfl rfl ?_
  refine dk_iconst C (4) dX5_remove_42 rfl ?_
  refine dk_imul C dX5_remove_43 ?_
  refine ek_copyi C acX5_32 T.s2 T.l2 ((p + 1) * 4) (p * 4) ((n - p - 1) * 4) (by rw [e1, nI4k]) (nI4k p) (nI4k _) (by omega) (by omega) (by decide) (by decide) (Nat.le_of_ble_eq_true rfl) dX5_remove_44 ?_
  have e2 : dk_cp (dk_cp hi (t + 1) (p + 1) p (n - p - 1)) (t + 2) ((p + 1) * 4) (p * 4) ((n - p - 1) * 4) t 4 = nI n := by simp [dk_cp, hn]
  refine dk_aload_n C dX5_remove_47 rfl rfl ?_
  refine dk_dup C dX5_remove_48 rfl ?_
  refine ek_getI C fX5_26 T.s0 T.l0 rfl dX5_remove_49 ?_
  refine dk_iconst C (1) dX5_remove_52 rfl ?_
  refine dk_isub C dX5_remove_53 ?_
  refine ek_putI C fX5_26 fwX5_4 T.s0 T.l0 rfl dX5_remove_54 ?_
  rw [e2]
  exact dk_vret C E dX5_remove_57 (Nat.zero_le _) (Nat.zero_le _) (⟨rfl, by rw [tb_rem, show (1 : Int32) = nI 1 from rfl, pk_sub (by omega)]⟩)
