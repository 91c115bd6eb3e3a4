/-! ===== QueryDesk$Plan: shares ===== -/
theorem fb_of {K : Nat} {x : UInt32} (h : x.toNat % 2 ^ 31 < K * 2 ^ 23) : fb K x := h
theorem fb_div {K L M : Nat} {x y : UInt32} (ha : fb K x) (hb : L * 2 ^ 23 ≤ y.toNat % 2 ^ 31) (hb2 : fb 255 y) (hK : K ≤ 255) (hL : 1 ≤ L) (hM : K + (149 - 23 - 1) - L + 3 ≤ M) : fb M (FP.fdiv x y) := fb_w (FP.Core.fdiv_mag ha hb hb2 hK hL) hM
/-- the share of one value among n rows of f -/
noncomputable def sh1 (f : Nat → Int32) (n : Nat) : UInt32 := if n = 0 then FP.fconst0 else FP.fdiv FP.fconst1 (FP.i2f (nI (dvc f n)))
theorem dvc_pos (f : Nat → Int32) : ∀ n, 1 ≤ dvc f (n + 1)
  | 0 => by
    unfold dvc
    rw [if_pos (sbI_0 (fun q h => absurd h (Nat.not_lt_zero q)))]
    omega
  | n + 1 => by
    have := dvc_pos f n
    rw [dvc]
    omega
theorem dvc_le (f : Nat → Int32) : ∀ n, dvc f n ≤ n
  | 0 => Nat.le_refl 0
  | n + 1 => by
    have := dvc_le f n
    rw [dvc]
    split <;> omega
theorem fb_q1 {v : Nat} (h1 : 1 ≤ v) (h2 : v ≤ 24) : fb 129 (FP.fdiv FP.fconst1 (FP.i2f (nI v))) := by
  have hv : (nI v).toInt ≠ 0 := by rw [nI_toInt (by omega)]; omega
  obtain ⟨b1, b2⟩ := FP.Core.i2f_big hv
  exact fb_div fb_1 b1 b2 (by decide) (by decide) (by decide)
theorem fb_sh1 (f : Nat → Int32) {n : Nat} (hn : n ≤ 24) : fb 129 (sh1 f n) := by
  unfold sh1
  split
  · exact fb_w fb_0 (by decide)
  · rename_i h
    obtain ⟨m, rfl⟩ : ∃ m, n = m + 1 := ⟨n - 1, by omega⟩
    have := dvc_pos f m
    have := dvc_le f (m + 1)
    exact fb_q1 (by omega) (by omega)
set_option maxHeartbeats 4000000 in
set_option maxRecDepth 100000 in
theorem c_X3_shareOfOneValue (G : dk_G) (sr : Nat → Option Nat) (hi : Nat → Nat → Int32) (hf : Nat → Nat → UInt32) (z : (Nat → Nat → Int64) × (Nat → Nat → UInt64)) {t : Nat} (T : dk_T t) (c n : Nat) (hc : c < 4) (hn : hi t 4 = nI n) (hn' : n ≤ 24) :
    dk_MF G yX3_shareOfOneValue cX3_shareOfOneValue 2 (some .float) 3 69 [.ref t, .int (nI c)] (hi, hf, dk_RF sr, z) (some (.float (sh1 (tb_c hi t c) n))) (hi, hf, dk_RF sr, z) := by
  refine dk_met (L := [some (.ref t), some (.int (nI c))]) pnX3 rfl (Nat.le_of_ble_eq_true rfl) ?_
  intro X C E hNm
  refine dk_aload_n C dX3_shareOfOneValue_0 rfl rfl ?_
  refine ek_getI C fX3_121 T.s0 T.l0 rfl dX3_shareOfOneValue_1 ?_
  rw [hn]
  refine dk_if_ne C 11 dX3_shareOfOneValue_4 (by decide) (fun c1 => ?_) (fun c1 => ?_)
  · have hn0 : n ≠ 0 := fun q => c1 (by rw [q]; rfl)
    obtain ⟨m, rfl⟩ : ∃ m, n = m + 1 := ⟨n - 1, by omega⟩
    have h1 := dvc_pos (tb_c hi t c) m
    have h2 := dvc_le (tb_c hi t c) (m + 1)
    refine dk_fconst1 C dX3_shareOfOneValue_11 ?_
    refine dk_aload_n C dX3_shareOfOneValue_12 rfl rfl ?_
    refine dk_iload_n C dX3_shareOfOneValue_13 rfl rfl ?_
    refine ek_callV C mX3_145 (c_X5_differentValues _ _ _ _ _ T c (m + 1) hc hn hn') T.s0 T.l0 rfl rfl (Nat.le_of_ble_eq_true rfl) (by decide) (by decide) (Nat.zero_le _) (Nat.zero_le _) dX3_shareOfOneValue_14 ?_
    refine dk_i2f C dX3_shareOfOneValue_17 ?_
    refine dk_fdiv C dX3_shareOfOneValue_18 (fb_n (fb_q1 (by omega) (by omega)) (by decide)) ?_
    exact dk_fret C E dX3_shareOfOneValue_19 (Nat.zero_le _) (Nat.zero_le _) (⟨pF (by rw [sh1, if_neg hn0]), rfl⟩)
  · have hn0 : n = 0 := (nI_eq (by omega) (by decide)).mp c1
    refine dk_fconst0 C dX3_shareOfOneValue_7 ?_
    refine dk_goto C 19 dX3_shareOfOneValue_8 (by decide) ?_
    exact dk_fret C E dX3_shareOfOneValue_19 (Nat.zero_le _) (Nat.zero_le _) (⟨pF (by rw [sh1, if_pos hn0]), rfl⟩)
/-- a span's share of the whole between the least and the greatest value, held between 0 and 1 -/
def shq (span : Int64) (mn mx : Int32) : UInt32 := FP.fdiv (FP.l2f span) (FP.l2f (mx.toInt64 - mn.toInt64 + 1))
def shc (q : UInt32) : UInt32 := if 0 ≤ Op.cmpValue (FP.fcmp q FP.fconst0) .g then (if Op.cmpValue (FP.fcmp q FP.fconst1) .l ≤ 0 then q else FP.fconst1) else FP.fconst0
theorem span_pos {mn mx : Int32} (h : mn ≤ mx) : (mx.toInt64 - mn.toInt64 + 1).toInt ≠ 0 := by
  have h1 := Int32.le_iff_toInt_le.mp h
  have a1 := Int32.toInt_lt mx
  have a2 := Int32.le_toInt mx
  have a3 := Int32.toInt_lt mn
  have a4 := Int32.le_toInt mn
  have e1 : mx.toInt64.toInt = mx.toInt := Int32.toInt_toInt64 mx
  have e2 : mn.toInt64.toInt = mn.toInt := Int32.toInt_toInt64 mn
  have e3 : (1 : Int64).toInt = 1 := rfl
  have e4 : (mx.toInt64 - mn.toInt64).toInt = mx.toInt - mn.toInt := by
    rw [FP.Core.int64_sub (by rw [e1, e2]; omega) (by rw [e1, e2]; omega), e1, e2]
  rw [FP.Core.int64_add (by rw [e4, e3]; omega) (by rw [e4, e3]; omega), e4, e3]
  omega
theorem fb_shq (span : Int64) {mn mx : Int32} (h : mn ≤ mx) : fb 193 (shq span mn mx) := by
  obtain ⟨b1, b2⟩ := FP.Core.l2f_big (span_pos h)
  exact fb_div (FP.Core.l2f_mag span) b1 b2 (by decide) (by decide) (by decide)
theorem fb_shc {q : UInt32} (h : fb 255 q) : fb 128 (shc q) := by
  have hq : FP.Core.val32 q ≠ .nan := (FP.Core.ne_nan32 q).mpr (by unfold fb at h; omega)
  have h0 : FP.Core.val32 FP.fconst0 ≠ .nan := (FP.Core.ne_nan32 _).mpr (by decide)
  have h1 : FP.Core.val32 FP.fconst1 ≠ .nan := (FP.Core.ne_nan32 _).mpr (by decide)
  unfold shc
  split
  · rename_i c1
    split
    · rename_i c2
      have g1 : ¬ FP.Core.fkey q < FP.Core.fkey FP.fconst0 := fun z => by
        rw [show FP.fcmp q FP.fconst0 = some .lt from (FP.Core.fcmp_lt_key hq h0).mpr z] at c1
        exact absurd c1 (by decide)
      have g2 : ¬ FP.Core.fkey FP.fconst1 < FP.Core.fkey q := fun z => by
        rw [show FP.fcmp q FP.fconst1 = some .gt from (FP.Core.fcmp_gt_key hq h1).mpr z] at c2
        exact absurd c2 (by decide)
      have k0 : FP.Core.fkey FP.fconst0 = 0 := by decide
      have k1 : FP.Core.fkey FP.fconst1 = 127 * 2 ^ 23 := by decide
      rw [k0] at g1
      rw [k1] at g2
      unfold FP.Core.fkey at g1 g2
      refine fb_of ?_
      have := q.toNat_lt
      split at g1 <;> omega
    · exact fb_1
  · exact fb_w fb_0 (by decide)
theorem mn_le_mx (f : Nat → Int32) : ∀ n, mnc f n ≤ mxc f n
  | 0 => Int32.le_refl _
  | n + 1 => by
    have h := mn_le_mx f n
    unfold mnc mxc
    split <;> split
    · exact Int32.le_refl _
    · rename_i a b; exact Int32.le_trans (Int32.le_of_lt a) h
    · rename_i a b; exact Int32.le_trans h (Int32.le_of_lt b)
    · exact h
set_option maxHeartbeats 4000000 in
set_option maxRecDepth 100000 in
theorem c_X3_shareOfSpan (G : dk_G) (sr : Nat → Option Nat) (hi : Nat → Nat → Int32) (hf : Nat → Nat → UInt32) (z : (Nat → Nat → Int64) × (Nat → Nat → UInt64)) {t : Nat} (T : dk_T t) (span : Int64) (c n : Nat) (hc : c < 4) (hn : hi t 4 = nI (n + 1)) (hn' : n + 1 ≤ 24) :
    dk_MF G yX3_shareOfSpan cX3_shareOfSpan 7 (some .float) 2 45 [.long span, .ref t, .int (nI c)] (hi, hf, dk_RF sr, z) (some (.float (shc (shq span (mnc (tb_c hi t c) n) (mxc (tb_c hi t c) n))))) (hi, hf, dk_RF sr, z) := by
  refine dk_met (L := [some (.long span), none, some (.ref t), some (.int (nI c)), none, none, none]) pnX3 rfl (Nat.le_of_ble_eq_true rfl) ?_
  intro X C E hNm
  have hb := fb_shq span (mn_le_mx (tb_c hi t c) n)
  refine dk_aload_n C dX3_shareOfSpan_0 rfl rfl ?_
  refine dk_iload_n C dX3_shareOfSpan_1 rfl rfl ?_
  refine ek_callV C mX3_142 (c_X5_greatest _ _ _ _ _ T c n hc hn hn') T.s0 T.l0 rfl rfl (Nat.le_of_ble_eq_true rfl) (by decide) (by decide) (Nat.zero_le _) (Nat.zero_le _) dX3_shareOfSpan_2 ?_
  refine dk_i2l C dX3_shareOfSpan_5 ?_
  refine dk_aload_n C dX3_shareOfSpan_6 rfl rfl ?_
  refine dk_iload_n C dX3_shareOfSpan_7 rfl rfl ?_
  refine ek_callV C mX3_135 (c_X5_least _ _ _ _ _ T c n hc hn hn') T.s0 T.l0 rfl rfl (Nat.le_of_ble_eq_true rfl) (by decide) (by decide) (Nat.zero_le _) (Nat.zero_le _) dX3_shareOfSpan_8 ?_
  refine dk_i2l C dX3_shareOfSpan_11 ?_
  refine dk_lsub C dX3_shareOfSpan_12 ?_
  refine dk_lconst C (1) dX3_shareOfSpan_13 rfl ?_
  refine dk_ladd C dX3_shareOfSpan_14 ?_
  refine dk_lstore C dX3_shareOfSpan_15 (by decide) rfl ?_
  refine dk_lload_n C dX3_shareOfSpan_17 rfl rfl ?_
  refine dk_l2f C dX3_shareOfSpan_18 ?_
  refine dk_lload C dX3_shareOfSpan_19 rfl ?_
  refine dk_l2f C dX3_shareOfSpan_21 ?_
  refine dk_fdiv C dX3_shareOfSpan_22 (fb_n hb (by decide)) ?_
  refine dk_fstore C dX3_shareOfSpan_23 (by decide) rfl ?_
  refine dk_fload C dX3_shareOfSpan_25 rfl ?_
  refine dk_fconst0 C dX3_shareOfSpan_27 ?_
  refine dk_fcmp C dX3_shareOfSpan_28 ?_
  refine dk_if_ge C 34 dX3_shareOfSpan_29 (by decide) (fun c1 => ?_) (fun c1 => ?_)
  · refine dk_fload C dX3_shareOfSpan_34 rfl ?_
    refine dk_fconst1 C dX3_shareOfSpan_36 ?_
    refine dk_fcmp C dX3_shareOfSpan_37 ?_
    refine dk_if_le C 45 dX3_shareOfSpan_38 (by decide) (fun c2 => ?_) (fun c2 => ?_)
    · refine dk_fload C dX3_shareOfSpan_45 rfl ?_
      exact dk_fret C E dX3_shareOfSpan_47 (Nat.zero_le _) (Nat.zero_le _) (⟨pF (by unfold shc shq; rw [if_pos c1, if_pos c2]), rfl⟩)
    · refine dk_fconst1 C dX3_shareOfSpan_41 ?_
      refine dk_goto C 47 dX3_shareOfSpan_42 (by decide) ?_
      exact dk_fret C E dX3_shareOfSpan_47 (Nat.zero_le _) (Nat.zero_le _) (⟨pF (by unfold shc shq; rw [if_pos c1, if_neg c2]), rfl⟩)
  · refine dk_fconst0 C dX3_shareOfSpan_32 ?_
    exact dk_fret C E dX3_shareOfSpan_33 (Nat.zero_le _) (Nat.zero_le _) (⟨pF (by unfold shc shq; rw [if_neg c1]), rfl⟩)
/-- the share of a condition: operator o, number x, among n rows of f -/
noncomputable def shO (o : Nat) (x : Int32) (f : Nat → Int32) (n : Nat) : UInt32 :=
  if n = 0 then FP.fconst0 else if o = 0 then sh1 f n else if o = 1 then shc (shq (x.toInt64 - (mnc f (n - 1)).toInt64) (mnc f (n - 1)) (mxc f (n - 1)))
  else if o = 2 then shc (shq ((mxc f (n - 1)).toInt64 - x.toInt64) (mnc f (n - 1)) (mxc f (n - 1))) else FP.fsub FP.fconst1 (sh1 f n)
theorem fb_shO (o : Nat) (x : Int32) (f : Nat → Int32) {n : Nat} (hn : n ≤ 24) : fb 131 (shO o x f n) := by
  unfold shO
  split
  · exact fb_w fb_0 (by decide)
  · split
    · exact fb_w (fb_sh1 f hn) (by decide)
    · split
      · exact fb_w (fb_shc (fb_w (fb_shq _ (mn_le_mx f _)) (by decide))) (by decide)
      · split
        · exact fb_w (fb_shc (fb_w (fb_shq _ (mn_le_mx f _)) (by decide))) (by decide)
        · exact fb_w (fb_sub (fb_w fb_1 (by decide)) (fb_sh1 f hn) (by decide)) (by decide)
set_option maxHeartbeats 4000000 in
set_option maxRecDepth 100000 in
theorem c_X3_shareOf (G : dk_G) (sr : Nat → Option Nat) (hi : Nat → Nat → Int32) (hf : Nat → Nat → UInt32) (z : (Nat → Nat → Int64) × (Nat → Nat → UInt64)) {t q : Nat} (T : dk_T t) (Q : dk_Q0 q) (c o n : Nat) (hc : hi q 1 = nI c) (hc' : c < 4) (ho : hi q 2 = nI o) (ho' : o < 4) (hn : hi t 4 = nI n) (hn' : n ≤ 24) :
    dk_MF G yX3_shareOf cX3_shareOf 3 (some .float) 4 90 [.ref q, .ref t] (hi, hf, dk_RF sr, z) (some (.float (shO o (hi q 3) (tb_c hi t c) n))) (hi, hf, dk_RF sr, z) := by
  refine dk_met (L := [some (.ref q), some (.ref t), none]) pnX3 rfl (Nat.le_of_ble_eq_true rfl) ?_
  intro X C E hNm
  refine dk_aload_n C dX3_shareOf_0 rfl rfl ?_
  refine ek_getI C fX3_121 T.s0 T.l0 rfl dX3_shareOf_1 ?_
  rw [hn]
  refine dk_if_ne C 9 dX3_shareOf_4 (by decide) (fun c1 => ?_) (fun c1 => ?_)
  · have hn0 : n ≠ 0 := fun q => c1 (by rw [q]; rfl)
    obtain ⟨m, rfl⟩ : ∃ m, n = m + 1 := ⟨n - 1, by omega⟩
    refine dk_aload_n C dX3_shareOf_9 rfl rfl ?_
    refine ek_getI C fX3_126 Q.s0 Q.l0 rfl dX3_shareOf_10 ?_
    rw [hc]
    refine dk_istore_n C dX3_shareOf_13 rfl (by decide) rfl ?_
    refine dk_aload_n C dX3_shareOf_14 rfl rfl ?_
    refine ek_getI C fX3_129 Q.s0 Q.l0 rfl dX3_shareOf_15 ?_
    rw [ho]
    rcases (show o = 0 ∨ o = 1 ∨ o = 2 ∨ o = 3 by omega) with rfl | rfl | rfl | rfl
    · refine dk_tableIn C 44 dX3_shareOf_18 (by decide) (by decide) rfl (by decide) ?_
      refine dk_aload_n C dX3_shareOf_44 rfl rfl ?_
      refine dk_iload_n C dX3_shareOf_45 rfl rfl ?_
      refine ek_callS C mX3_111 (c_X3_shareOfOneValue _ _ _ _ _ T c (m + 1) hc' hn hn') rfl rfl (Nat.le_of_ble_eq_true rfl) (by decide) (by decide) (Nat.zero_le _) (Nat.zero_le _) dX3_shareOf_46 ?_
      exact dk_fret C E dX3_shareOf_49 (Nat.zero_le _) (Nat.zero_le _) (⟨pF (by unfold shO; rw [if_neg hn0]; rfl), rfl⟩)
    · refine dk_tableIn C 50 dX3_shareOf_18 (by decide) (by decide) rfl (by decide) ?_
      refine dk_aload_n C dX3_shareOf_50 rfl rfl ?_
      refine ek_getI C fX3_132 Q.s0 Q.l0 rfl dX3_shareOf_51 ?_
      refine dk_i2l C dX3_shareOf_54 ?_
      refine dk_aload_n C dX3_shareOf_55 rfl rfl ?_
      refine dk_iload_n C dX3_shareOf_56 rfl rfl ?_
      refine ek_callV C mX3_135 (c_X5_least _ _ _ _ _ T c m hc' hn hn') T.s0 T.l0 rfl rfl (Nat.le_of_ble_eq_true rfl) (by decide) (by decide) (Nat.zero_le _) (Nat.zero_le _) dX3_shareOf_57 ?_
      refine dk_i2l C dX3_shareOf_60 ?_
      refine dk_lsub C dX3_shareOf_61 ?_
      refine dk_aload_n C dX3_shareOf_62 rfl rfl ?_
      refine dk_iload_n C dX3_shareOf_63 rfl rfl ?_
      refine ek_callS C mX3_138 (c_X3_shareOfSpan _ _ _ _ _ T _ c m hc' hn hn') rfl rfl (Nat.le_of_ble_eq_true rfl) (by decide) (by decide) (Nat.zero_le _) (Nat.zero_le _) dX3_shareOf_64 ?_
      exact dk_fret C E dX3_shareOf_67 (Nat.zero_le _) (Nat.zero_le _) (⟨pF (by unfold shO; rw [if_neg hn0]; rfl), rfl⟩)
    · refine dk_tableIn C 68 dX3_shareOf_18 (by decide) (by decide) rfl (by decide) ?_
      refine dk_aload_n C dX3_shareOf_68 rfl rfl ?_
      refine dk_iload_n C dX3_shareOf_69 rfl rfl ?_
      refine ek_callV C mX3_142 (c_X5_greatest _ _ _ _ _ T c m hc' hn hn') T.s0 T.l0 rfl rfl (Nat.le_of_ble_eq_true rfl) (by decide) (by decide) (Nat.zero_le _) (Nat.zero_le _) dX3_shareOf_70 ?_
      refine dk_i2l C dX3_shareOf_73 ?_
      refine dk_aload_n C dX3_shareOf_74 rfl rfl ?_
      refine ek_getI C fX3_132 Q.s0 Q.l0 rfl dX3_shareOf_75 ?_
      refine dk_i2l C dX3_shareOf_78 ?_
      refine dk_lsub C dX3_shareOf_79 ?_
      refine dk_aload_n C dX3_shareOf_80 rfl rfl ?_
      refine dk_iload_n C dX3_shareOf_81 rfl rfl ?_
      refine ek_callS C mX3_138 (c_X3_shareOfSpan _ _ _ _ _ T _ c m hc' hn hn') rfl rfl (Nat.le_of_ble_eq_true rfl) (by decide) (by decide) (Nat.zero_le _) (Nat.zero_le _) dX3_shareOf_82 ?_
      exact dk_fret C E dX3_shareOf_85 (Nat.zero_le _) (Nat.zero_le _) (⟨pF (by unfold shO; rw [if_neg hn0]; rfl), rfl⟩)
    · refine dk_tableOut C 86 dX3_shareOf_18 (by decide) (by decide) ?_
      refine dk_fconst1 C dX3_shareOf_86 ?_
      refine dk_aload_n C dX3_shareOf_87 rfl rfl ?_
      refine dk_iload_n C dX3_shareOf_88 rfl rfl ?_
      refine ek_callS C mX3_111 (c_X3_shareOfOneValue _ _ _ _ _ T c (m + 1) hc' hn hn') rfl rfl (Nat.le_of_ble_eq_true rfl) (by decide) (by decide) (Nat.zero_le _) (Nat.zero_le _) dX3_shareOf_89 ?_
      refine dk_fsub C dX3_shareOf_92 (fb_n (fb_sub (fb_w fb_1 (by decide)) (fb_sh1 _ hn') (by decide)) (by decide)) ?_
      exact dk_fret C E dX3_shareOf_93 (Nat.zero_le _) (Nat.zero_le _) (⟨pF (by unfold shO; rw [if_neg hn0]; rfl), rfl⟩)
  · have hn0 : n = 0 := (nI_eq (by omega) (by decide)).mp c1
    refine dk_fconst0 C dX3_shareOf_7 ?_
    exact dk_fret C E dX3_shareOf_8 (Nat.zero_le _) (Nat.zero_le _) (⟨pF (by rw [shO, if_pos hn0]), rfl⟩)
