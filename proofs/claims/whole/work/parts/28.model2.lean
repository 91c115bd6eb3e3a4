/-! ===== QueryDeskModel: rows, indices ===== -/
def md_ic (hi : Nat → Nat → Int32) (nR md : Nat → Nat) (x : Int32) : Int32 := if md_ht hi x = true then (if nR (cl x) = 24 ∨ md (cl x) = 60 then 2 else 0) else 1
def md_put (h : Nat → Nat → Int32) (j m : Nat) (a b c d : Int32) : Nat → Nat → Int32 := dk_up (dk_up (dk_up (dk_up (dk_up (dk_up h 47 j (nI (m + 1))) 48 (60 * j + m) 1) 49 (240 * j + 4 * m) a) 49 (240 * j + 4 * m + 1) b) 49 (240 * j + 4 * m + 2) c) 49 (240 * j + 4 * m + 3) d
def md_ins (hi : Nat → Nat → Int32) (nR md : Nat → Nat) (x a b c d : Int32) : Nat → Nat → Int32 := if md_ic hi nR md x = 0 then md_chg (md_put (dk_up hi 45 0 0) (cl x) (md (cl x)) a b c d) else dk_up hi 45 0 (md_ic hi nR md x)
set_option maxHeartbeats 4000000 in
set_option maxRecDepth 100000 in
theorem c_X8_insert (G : dk_G) (sr : Nat → Option Nat) (hi : Nat → Nat → Int32) (hf : Nat → Nat → UInt32) (z : (Nat → Nat → Int64) × (Nat → Nat → UInt64)) (nR md : Nat → Nat) (en : Nat → Nat → Nat) (hE : ∀ j, j < 3 → mE hi j (nR j) (en j)) (hm : ∀ j, j < 3 → hi 47 j = nI (md j) ∧ md j ≤ 60) (x a b c d : Int32) :
    dk_MF G yX8_insert cX8_insert 8 (some .int) 2 43 [.ref 45, .int x, .int a, .int b, .int c, .int d] (hi, hf, dk_RF sr, z) (some (.int (if md_ic hi nR md x = 0 then nI (md (cl x)) else 0))) (md_ins hi nR md x a b c d, hf, dk_RF sr, z) := by
  refine dk_met (L := [some (.ref 45), some (.int x), some (.int a), some (.int b), some (.int c), some (.int d), none, none]) pnX8 rfl (Nat.le_of_ble_eq_true rfl) ?_
  intro X C E hNm
  have bad : ∀ v : Int32, v = md_ic hi nR md x → ¬ v = 0 → 0 < v → dk_W X 39 [some (.ref 45), some (.int x), some (.int a), some (.int b), some (.int c), some (.int d), none, none] [.int v, .ref 45] 63 (hi, hf, dk_RF sr, z) 0 0 := by
    intro v e h0 h1
    refine ek_putI C fX8_59 fwX8_0 rfl (by decide) rfl dX8_insert_39 ?_
    refine dk_aload_n C dX8_insert_42 rfl rfl ?_
    refine ek_getI C fX8_59 rfl (by decide) rfl dX8_insert_43 ?_
    rw [show dk_up hi 45 0 v 45 0 = v from dk_up_same _ _ _ _]
    refine dk_if_le C 51 dX8_insert_46 (by decide) (fun hz => absurd hz (Int32.not_le.mpr h1)) (fun _ => ?_)
    refine dk_iconst C (0) dX8_insert_49 rfl ?_
    exact dk_iret C E dX8_insert_50 (Nat.zero_le _) (Nat.zero_le _) (⟨pI (by rw [← e, if_neg h0]), by rw [md_ins, ← e, if_neg h0]⟩)
  refine dk_aload_n C dX8_insert_0 rfl rfl ?_
  refine dk_aload_n C dX8_insert_1 rfl rfl ?_
  refine dk_iload_n C dX8_insert_2 rfl rfl ?_
  refine ek_callV C mX8_67 (c_X8_isTable _ _ _ _ _ x) rfl (by decide) rfl rfl (Nat.le_of_ble_eq_true rfl) (by decide) (by decide) (Nat.zero_le _) (Nat.zero_le _) dX8_insert_3 ?_
  refine dk_if_ne C 13 dX8_insert_6 (by decide) (fun c1 => ?_) (fun c1 => ?_)
  · obtain ⟨j, hj, rfl, e, h0⟩ := md_ht_1 (bI_n1 c1)
    obtain ⟨m1, m2⟩ := hm j hj
    have e24 := (hE j hj).2.2.2
    refine dk_aload_n C dX8_insert_13 rfl rfl ?_
    refine dk_iload_n C dX8_insert_14 rfl rfl ?_
    refine ek_callV C mX8_74 (c_X8_rowsOf _ _ _ _ _ j (nR j) (en j) hj (hE j hj)) rfl (by decide) rfl rfl (Nat.le_of_ble_eq_true rfl) (by decide) (by decide) (Nat.zero_le _) (Nat.zero_le _) dX8_insert_15 ?_
    refine dk_bipush C (24) dX8_insert_18 rfl ?_
    have two : (nR j = 24 ∨ md j = 60) → dk_W X 34 [some (.ref 45), some (.int (nI j)), some (.int a), some (.int b), some (.int c), some (.int d), none, none] [.ref 45] 63 (hi, hf, dk_RF sr, z) 0 0 := by
      intro q
      refine dk_iconst C (2) dX8_insert_34 rfl ?_
      refine dk_goto C 39 dX8_insert_35 (by decide) ?_
      exact bad 2 (by rw [md_ic, if_pos (bI_n1 c1), e, if_pos q]) (by decide) (by decide)
    refine dk_icmp_eq C 34 dX8_insert_20 (by decide) (fun c2 => ?_) (fun c2 => ?_)
    · exact two (Or.inl ((nI_eq (b := 24) (by omega) (by decide)).mp c2))
    · refine dk_aload_n C dX8_insert_23 rfl rfl ?_
      refine ek_getR C fX8_13 rfl (by decide) rfl 47 rfl dX8_insert_24 ?_
      refine dk_iload_n C dX8_insert_27 rfl rfl ?_
      refine ek_iald C rfl (by decide) (j) (rfl) (hj) (by decide) dX8_insert_28 ?_
      refine dk_bipush C (60) dX8_insert_29 rfl ?_
      rw [m1]
      refine dk_icmp_ne C 38 dX8_insert_31 (by decide) (fun c3 => ?_) (fun c3 => ?_)
      · have q : ¬ (nR j = 24 ∨ md j = 60) := fun q => q.elim (fun q => c2 (by rw [q]; rfl)) (fun q => c3 (by rw [q]; rfl))
        have e0 : md_ic hi nR md (nI j) = 0 := by rw [md_ic, if_pos (bI_n1 c1), e, if_neg q]
        have hlt : md j < 60 := by omega
        refine dk_iconst C (0) dX8_insert_38 rfl ?_
        refine ek_putI C fX8_59 fwX8_0 rfl (by decide) rfl dX8_insert_39 ?_
        refine dk_aload_n C dX8_insert_42 rfl rfl ?_
        refine ek_getI C fX8_59 rfl (by decide) rfl dX8_insert_43 ?_
        rw [show dk_up hi 45 0 0 45 0 = 0 from dk_up_same _ _ _ _]
        refine dk_if_le C 51 dX8_insert_46 (by decide) (fun _ => ?_) (fun hz => absurd (Int32.le_refl _) hz)
        refine dk_aload_n C dX8_insert_51 rfl rfl ?_
        refine ek_getR C fX8_13 rfl (by decide) rfl 47 rfl dX8_insert_52 ?_
        refine dk_iload_n C dX8_insert_55 rfl rfl ?_
        refine ek_iald C rfl (by decide) (j) (rfl) (hj) (by decide) dX8_insert_56 ?_
        rw [show dk_up hi 45 0 0 47 j = nI (md j) from m1]
        refine dk_istore C dX8_insert_57 (by decide) rfl ?_
        refine dk_aload_n C dX8_insert_59 rfl rfl ?_
        refine ek_getR C fX8_13 rfl (by decide) rfl 47 rfl dX8_insert_60 ?_
        refine dk_iload_n C dX8_insert_63 rfl rfl ?_
        refine dk_dup2 C dX8_insert_64 rfl rfl ?_
        refine ek_iald C rfl (by decide) (j) (rfl) (hj) (by decide) dX8_insert_65 ?_
        rw [show dk_up hi 45 0 0 47 j = nI (md j) from m1]
        refine dk_iconst C (1) dX8_insert_66 rfl ?_
        refine dk_iadd C dX8_insert_67 ?_
        rw [show nI (md j) + 1 = nI (md j + 1) from nI_1 _]
        refine ek_iast C rfl (by decide) (j) (rfl) (hj) (by decide) dX8_insert_68 ?_
        refine dk_aload_n C dX8_insert_69 rfl rfl ?_
        refine ek_getR C fX8_16 rfl (by decide) rfl 48 rfl dX8_insert_70 ?_
        refine dk_bipush C (60) dX8_insert_73 rfl ?_
        refine dk_iload_n C dX8_insert_75 rfl rfl ?_
        refine dk_imul C dX8_insert_76 ?_
        refine dk_iload C dX8_insert_77 rfl ?_
        refine dk_iadd C dX8_insert_79 ?_
        refine dk_iconst C (1) dX8_insert_80 rfl ?_
        refine ek_zast C rfl (by decide) (60 * j + md j) (mI60 j (md j)) (by omega) (by decide) (Or.inr rfl) dX8_insert_81 ?_
        refine dk_sipush C (240) dX8_insert_82 rfl ?_
        refine dk_iload_n C dX8_insert_85 rfl rfl ?_
        refine dk_imul C dX8_insert_86 ?_
        refine dk_iconst C (4) dX8_insert_87 rfl ?_
        refine dk_iload C dX8_insert_88 rfl ?_
        refine dk_imul C dX8_insert_90 ?_
        refine dk_iadd C dX8_insert_91 ?_
        refine dk_istore C dX8_insert_92 (by decide) rfl ?_
        refine dk_aload_n C dX8_insert_94 rfl rfl ?_
        refine ek_getR C fX8_20 rfl (by decide) rfl 49 rfl dX8_insert_95 ?_
        refine dk_iload C dX8_insert_98 rfl ?_
        refine dk_iload_n C dX8_insert_100 rfl rfl ?_
        refine ek_iast C rfl (by decide) (240 * j + 4 * md j) (mI240' j (md j)) (by omega) (by decide) dX8_insert_101 ?_
        refine dk_aload_n C dX8_insert_102 rfl rfl ?_
        refine ek_getR C fX8_20 rfl (by decide) rfl 49 rfl dX8_insert_103 ?_
        refine dk_iload C dX8_insert_106 rfl ?_
        refine dk_iconst C (1) dX8_insert_108 rfl ?_
        refine dk_iadd C dX8_insert_109 ?_
        refine dk_iload_n C dX8_insert_110 rfl rfl ?_
        refine ek_iast C rfl (by decide) (240 * j + 4 * md j + 1) (mI240 j (md j) 1) (by omega) (by decide) dX8_insert_111 ?_
        refine dk_aload_n C dX8_insert_112 rfl rfl ?_
        refine ek_getR C fX8_20 rfl (by decide) rfl 49 rfl dX8_insert_113 ?_
        refine dk_iload C dX8_insert_116 rfl ?_
        refine dk_iconst C (2) dX8_insert_118 rfl ?_
        refine dk_iadd C dX8_insert_119 ?_
        refine dk_iload C dX8_insert_120 rfl ?_
        refine ek_iast C rfl (by decide) (240 * j + 4 * md j + 2) (mI240 j (md j) 2) (by omega) (by decide) dX8_insert_122 ?_
        refine dk_aload_n C dX8_insert_123 rfl rfl ?_
        refine ek_getR C fX8_20 rfl (by decide) rfl 49 rfl dX8_insert_124 ?_
        refine dk_iload C dX8_insert_127 rfl ?_
        refine dk_iconst C (3) dX8_insert_129 rfl ?_
        refine dk_iadd C dX8_insert_130 ?_
        refine dk_iload C dX8_insert_131 rfl ?_
        refine ek_iast C rfl (by decide) (240 * j + 4 * md j + 3) (mI240 j (md j) 3) (by omega) (by decide) dX8_insert_133 ?_
        refine dk_aload_n C dX8_insert_134 rfl rfl ?_
        refine ek_callVv C mX8_78 (c_X8_changed _ _ _ _ _) rfl (by decide) rfl rfl (Nat.le_of_ble_eq_true rfl) (by decide) (by decide) (Nat.zero_le _) (Nat.zero_le _) dX8_insert_135 ?_
        refine dk_iload C dX8_insert_138 rfl ?_
        exact dk_iret C E dX8_insert_140 (Nat.zero_le _) (Nat.zero_le _) (⟨pI (by rw [if_pos e0, e]), by rw [md_ins, if_pos e0, e]; rfl⟩)
      · exact two (Or.inr ((nI_eq (b := 60) (by omega) (by decide)).mp c3))
  · refine dk_iconst C (1) dX8_insert_9 rfl ?_
    refine dk_goto C 39 dX8_insert_10 (by decide) ?_
    exact bad 1 (by rw [md_ic, if_neg (by rw [bI_n0 c1]; decide)]) (by decide) (by decide)
def md_rc (hi : Nat → Nat → Int32) (x r : Int32) : Int32 := if md_hr hi x r = true then 0 else 1
theorem md_hr_1 {hi : Nat → Nat → Int32} {x r : Int32} (h : md_hr hi x r = true) : ∃ j k, (j < 3 ∧ k < 60 ∧ x = nI j ∧ r = nI k) ∧ cl x = j ∧ cl r = k ∧ ¬ hi 48 (60 * j + k) = 0 := by
  rw [md_hr, Bool.and_eq_true, Bool.and_eq_true] at h
  obtain ⟨j, hj, ej, e, h0⟩ := md_ht_1 h.1
  obtain ⟨k, hk, ek, e2⟩ := md_60 h.2.1
  have := of_decide_eq_true h.2.2
  rw [e, e2] at this
  exact ⟨j, k, ⟨hj, hk, ej, ek⟩, e, e2, this⟩
def md_del (hi : Nat → Nat → Int32) (x r : Int32) : Nat → Nat → Int32 := if md_hr hi x r = true then md_chg (dk_up (dk_up hi 45 0 0) 48 (60 * cl x + cl r) 0) else dk_up hi 45 0 1
set_option maxHeartbeats 4000000 in
set_option maxRecDepth 100000 in
theorem c_X8_delete (G : dk_G) (sr : Nat → Option Nat) (hi : Nat → Nat → Int32) (hf : Nat → Nat → UInt32) (z : (Nat → Nat → Int64) × (Nat → Nat → UInt64)) (x r : Int32) :
    dk_MF G yX8_delete cX8_delete 3 none 3 65 [.ref 45, .int x, .int r] (hi, hf, dk_RF sr, z) (none) (md_del hi x r, hf, dk_RF sr, z) := by
  refine dk_met (L := [some (.ref 45), some (.int x), some (.int r)]) pnX8 rfl (Nat.le_of_ble_eq_true rfl) ?_
  intro X C E hNm
  refine dk_aload_n C dX8_delete_0 rfl rfl ?_
  refine dk_aload_n C dX8_delete_1 rfl rfl ?_
  refine dk_iload_n C dX8_delete_2 rfl rfl ?_
  refine dk_iload_n C dX8_delete_3 rfl rfl ?_
  refine ek_callV C mX8_81 (c_X8_isRow _ _ _ _ _ x r) rfl (by decide) rfl rfl (Nat.le_of_ble_eq_true rfl) (by decide) (by decide) (Nat.zero_le _) (Nat.zero_le _) dX8_delete_4 ?_
  refine dk_if_eq C 14 dX8_delete_7 (by decide) (fun c1 => ?_) (fun c1 => ?_)
  · refine dk_iconst C (1) dX8_delete_14 rfl ?_
    refine ek_putI C fX8_59 fwX8_0 rfl (by decide) rfl dX8_delete_15 ?_
    refine dk_aload_n C dX8_delete_18 rfl rfl ?_
    refine ek_getI C fX8_59 rfl (by decide) rfl dX8_delete_19 ?_
    rw [show dk_up hi 45 0 1 45 0 = 1 from dk_up_same _ _ _ _]
    refine dk_if_ne C 41 dX8_delete_22 (by decide) (fun _ => ?_) (fun hz => absurd hz (by decide))
    exact dk_vret C E dX8_delete_41 (Nat.zero_le _) (Nat.zero_le _) (⟨rfl, by rw [md_del, if_neg (by rw [bI_n0 c1]; decide)]⟩)
  · obtain ⟨j, k, ⟨hj, hk, rfl, rfl⟩, e, e2, h0⟩ := md_hr_1 (bI_n1 c1)
    refine dk_iconst C (0) dX8_delete_10 rfl ?_
    refine dk_goto C 15 dX8_delete_11 (by decide) ?_
    refine ek_putI C fX8_59 fwX8_0 rfl (by decide) rfl dX8_delete_15 ?_
    refine dk_aload_n C dX8_delete_18 rfl rfl ?_
    refine ek_getI C fX8_59 rfl (by decide) rfl dX8_delete_19 ?_
    rw [show dk_up hi 45 0 0 45 0 = 0 from dk_up_same _ _ _ _]
    refine dk_if_ne C 41 dX8_delete_22 (by decide) (fun hz => absurd hz (by decide)) (fun _ => ?_)
    refine dk_aload_n C dX8_delete_25 rfl rfl ?_
    refine ek_getR C fX8_16 rfl (by decide) rfl 48 rfl dX8_delete_26 ?_
    refine dk_bipush C (60) dX8_delete_29 rfl ?_
    refine dk_iload_n C dX8_delete_31 rfl rfl ?_
    refine dk_imul C dX8_delete_32 ?_
    refine dk_iload_n C dX8_delete_33 rfl rfl ?_
    refine dk_iadd C dX8_delete_34 ?_
    refine dk_iconst C (0) dX8_delete_35 rfl ?_
    refine ek_zast C rfl (by decide) (60 * j + k) (mI60 j k) (by omega) (by decide) (Or.inl rfl) dX8_delete_36 ?_
    refine dk_aload_n C dX8_delete_37 rfl rfl ?_
    refine ek_callVv C mX8_78 (c_X8_changed _ _ _ _ _) rfl (by decide) rfl rfl (Nat.le_of_ble_eq_true rfl) (by decide) (by decide) (Nat.zero_le _) (Nat.zero_le _) dX8_delete_38 ?_
    exact dk_vret C E dX8_delete_41 (Nat.zero_le _) (Nat.zero_le _) (⟨rfl, by rw [md_del, if_pos (bI_n1 c1), e, e2]⟩)
theorem md_hc_1 {hi : Nat → Nat → Int32} {x c : Int32} (h : md_hc hi x c = true) (h4 : ∀ j, j < 3 → hi 46 j ≤ 4) : ∃ j m, j < 3 ∧ m < 4 ∧ x = nI j ∧ c = nI m ∧ cl x = j ∧ cl c = m := by
  rw [md_hc, Bool.and_eq_true] at h
  obtain ⟨j, hj, ej, e, h0⟩ := md_ht_1 h.1
  have h2 := of_decide_eq_true h.2
  rw [e] at h2
  obtain ⟨m, hm, rfl⟩ : ∃ m, m < 4 ∧ c = nI m := by
    rcases pk_ix c (n := 4) (by decide) with q | q | q
    · exact absurd h2.1 (Int32.not_le.mpr q)
    · exact absurd h2.2 (Int32.not_lt.mpr (Int32.le_trans (h4 j hj) q))
    · exact q
  exact ⟨j, m, hj, hm, ej, rfl, e, cl_nI (by omega)⟩
def md_cb (hi : Nat → Nat → Int32) (x r c : Int32) : Bool := md_hr hi x r && md_hc hi x c
theorem md_cb_1 {hi : Nat → Nat → Int32} {x r c : Int32} (h4 : ∀ j, j < 3 → hi 46 j ≤ 4) (h1 : md_hr hi x r = true) (h2 : md_hc hi x c = true) : ∃ j k m, (j < 3 ∧ k < 60 ∧ m < 4 ∧ x = nI j ∧ r = nI k ∧ c = nI m) ∧ cl x = j ∧ cl r = k ∧ cl c = m := by
  obtain ⟨j, k, ⟨hj, hk, ex, er⟩, e, e2, h0⟩ := md_hr_1 h1
  obtain ⟨j', m, hj', hm, ex', ec, e', e3⟩ := md_hc_1 h2 h4
  exact ⟨j, k, m, ⟨hj, hk, hm, ex, er, ec⟩, e, e2, e3⟩
def md_upd (hi : Nat → Nat → Int32) (x r c v : Int32) : Nat → Nat → Int32 := if md_cb hi x r c = true then md_chg (dk_up (dk_up hi 45 0 0) 49 (240 * cl x + 4 * cl r + cl c) v) else dk_up hi 45 0 1
set_option maxHeartbeats 4000000 in
set_option maxRecDepth 100000 in
theorem c_X8_update (G : dk_G) (sr : Nat → Option Nat) (hi : Nat → Nat → Int32) (hf : Nat → Nat → UInt32) (z : (Nat → Nat → Int64) × (Nat → Nat → UInt64)) (h4 : ∀ j, j < 3 → hi 46 j ≤ 4) (x r c v : Int32) :
    dk_MF G yX8_update cX8_update 5 none 3 65 [.ref 45, .int x, .int r, .int c, .int v] (hi, hf, dk_RF sr, z) (none) (md_upd hi x r c v, hf, dk_RF sr, z) := by
  refine dk_met (L := [some (.ref 45), some (.int x), some (.int r), some (.int c), some (.int v)]) pnX8 rfl (Nat.le_of_ble_eq_true rfl) ?_
  intro X C E hNm
  have no : md_cb hi x r c = false → dk_W X 23 [some (.ref 45), some (.int x), some (.int r), some (.int c), some (.int v)] [.ref 45] 63 (hi, hf, dk_RF sr, z) 0 0 := by
    intro e
    refine dk_iconst C (1) dX8_update_23 rfl ?_
    refine ek_putI C fX8_59 fwX8_0 rfl (by decide) rfl dX8_update_24 ?_
    refine dk_aload_n C dX8_update_27 rfl rfl ?_
    refine ek_getI C fX8_59 rfl (by decide) rfl dX8_update_28 ?_
    rw [show dk_up hi 45 0 1 45 0 = 1 from dk_up_same _ _ _ _]
    refine dk_if_ne C 56 dX8_update_31 (by decide) (fun _ => ?_) (fun hz => absurd hz (by decide))
    exact dk_vret C E dX8_update_56 (Nat.zero_le _) (Nat.zero_le _) (⟨rfl, by rw [md_upd, if_neg (by rw [e]; decide)]⟩)
  refine dk_aload_n C dX8_update_0 rfl rfl ?_
  refine dk_aload_n C dX8_update_1 rfl rfl ?_
  refine dk_iload_n C dX8_update_2 rfl rfl ?_
  refine dk_iload_n C dX8_update_3 rfl rfl ?_
  refine ek_callV C mX8_81 (c_X8_isRow _ _ _ _ _ x r) rfl (by decide) rfl rfl (Nat.le_of_ble_eq_true rfl) (by decide) (by decide) (Nat.zero_le _) (Nat.zero_le _) dX8_update_4 ?_
  refine dk_if_eq C 23 dX8_update_7 (by decide) (fun c1 => ?_) (fun c1 => ?_)
  · exact no (by rw [md_cb, bI_n0 c1]; rfl)
  · refine dk_aload_n C dX8_update_10 rfl rfl ?_
    refine dk_iload_n C dX8_update_11 rfl rfl ?_
    refine dk_iload_n C dX8_update_12 rfl rfl ?_
    refine ek_callV C mX8_85 (c_X8_isColumn _ _ _ _ _ x c) rfl (by decide) rfl rfl (Nat.le_of_ble_eq_true rfl) (by decide) (by decide) (Nat.zero_le _) (Nat.zero_le _) dX8_update_13 ?_
    refine dk_if_eq C 23 dX8_update_16 (by decide) (fun c2 => ?_) (fun c2 => ?_)
    · exact no (by rw [md_cb, bI_n0 c2, Bool.and_false])
    · obtain ⟨j, k, m, ⟨hj, hk, hm, rfl, rfl, rfl⟩, e, e2, e3⟩ := md_cb_1 h4 (bI_n1 c1) (bI_n1 c2)
      refine dk_iconst C (0) dX8_update_19 rfl ?_
      refine dk_goto C 24 dX8_update_20 (by decide) ?_
      refine ek_putI C fX8_59 fwX8_0 rfl (by decide) rfl dX8_update_24 ?_
      refine dk_aload_n C dX8_update_27 rfl rfl ?_
      refine ek_getI C fX8_59 rfl (by decide) rfl dX8_update_28 ?_
      rw [show dk_up hi 45 0 0 45 0 = 0 from dk_up_same _ _ _ _]
      refine dk_if_ne C 56 dX8_update_31 (by decide) (fun hz => absurd hz (by decide)) (fun _ => ?_)
      refine dk_aload_n C dX8_update_34 rfl rfl ?_
      refine ek_getR C fX8_20 rfl (by decide) rfl 49 rfl dX8_update_35 ?_
      refine dk_sipush C (240) dX8_update_38 rfl ?_
      refine dk_iload_n C dX8_update_41 rfl rfl ?_
      refine dk_imul C dX8_update_42 ?_
      refine dk_iconst C (4) dX8_update_43 rfl ?_
      refine dk_iload_n C dX8_update_44 rfl rfl ?_
      refine dk_imul C dX8_update_45 ?_
      refine dk_iadd C dX8_update_46 ?_
      refine dk_iload_n C dX8_update_47 rfl rfl ?_
      refine dk_iadd C dX8_update_48 ?_
      refine dk_iload C dX8_update_49 rfl ?_
      refine ek_iast C rfl (by decide) (240 * j + 4 * k + m) (mI240 j k m) (by omega) (by decide) dX8_update_51 ?_
      refine dk_aload_n C dX8_update_52 rfl rfl ?_
      refine ek_callVv C mX8_78 (c_X8_changed _ _ _ _ _) rfl (by decide) rfl rfl (Nat.le_of_ble_eq_true rfl) (by decide) (by decide) (Nat.zero_le _) (Nat.zero_le _) dX8_update_53 ?_
      exact dk_vret C E dX8_update_56 (Nat.zero_le _) (Nat.zero_le _) (⟨rfl, by rw [md_upd, if_pos (by rw [md_cb, bI_n1 c1, bI_n1 c2]; rfl), e, e2, e3]⟩)
set_option maxHeartbeats 4000000 in
set_option maxRecDepth 100000 in
theorem c_X8_cell (G : dk_G) (sr : Nat → Option Nat) (hi : Nat → Nat → Int32) (hf : Nat → Nat → UInt32) (z : (Nat → Nat → Int64) × (Nat → Nat → UInt64)) (h4 : ∀ j, j < 3 → hi 46 j ≤ 4) (x r c : Int32) :
    dk_MF G yX8_cell cX8_cell 4 (some .int) 3 65 [.ref 45, .int x, .int r, .int c] (hi, hf, dk_RF sr, z) (some (.int (if md_cb hi x r c = true then hi 49 (240 * cl x + 4 * cl r + cl c) else 0))) (dk_up hi 45 0 (if md_cb hi x r c = true then 0 else 1), hf, dk_RF sr, z) := by
  refine dk_met (L := [some (.ref 45), some (.int x), some (.int r), some (.int c)]) pnX8 rfl (Nat.le_of_ble_eq_true rfl) ?_
  intro X C E hNm
  have no : md_cb hi x r c = false → dk_W X 23 [some (.ref 45), some (.int x), some (.int r), some (.int c)] [.ref 45] 63 (hi, hf, dk_RF sr, z) 0 0 := by
    intro e
    refine dk_iconst C (1) dX8_cell_23 rfl ?_
    refine ek_putI C fX8_59 fwX8_0 rfl (by decide) rfl dX8_cell_24 ?_
    refine dk_aload_n C dX8_cell_27 rfl rfl ?_
    refine ek_getI C fX8_59 rfl (by decide) rfl dX8_cell_28 ?_
    rw [show dk_up hi 45 0 1 45 0 = 1 from dk_up_same _ _ _ _]
    refine dk_if_ne C 44 dX8_cell_31 (by decide) (fun _ => ?_) (fun hz => absurd hz (by decide))
    refine dk_iconst C (0) dX8_cell_44 rfl ?_
    exact dk_iret C E dX8_cell_45 (Nat.zero_le _) (Nat.zero_le _) (⟨pI (by rw [e]; rfl), by rw [e]; rfl⟩)
  refine dk_aload_n C dX8_cell_0 rfl rfl ?_
  refine dk_aload_n C dX8_cell_1 rfl rfl ?_
  refine dk_iload_n C dX8_cell_2 rfl rfl ?_
  refine dk_iload_n C dX8_cell_3 rfl rfl ?_
  refine ek_callV C mX8_81 (c_X8_isRow _ _ _ _ _ x r) rfl (by decide) rfl rfl (Nat.le_of_ble_eq_true rfl) (by decide) (by decide) (Nat.zero_le _) (Nat.zero_le _) dX8_cell_4 ?_
  refine dk_if_eq C 23 dX8_cell_7 (by decide) (fun c1 => ?_) (fun c1 => ?_)
  · exact no (by rw [md_cb, bI_n0 c1]; rfl)
  · refine dk_aload_n C dX8_cell_10 rfl rfl ?_
    refine dk_iload_n C dX8_cell_11 rfl rfl ?_
    refine dk_iload_n C dX8_cell_12 rfl rfl ?_
    refine ek_callV C mX8_85 (c_X8_isColumn _ _ _ _ _ x c) rfl (by decide) rfl rfl (Nat.le_of_ble_eq_true rfl) (by decide) (by decide) (Nat.zero_le _) (Nat.zero_le _) dX8_cell_13 ?_
    refine dk_if_eq C 23 dX8_cell_16 (by decide) (fun c2 => ?_) (fun c2 => ?_)
    · exact no (by rw [md_cb, bI_n0 c2, Bool.and_false])
    · obtain ⟨j, k, m, ⟨hj, hk, hm, rfl, rfl, rfl⟩, e, e2, e3⟩ := md_cb_1 h4 (bI_n1 c1) (bI_n1 c2)
      have eb : md_cb hi (nI j) (nI k) (nI m) = true := by rw [md_cb, bI_n1 c1, bI_n1 c2]; rfl
      refine dk_iconst C (0) dX8_cell_19 rfl ?_
      refine dk_goto C 24 dX8_cell_20 (by decide) ?_
      refine ek_putI C fX8_59 fwX8_0 rfl (by decide) rfl dX8_cell_24 ?_
      refine dk_aload_n C dX8_cell_27 rfl rfl ?_
      refine ek_getI C fX8_59 rfl (by decide) rfl dX8_cell_28 ?_
      rw [show dk_up hi 45 0 0 45 0 = 0 from dk_up_same _ _ _ _]
      refine dk_if_ne C 44 dX8_cell_31 (by decide) (fun hz => absurd hz (by decide)) (fun _ => ?_)
      refine dk_aload_n C dX8_cell_34 rfl rfl ?_
      refine dk_iload_n C dX8_cell_35 rfl rfl ?_
      refine dk_iload_n C dX8_cell_36 rfl rfl ?_
      refine dk_iload_n C dX8_cell_37 rfl rfl ?_
      refine ek_callV C mX8_88 (c_X8_get _ _ _ _ _ j k m hj hk hm) rfl (by decide) rfl rfl (Nat.le_of_ble_eq_true rfl) (by decide) (by decide) (Nat.zero_le _) (Nat.zero_le _) dX8_cell_38 ?_
      refine dk_goto C 45 dX8_cell_41 (by decide) ?_
      exact dk_iret C E dX8_cell_45 (Nat.zero_le _) (Nat.zero_le _) (⟨pI (by rw [if_pos eb, e, e2, e3]; rfl), by rw [eb]; rfl⟩)
/-- the marks of the model's indices are 0 or 1 -/
def mIX (hi : Nat → Nat → Int32) : Prop := ∀ q, q < 24 → hi 50 q = 0 ∨ hi 50 q = 1
def mx_at (x c k : Int32) : Nat := 8 * cl x + 4 * cl k + cl c
def mx_ok (hi : Nat → Nat → Int32) (x c k on : Int32) : Bool := md_hc hi x c && (decide (0 ≤ k ∧ k ≤ 1) && decide (hi 50 (mx_at x c k) ≠ on))
def mx_hi (hi : Nat → Nat → Int32) (x c k on : Int32) : Nat → Nat → Int32 := if mx_ok hi x c k on = true then md_chg (dk_up (dk_up hi 45 0 0) 50 (mx_at x c k) on) else dk_up hi 45 0 0
theorem md_2 {x : Int32} (h : decide (0 ≤ x ∧ x ≤ 1) = true) : ∃ j, j < 2 ∧ x = nI j ∧ cl x = j := by
  have h2 := of_decide_eq_true h
  rcases pk_ix x (n := 2) (by decide) with q | q | ⟨j, hj, rfl⟩
  · exact absurd h2.1 (Int32.not_le.mpr q)
  · exact absurd (Int32.le_trans (show nI 2 ≤ x from q) h2.2) (by decide)
  · exact ⟨j, hj, rfl, cl_nI (by omega)⟩
theorem md_hc_up {hi : Nat → Nat → Int32} {v x c : Int32} : md_hc (dk_up hi 45 0 v) x c = md_hc hi x c := rfl
theorem md_ht_up {hi : Nat → Nat → Int32} {v x : Int32} : md_ht (dk_up hi 45 0 v) x = md_ht hi x := rfl
set_option maxHeartbeats 4000000 in
set_option maxRecDepth 100000 in
theorem c_X8_setIndex (G : dk_G) (sr : Nat → Option Nat) (hi : Nat → Nat → Int32) (hf : Nat → Nat → UInt32) (z : (Nat → Nat → Int64) × (Nat → Nat → UInt64)) (h4 : ∀ j, j < 3 → hi 46 j ≤ 4) (x c k on : Int32) (hon : on = 0 ∨ on = 1) :
    dk_MF G yX8_setIndex cX8_setIndex 5 (some .boolean) 3 65 [.ref 45, .int x, .int c, .int k, .int on] (hi, hf, dk_RF sr, z) (some (.int (bI (mx_ok hi x c k on)))) (mx_hi hi x c k on, hf, dk_RF sr, z) := by
  refine dk_met (L := [some (.ref 45), some (.int x), some (.int c), some (.int k), some (.int on)]) pnX8 rfl (Nat.le_of_ble_eq_true rfl) ?_
  intro X C E hNm
  have no : mx_ok hi x c k on = false → dk_W X 43 [some (.ref 45), some (.int x), some (.int c), some (.int k), some (.int on)] [] 63 (dk_up hi 45 0 0, hf, dk_RF sr, z) 0 0 := by
    intro e
    refine dk_iconst C (0) dX8_setIndex_43 rfl ?_
    exact dk_zret C E rfl dX8_setIndex_44 (Nat.zero_le _) (Nat.zero_le _) (⟨pI (bI_f e), by rw [mx_hi, e]; rfl⟩)
  refine dk_aload_n C dX8_setIndex_0 rfl rfl ?_
  refine dk_iconst C (0) dX8_setIndex_1 rfl ?_
  refine ek_putI C fX8_59 fwX8_0 rfl (by decide) rfl dX8_setIndex_2 ?_
  refine dk_aload_n C dX8_setIndex_5 rfl rfl ?_
  refine dk_iload_n C dX8_setIndex_6 rfl rfl ?_
  refine dk_iload_n C dX8_setIndex_7 rfl rfl ?_
  refine ek_callV C mX8_85 (c_X8_isColumn _ _ _ _ _ x c) rfl (by decide) rfl rfl (Nat.le_of_ble_eq_true rfl) (by decide) (by decide) (Nat.zero_le _) (Nat.zero_le _) dX8_setIndex_8 ?_
  rw [md_hc_up]
  refine dk_if_eq C 43 dX8_setIndex_11 (by decide) (fun c1 => ?_) (fun c1 => ?_)
  · exact no (by rw [mx_ok, bI_n0 c1]; rfl)
  · refine dk_iload_n C dX8_setIndex_14 rfl rfl ?_
    refine dk_iconst C (0) dX8_setIndex_15 rfl ?_
    refine dk_iconst C (1) dX8_setIndex_16 rfl ?_
    refine ek_callS C mX8_63 (c_X8_in _ _ _ _ _ k 0 1) rfl rfl (Nat.le_of_ble_eq_true rfl) (by decide) (by decide) (Nat.zero_le _) (Nat.zero_le _) dX8_setIndex_17 ?_
    refine dk_if_eq C 43 dX8_setIndex_20 (by decide) (fun c2 => ?_) (fun c2 => ?_)
    · exact no (by rw [mx_ok, bI_n0 c2, Bool.false_and, Bool.and_false])
    · obtain ⟨j, m, hj, hm, rfl, rfl, e1, e2⟩ := md_hc_1 (bI_n1 c1) h4
      obtain ⟨q, hq, rfl, e3⟩ := md_2 (bI_n1 c2)
      have ea : mx_at (nI j) (nI m) (nI q) = 8 * j + 4 * q + m := by rw [mx_at, e1, e2, e3]
      refine dk_aload_n C dX8_setIndex_23 rfl rfl ?_
      refine ek_getR C fX8_23 rfl (by decide) rfl 50 rfl dX8_setIndex_24 ?_
      refine dk_bipush C (8) dX8_setIndex_27 rfl ?_
      refine dk_iload_n C dX8_setIndex_29 rfl rfl ?_
      refine dk_imul C dX8_setIndex_30 ?_
      refine dk_iconst C (4) dX8_setIndex_31 rfl ?_
      refine dk_iload_n C dX8_setIndex_32 rfl rfl ?_
      refine dk_imul C dX8_setIndex_33 ?_
      refine dk_iadd C dX8_setIndex_34 ?_
      refine dk_iload_n C dX8_setIndex_35 rfl rfl ?_
      refine dk_iadd C dX8_setIndex_36 ?_
      refine ek_zald C rfl (by decide) (8 * j + 4 * q + m) (mI84 j q m) (by omega) (by decide) dX8_setIndex_37 ?_
      refine dk_iload C dX8_setIndex_38 rfl ?_
      rw [show dk_up hi 45 0 0 50 (8 * j + 4 * q + m) = hi 50 (8 * j + 4 * q + m) from rfl]
      refine dk_icmp_ne C 45 dX8_setIndex_40 (by decide) (fun c3 => ?_) (fun c3 => ?_)
      · have eo : mx_ok hi (nI j) (nI m) (nI q) on = true := by rw [mx_ok, bI_n1 c1, bI_n1 c2, ea, decide_eq_true c3]; rfl
        refine dk_aload_n C dX8_setIndex_45 rfl rfl ?_
        refine ek_getR C fX8_23 rfl (by decide) rfl 50 rfl dX8_setIndex_46 ?_
        refine dk_bipush C (8) dX8_setIndex_49 rfl ?_
        refine dk_iload_n C dX8_setIndex_51 rfl rfl ?_
        refine dk_imul C dX8_setIndex_52 ?_
        refine dk_iconst C (4) dX8_setIndex_53 rfl ?_
        refine dk_iload_n C dX8_setIndex_54 rfl rfl ?_
        refine dk_imul C dX8_setIndex_55 ?_
        refine dk_iadd C dX8_setIndex_56 ?_
        refine dk_iload_n C dX8_setIndex_57 rfl rfl ?_
        refine dk_iadd C dX8_setIndex_58 ?_
        refine dk_iload C dX8_setIndex_59 rfl ?_
        refine ek_zast C rfl (by decide) (8 * j + 4 * q + m) (mI84 j q m) (by omega) (by decide) (hon) dX8_setIndex_61 ?_
        refine dk_aload_n C dX8_setIndex_62 rfl rfl ?_
        refine ek_callVv C mX8_78 (c_X8_changed _ _ _ _ _) rfl (by decide) rfl rfl (Nat.le_of_ble_eq_true rfl) (by decide) (by decide) (Nat.zero_le _) (Nat.zero_le _) dX8_setIndex_63 ?_
        refine dk_iconst C (1) dX8_setIndex_66 rfl ?_
        exact dk_zret C E rfl dX8_setIndex_67 (Nat.zero_le _) (Nat.zero_le _) (⟨pI (bI_t eo), by rw [mx_hi, if_pos eo, ea]⟩)
      · exact no (by rw [mx_ok, ea, decide_eq_false (p := hi 50 (8 * j + 4 * q + m) ≠ on) (fun q => q c3), Bool.and_false, Bool.and_false])
set_option maxHeartbeats 4000000 in
set_option maxRecDepth 100000 in
theorem c_X8_index (G : dk_G) (sr : Nat → Option Nat) (hi : Nat → Nat → Int32) (hf : Nat → Nat → UInt32) (z : (Nat → Nat → Int64) × (Nat → Nat → UInt64)) (h4 : ∀ j, j < 3 → hi 46 j ≤ 4) (x c k : Int32) :
    dk_MF G yX8_index cX8_index 4 (some .boolean) 4 89 [.ref 45, .int x, .int c, .int k] (hi, hf, dk_RF sr, z) (some (.int (bI (mx_ok hi x c k 1)))) (mx_hi hi x c k 1, hf, dk_RF sr, z) := by
  refine dk_met (L := [some (.ref 45), some (.int x), some (.int c), some (.int k)]) pnX8 rfl (Nat.le_of_ble_eq_true rfl) ?_
  intro X C E hNm
  refine dk_aload_n C dX8_index_0 rfl rfl ?_
  refine dk_iload_n C dX8_index_1 rfl rfl ?_
  refine dk_iload_n C dX8_index_2 rfl rfl ?_
  refine dk_iload_n C dX8_index_3 rfl rfl ?_
  refine dk_iconst C (1) dX8_index_4 rfl ?_
  refine ek_callV C mX8_92 (c_X8_setIndex _ _ _ _ _ h4 x c k 1 (Or.inr rfl)) rfl (by decide) rfl rfl (Nat.le_of_ble_eq_true rfl) (by decide) (by decide) (Nat.zero_le _) (Nat.zero_le _) dX8_index_5 ?_
  exact dk_zret C E (nb (bI_or _)) dX8_index_8 (Nat.zero_le _) (Nat.zero_le _) (⟨rfl, rfl⟩)
set_option maxHeartbeats 4000000 in
set_option maxRecDepth 100000 in
theorem c_X8_drop (G : dk_G) (sr : Nat → Option Nat) (hi : Nat → Nat → Int32) (hf : Nat → Nat → UInt32) (z : (Nat → Nat → Int64) × (Nat → Nat → UInt64)) (h4 : ∀ j, j < 3 → hi 46 j ≤ 4) (x c k : Int32) :
    dk_MF G yX8_drop cX8_drop 4 (some .boolean) 4 89 [.ref 45, .int x, .int c, .int k] (hi, hf, dk_RF sr, z) (some (.int (bI (mx_ok hi x c k 0)))) (mx_hi hi x c k 0, hf, dk_RF sr, z) := by
  refine dk_met (L := [some (.ref 45), some (.int x), some (.int c), some (.int k)]) pnX8 rfl (Nat.le_of_ble_eq_true rfl) ?_
  intro X C E hNm
  refine dk_aload_n C dX8_drop_0 rfl rfl ?_
  refine dk_iload_n C dX8_drop_1 rfl rfl ?_
  refine dk_iload_n C dX8_drop_2 rfl rfl ?_
  refine dk_iload_n C dX8_drop_3 rfl rfl ?_
  refine dk_iconst C (0) dX8_drop_4 rfl ?_
  refine ek_callV C mX8_92 (c_X8_setIndex _ _ _ _ _ h4 x c k 0 (Or.inl rfl)) rfl (by decide) rfl rfl (Nat.le_of_ble_eq_true rfl) (by decide) (by decide) (Nat.zero_le _) (Nat.zero_le _) dX8_drop_5 ?_
  exact dk_zret C E (nb (bI_or _)) dX8_drop_8 (Nat.zero_le _) (Nat.zero_le _) (⟨rfl, rfl⟩)
