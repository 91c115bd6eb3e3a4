/-! ===== QueryDesk: indices, the question ===== -/
theorem dk_end_T {hi : Nat → Nat → Int32} {t i j : Nat} (T : dk_T t) : dk_end hi (t + i) j = hi (t + i) j := dk_end_ne (by unfold dk_T at T; omega)
set_option maxHeartbeats 4000000 in
set_option maxRecDepth 100000 in
theorem c_X7_index (G : dk_G) (sr : Nat → Option Nat) (hi : Nat → Nat → Int32) (hf : Nat → Nat → UInt32) (z : (Nat → Nat → Int64) × (Nat → Nat → UInt64)) (hT : tIX hi) (h4 : ∀ j, j < 3 → hi (2 + 4 * j) 3 ≤ 4) (x c k : Int32) :
    dk_MF G yX7_index cX7_index 4 (some .boolean) 2 43 [.ref 0, .int x, .int c, .int k] (hi, hf, dk_RF sr, z) (some (.int (bI (ix_ok hi x c k 1)))) (if ix_ok hi x c k 1 = true then ix_hi hi x c k 1 else hi, hf, dk_RF sr, z) := by
  refine dk_met (L := [some (.ref 0), some (.int x), some (.int c), some (.int k)]) pnX7 rfl (Nat.le_of_ble_eq_true rfl) ?_
  intro X C E hNm
  have no : ix_ok hi x c k 1 = false → dk_W X 30 [some (.ref 0), some (.int x), some (.int c), some (.int k)] [] 63 (hi, hf, dk_RF sr, z) 0 0 := by
    intro e
    refine dk_iconst C (0) dX7_index_30 rfl ?_
    exact dk_zret C E rfl dX7_index_31 (Nat.zero_le _) (Nat.zero_le _) (⟨pI (bI_f e), by rw [e]; rfl⟩)
  refine dk_aload_n C dX7_index_0 rfl rfl ?_
  refine dk_iload_n C dX7_index_1 rfl rfl ?_
  refine dk_iload_n C dX7_index_2 rfl rfl ?_
  refine ek_callV C mX7_88 (c_X7_hasColumn _ _ _ _ _ x c) rfl (by decide) rfl rfl (Nat.le_of_ble_eq_true rfl) (by decide) (by decide) (Nat.zero_le _) (Nat.zero_le _) dX7_index_3 ?_
  refine dk_if_eq C 30 dX7_index_6 (by decide) (fun c1 => ?_) (fun c1 => ?_)
  · exact no (by rw [ix_ok, bI_n0 c1]; rfl)
  · refine dk_iload_n C dX7_index_9 rfl rfl ?_
    refine ek_callS C mX7_101 (c_X7_isKind _ _ _ _ _ k) rfl rfl (Nat.le_of_ble_eq_true rfl) (by decide) (by decide) (Nat.zero_le _) (Nat.zero_le _) dX7_index_10 ?_
    refine dk_if_eq C 30 dX7_index_13 (by decide) (fun c2 => ?_) (fun c2 => ?_)
    · exact no (by rw [ix_ok, bI_n0 c2, Bool.false_and, Bool.and_false])
    · obtain ⟨j, m, hj, hm, rfl, rfl, e1, e2⟩ := dk_hc_1 (bI_n1 c1) h4
      obtain ⟨q, hq, rfl⟩ : ∃ q, q < 2 ∧ k = nI q := by
        have := of_decide_eq_true (bI_n1 c2)
        rcases this with h | h
        · exact ⟨0, by decide, h⟩
        · exact ⟨1, by decide, h⟩
      have e3 : cl (nI q) = q := cl_nI (by omega)
      have T := dk_T1 hj
      have ea : hi (tcl (nI j) + 3) (ix_at (nI m) (nI q)) = hi (2 + 4 * j + 3) (m * 2 + q) := by rw [tcl, ix_at, e1, e2, e3]
      have hb := hT _ T (m * 2 + q) (by omega)
      refine dk_aload_n C dX7_index_16 rfl rfl ?_
      refine ek_getR C fX7_11 rfl (by decide) rfl 1 rfl dX7_index_17 ?_
      refine dk_iload_n C dX7_index_20 rfl rfl ?_
      refine ek_aald C rfl (by decide) (by decide) (j) (rfl) (hj) (by decide) (2 + 4 * j) (dk_RF1 sr hj) dX7_index_21 ?_
      refine dk_iload_n C dX7_index_22 rfl rfl ?_
      refine dk_iload_n C dX7_index_23 rfl rfl ?_
      refine ek_callV C mX7_104 (c_X5_hasIndex _ _ _ _ _ T m q hm hq hb) T.s0 T.l0 rfl rfl (Nat.le_of_ble_eq_true rfl) (by decide) (by decide) (Nat.zero_le _) (Nat.zero_le _) dX7_index_24 ?_
      refine dk_if_eq C 32 dX7_index_27 (by decide) (fun c3 => ?_) (fun c3 => ?_)
      · have eo : ix_ok hi (nI j) (nI m) (nI q) 1 = true := by rw [ix_ok, bI_n1 c1, bI_n1 c2, ea, c3]; rfl
        refine dk_aload_n C dX7_index_32 rfl rfl ?_
        refine ek_callVv C mX7_68 (c_X7_endQuestion _ _ _ _ _) rfl (by decide) rfl rfl (Nat.le_of_ble_eq_true rfl) (by decide) (by decide) (Nat.zero_le _) (Nat.zero_le _) dX7_index_33 ?_
        refine dk_aload_n C dX7_index_36 rfl rfl ?_
        refine ek_getR C fX7_11 rfl (by decide) rfl 1 rfl dX7_index_37 ?_
        refine dk_iload_n C dX7_index_40 rfl rfl ?_
        refine ek_aald C rfl (by decide) (by decide) (j) (rfl) (hj) (by decide) (2 + 4 * j) (dk_RF1 sr hj) dX7_index_41 ?_
        refine dk_iload_n C dX7_index_42 rfl rfl ?_
        refine dk_iload_n C dX7_index_43 rfl rfl ?_
        refine dk_iconst C (1) dX7_index_44 rfl ?_
        refine ek_callVv C mX7_107 (c_X5_setIndex _ _ _ _ _ T m q 1 hm hq (Or.inr rfl)) T.s0 T.l0 rfl rfl (Nat.le_of_ble_eq_true rfl) (by decide) (by decide) (Nat.zero_le _) (Nat.zero_le _) dX7_index_45 ?_
        refine dk_iconst C (1) dX7_index_48 rfl ?_
        exact dk_zret C E rfl dX7_index_49 (Nat.zero_le _) (Nat.zero_le _) (⟨pI (bI_t eo), by rw [if_pos eo, ix_hi, tcl, ix_at, e1, e2, e3]⟩)
      · exact no (by rw [ix_ok, ea, hb.resolve_left c3, Bool.and_eq_false_imp]; intro _; rw [Bool.and_eq_false_imp]; intro _; rfl)
set_option maxHeartbeats 4000000 in
set_option maxRecDepth 100000 in
theorem c_X7_drop (G : dk_G) (sr : Nat → Option Nat) (hi : Nat → Nat → Int32) (hf : Nat → Nat → UInt32) (z : (Nat → Nat → Int64) × (Nat → Nat → UInt64)) (hT : tIX hi) (h4 : ∀ j, j < 3 → hi (2 + 4 * j) 3 ≤ 4) (x c k : Int32) :
    dk_MF G yX7_drop cX7_drop 4 (some .boolean) 2 43 [.ref 0, .int x, .int c, .int k] (hi, hf, dk_RF sr, z) (some (.int (bI (ix_ok hi x c k 0)))) (if ix_ok hi x c k 0 = true then ix_hi hi x c k 0 else hi, hf, dk_RF sr, z) := by
  refine dk_met (L := [some (.ref 0), some (.int x), some (.int c), some (.int k)]) pnX7 rfl (Nat.le_of_ble_eq_true rfl) ?_
  intro X C E hNm
  have no : ix_ok hi x c k 0 = false → dk_W X 30 [some (.ref 0), some (.int x), some (.int c), some (.int k)] [] 63 (hi, hf, dk_RF sr, z) 0 0 := by
    intro e
    refine dk_iconst C (0) dX7_drop_30 rfl ?_
    exact dk_zret C E rfl dX7_drop_31 (Nat.zero_le _) (Nat.zero_le _) (⟨pI (bI_f e), by rw [e]; rfl⟩)
  refine dk_aload_n C dX7_drop_0 rfl rfl ?_
  refine dk_iload_n C dX7_drop_1 rfl rfl ?_
  refine dk_iload_n C dX7_drop_2 rfl rfl ?_
  refine ek_callV C mX7_88 (c_X7_hasColumn _ _ _ _ _ x c) rfl (by decide) rfl rfl (Nat.le_of_ble_eq_true rfl) (by decide) (by decide) (Nat.zero_le _) (Nat.zero_le _) dX7_drop_3 ?_
  refine dk_if_eq C 30 dX7_drop_6 (by decide) (fun c1 => ?_) (fun c1 => ?_)
  · exact no (by rw [ix_ok, bI_n0 c1]; rfl)
  · refine dk_iload_n C dX7_drop_9 rfl rfl ?_
    refine ek_callS C mX7_101 (c_X7_isKind _ _ _ _ _ k) rfl rfl (Nat.le_of_ble_eq_true rfl) (by decide) (by decide) (Nat.zero_le _) (Nat.zero_le _) dX7_drop_10 ?_
    refine dk_if_eq C 30 dX7_drop_13 (by decide) (fun c2 => ?_) (fun c2 => ?_)
    · exact no (by rw [ix_ok, bI_n0 c2, Bool.false_and, Bool.and_false])
    · obtain ⟨j, m, hj, hm, rfl, rfl, e1, e2⟩ := dk_hc_1 (bI_n1 c1) h4
      obtain ⟨q, hq, rfl⟩ : ∃ q, q < 2 ∧ k = nI q := by
        have := of_decide_eq_true (bI_n1 c2)
        rcases this with h | h
        · exact ⟨0, by decide, h⟩
        · exact ⟨1, by decide, h⟩
      have e3 : cl (nI q) = q := cl_nI (by omega)
      have T := dk_T1 hj
      have ea : hi (tcl (nI j) + 3) (ix_at (nI m) (nI q)) = hi (2 + 4 * j + 3) (m * 2 + q) := by rw [tcl, ix_at, e1, e2, e3]
      have hb := hT _ T (m * 2 + q) (by omega)
      refine dk_aload_n C dX7_drop_16 rfl rfl ?_
      refine ek_getR C fX7_11 rfl (by decide) rfl 1 rfl dX7_drop_17 ?_
      refine dk_iload_n C dX7_drop_20 rfl rfl ?_
      refine ek_aald C rfl (by decide) (by decide) (j) (rfl) (hj) (by decide) (2 + 4 * j) (dk_RF1 sr hj) dX7_drop_21 ?_
      refine dk_iload_n C dX7_drop_22 rfl rfl ?_
      refine dk_iload_n C dX7_drop_23 rfl rfl ?_
      refine ek_callV C mX7_104 (c_X5_hasIndex _ _ _ _ _ T m q hm hq hb) T.s0 T.l0 rfl rfl (Nat.le_of_ble_eq_true rfl) (by decide) (by decide) (Nat.zero_le _) (Nat.zero_le _) dX7_drop_24 ?_
      refine dk_if_ne C 32 dX7_drop_27 (by decide) (fun c3 => ?_) (fun c3 => ?_)
      · have eo : ix_ok hi (nI j) (nI m) (nI q) 0 = true := by rw [ix_ok, bI_n1 c1, bI_n1 c2, ea, decide_eq_true c3]; rfl
        refine dk_aload_n C dX7_drop_32 rfl rfl ?_
        refine ek_callVv C mX7_68 (c_X7_endQuestion _ _ _ _ _) rfl (by decide) rfl rfl (Nat.le_of_ble_eq_true rfl) (by decide) (by decide) (Nat.zero_le _) (Nat.zero_le _) dX7_drop_33 ?_
        refine dk_aload_n C dX7_drop_36 rfl rfl ?_
        refine ek_getR C fX7_11 rfl (by decide) rfl 1 rfl dX7_drop_37 ?_
        refine dk_iload_n C dX7_drop_40 rfl rfl ?_
        refine ek_aald C rfl (by decide) (by decide) (j) (rfl) (hj) (by decide) (2 + 4 * j) (dk_RF1 sr hj) dX7_drop_41 ?_
        refine dk_iload_n C dX7_drop_42 rfl rfl ?_
        refine dk_iload_n C dX7_drop_43 rfl rfl ?_
        refine dk_iconst C (0) dX7_drop_44 rfl ?_
        refine ek_callVv C mX7_107 (c_X5_setIndex _ _ _ _ _ T m q 0 hm hq (Or.inl rfl)) T.s0 T.l0 rfl rfl (Nat.le_of_ble_eq_true rfl) (by decide) (by decide) (Nat.zero_le _) (Nat.zero_le _) dX7_drop_45 ?_
        refine dk_iconst C (1) dX7_drop_48 rfl ?_
        exact dk_zret C E rfl dX7_drop_49 (Nat.zero_le _) (Nat.zero_le _) (⟨pI (bI_t eo), by rw [if_pos eo, ix_hi, tcl, ix_at, e1, e2, e3]⟩)
      · exact no (by rw [ix_ok, ea, c3, Bool.and_eq_false_imp]; intro _; rw [Bool.and_eq_false_imp]; intro _; rfl)
def fr_ok (hi : Nat → Nat → Int32) (x : Int32) : Bool := decide (hi 0 4 = 0) && (dk_ht hi x && decide (hi 14 4 < 3))
set_option maxHeartbeats 4000000 in
set_option maxRecDepth 100000 in
theorem c_X7_from (G : dk_G) (sr : Nat → Option Nat) (hi : Nat → Nat → Int32) (hf : Nat → Nat → UInt32) (z : (Nat → Nat → Int64) × (Nat → Nat → UInt64)) (n : Nat) (hn : hi 14 4 = nI n) (hn3 : n ≤ 3) (x : Int32) :
    dk_MF G yX7_from cX7_from 2 (some .int) 1 22 [.ref 0, .int x] (hi, hf, dk_RF sr, z) (some (.int (if fr_ok hi x = true then nI n else -1))) (if fr_ok hi x = true then dk_up hi 14 4 (nI (n + 1)) else hi, hf, dk_RF (if fr_ok hi x = true then sr_up sr n (some (tcl x)) else sr), z) := by
  refine dk_met (L := [some (.ref 0), some (.int x)]) pnX7 rfl (Nat.le_of_ble_eq_true rfl) ?_
  intro X C E hNm
  have no : fr_ok hi x = false → dk_W X 26 [some (.ref 0), some (.int x)] [] 63 (hi, hf, dk_RF sr, z) 0 0 := by
    intro e
    refine dk_iconst C (-1) dX7_from_26 rfl ?_
    exact dk_iret C E dX7_from_27 (Nat.zero_le _) (Nat.zero_le _) (⟨pI (by rw [e]; rfl), by rw [e]; rfl⟩)
  refine dk_aload_n C dX7_from_0 rfl rfl ?_
  refine ek_getI C fX7_37 rfl (by decide) rfl dX7_from_1 ?_
  refine dk_if_ne C 26 dX7_from_4 (by decide) (fun c1 => ?_) (fun c1 => ?_)
  · exact no (by rw [fr_ok, decide_eq_false c1]; rfl)
  · refine dk_aload_n C dX7_from_7 rfl rfl ?_
    refine dk_iload_n C dX7_from_8 rfl rfl ?_
    refine ek_callV C mX7_48 (c_X7_hasTable _ _ _ _ _ x) rfl (by decide) rfl rfl (Nat.le_of_ble_eq_true rfl) (by decide) (by decide) (Nat.zero_le _) (Nat.zero_le _) dX7_from_9 ?_
    refine dk_if_eq C 26 dX7_from_12 (by decide) (fun c2 => ?_) (fun c2 => ?_)
    · exact no (by rw [fr_ok, bI_n0 c2, Bool.false_and, Bool.and_false])
    · obtain ⟨j, hj, rfl, e, h0⟩ := dk_ht_1 (bI_n1 c2)
      have T := dk_T1 hj
      refine dk_aload_n C dX7_from_15 rfl rfl ?_
      refine ek_getR C fX7_19 rfl (by decide) rfl 14 rfl dX7_from_16 ?_
      refine ek_getI C fX7_111 rfl (by decide) rfl dX7_from_19 ?_
      refine dk_iconst C (3) dX7_from_22 rfl ?_
      refine dk_icmp_lt C 28 dX7_from_23 (by decide) (fun c3 => ?_) (fun c3 => ?_)
      · have eo : fr_ok hi (nI j) = true := by rw [fr_ok, decide_eq_true c1, bI_n1 c2, decide_eq_true c3]; rfl
        have hlt : n < 3 := by rw [hn] at c3; exact (nI_ltI (by omega) (by decide)).mp c3
        refine dk_aload_n C dX7_from_28 rfl rfl ?_
        refine ek_getR C fX7_19 rfl (by decide) rfl 14 rfl dX7_from_29 ?_
        refine dk_aload_n C dX7_from_32 rfl rfl ?_
        refine ek_getR C fX7_11 rfl (by decide) rfl 1 rfl dX7_from_33 ?_
        refine dk_iload_n C dX7_from_36 rfl rfl ?_
        refine ek_aald C rfl (by decide) (by decide) (j) (rfl) (hj) (by decide) (2 + 4 * j) (dk_RF1 sr hj) dX7_from_37 ?_
        refine ek_callV C mX7_114 (c_X4_addSource _ _ _ _ _ n T hn hlt) rfl (by decide) rfl rfl (Nat.le_of_ble_eq_true rfl) (by decide) (by decide) (Nat.zero_le _) (Nat.zero_le _) dX7_from_38 ?_
        exact dk_iret C E dX7_from_41 (Nat.zero_le _) (Nat.zero_le _) (⟨pI (by rw [if_pos eo]), by rw [if_pos eo, if_pos eo, tcl, e]⟩)
      · exact no (by rw [fr_ok, decide_eq_false c3, Bool.and_false, Bool.and_false])
def wh_ok (hi : Nat → Nat → Int32) (n : Nat) (st : Nat → Nat) (s c o : Int32) : Bool := decide (hi 0 4 = 0) && (qu_has hi n st s c && (decide (0 ≤ o ∧ o ≤ 3) && decide (hi 14 5 < 4)))
set_option maxHeartbeats 4000000 in
set_option maxRecDepth 100000 in
theorem c_X7_where (G : dk_G) (sr : Nat → Option Nat) (hi : Nat → Nat → Int32) (hf : Nat → Nat → UInt32) (z : (Nat → Nat → Int64) × (Nat → Nat → UInt64)) (n m : Nat) (st : Nat → Nat) (Sn : qu_S sr n st) (hn : hi 14 4 = nI n) (hm : hi 14 5 = nI m) (hm4 : m ≤ 4) (s c o x : Int32) :
    dk_MF G yX7_where cX7_where 5 (some .boolean) 2 43 [.ref 0, .int s, .int c, .int o, .int x] (hi, hf, dk_RF sr, z) (some (.int (bI (wh_ok hi n st s c o)))) (if wh_ok hi n st s c o = true then qu_addC hi m s c o x else hi, hf, dk_RF sr, z) := by
  refine dk_met (L := [some (.ref 0), some (.int s), some (.int c), some (.int o), some (.int x)]) pnX7 rfl (Nat.le_of_ble_eq_true rfl) ?_
  intro X C E hNm
  have no : wh_ok hi n st s c o = false → dk_W X 39 [some (.ref 0), some (.int s), some (.int c), some (.int o), some (.int x)] [] 63 (hi, hf, dk_RF sr, z) 0 0 := by
    intro e
    refine dk_iconst C (0) dX7_where_39 rfl ?_
    exact dk_zret C E rfl dX7_where_40 (Nat.zero_le _) (Nat.zero_le _) (⟨pI (bI_f e), by rw [e]; rfl⟩)
  refine dk_aload_n C dX7_where_0 rfl rfl ?_
  refine ek_getI C fX7_37 rfl (by decide) rfl dX7_where_1 ?_
  refine dk_if_ne C 39 dX7_where_4 (by decide) (fun c1 => ?_) (fun c1 => ?_)
  · exact no (by rw [wh_ok, decide_eq_false c1]; rfl)
  · refine dk_aload_n C dX7_where_7 rfl rfl ?_
    refine ek_getR C fX7_19 rfl (by decide) rfl 14 rfl dX7_where_8 ?_
    refine dk_iload_n C dX7_where_11 rfl rfl ?_
    refine dk_iload_n C dX7_where_12 rfl rfl ?_
    refine ek_callV C mX7_118 (c_X4_hasColumn _ _ _ _ _ n st Sn hn s c) rfl (by decide) rfl rfl (Nat.le_of_ble_eq_true rfl) (by decide) (by decide) (Nat.zero_le _) (Nat.zero_le _) dX7_where_13 ?_
    refine dk_if_eq C 39 dX7_where_16 (by decide) (fun c2 => ?_) (fun c2 => ?_)
    · exact no (by rw [wh_ok, bI_n0 c2, Bool.false_and, Bool.and_false])
    · refine dk_iload_n C dX7_where_19 rfl rfl ?_
      refine dk_if_lt C 39 dX7_where_20 (by decide) (fun c3 => ?_) (fun c3 => ?_)
      · exact no (by rw [wh_ok, decide_eq_false (p := 0 ≤ o ∧ o ≤ 3) (fun q => Int32.not_le.mpr c3 q.1), Bool.false_and, Bool.and_false, Bool.and_false])
      · refine dk_iload_n C dX7_where_23 rfl rfl ?_
        refine dk_iconst C (3) dX7_where_24 rfl ?_
        refine dk_icmp_gt C 39 dX7_where_25 (by decide) (fun c4 => ?_) (fun c4 => ?_)
        · exact no (by rw [wh_ok, decide_eq_false (p := 0 ≤ o ∧ o ≤ 3) (fun q => Int32.not_le.mpr c4 q.2), Bool.false_and, Bool.and_false, Bool.and_false])
        · refine dk_aload_n C dX7_where_28 rfl rfl ?_
          refine ek_getR C fX7_19 rfl (by decide) rfl 14 rfl dX7_where_29 ?_
          refine ek_getI C fX7_119 rfl (by decide) rfl dX7_where_32 ?_
          refine dk_iconst C (4) dX7_where_35 rfl ?_
          refine dk_icmp_lt C 41 dX7_where_36 (by decide) (fun c5 => ?_) (fun c5 => ?_)
          · have eo : wh_ok hi n st s c o = true := by rw [wh_ok, decide_eq_true c1, bI_n1 c2, decide_eq_true (p := 0 ≤ o ∧ o ≤ 3) ⟨Int32.not_lt.mp c3, Int32.not_lt.mp c4⟩, decide_eq_true c5]; rfl
            have hlt : m < 4 := by rw [hm] at c5; exact (nI_ltI (by omega) (by decide)).mp c5
            refine dk_aload_n C dX7_where_41 rfl rfl ?_
            refine ek_getR C fX7_19 rfl (by decide) rfl 14 rfl dX7_where_42 ?_
            refine dk_iload_n C dX7_where_45 rfl rfl ?_
            refine dk_iload_n C dX7_where_46 rfl rfl ?_
            refine dk_iload_n C dX7_where_47 rfl rfl ?_
            refine dk_iload C dX7_where_48 rfl ?_
            refine ek_callVv C mX7_122 (c_X4_addCondition _ _ _ _ _ m hm hlt s c o x) rfl (by decide) rfl rfl (Nat.le_of_ble_eq_true rfl) (by decide) (by decide) (Nat.zero_le _) (Nat.zero_le _) dX7_where_50 ?_
            refine dk_iconst C (1) dX7_where_53 rfl ?_
            exact dk_zret C E rfl dX7_where_54 (Nat.zero_le _) (Nat.zero_le _) (⟨pI (bI_t eo), by rw [if_pos eo]⟩)
          · exact no (by rw [wh_ok, decide_eq_false c5, Bool.and_false, Bool.and_false, Bool.and_false])
def jn_ok (hi : Nat → Nat → Int32) (n : Nat) (st : Nat → Nat) (s c o c2 : Int32) : Bool := decide (hi 0 4 = 0) && (qu_has hi n st s c && (qu_has hi n st o c2 && (decide (s ≠ o) && decide (hi 14 6 < 3))))
set_option maxHeartbeats 4000000 in
set_option maxRecDepth 100000 in
theorem c_X7_join (G : dk_G) (sr : Nat → Option Nat) (hi : Nat → Nat → Int32) (hf : Nat → Nat → UInt32) (z : (Nat → Nat → Int64) × (Nat → Nat → UInt64)) (n m : Nat) (st : Nat → Nat) (Sn : qu_S sr n st) (hn : hi 14 4 = nI n) (hm : hi 14 6 = nI m) (hm3 : m ≤ 3) (s c o x : Int32) :
    dk_MF G yX7_join cX7_join 5 (some .boolean) 2 43 [.ref 0, .int s, .int c, .int o, .int x] (hi, hf, dk_RF sr, z) (some (.int (bI (jn_ok hi n st s c o x)))) (if jn_ok hi n st s c o x = true then qu_addJ hi m s c o x else hi, hf, dk_RF sr, z) := by
  refine dk_met (L := [some (.ref 0), some (.int s), some (.int c), some (.int o), some (.int x)]) pnX7 rfl (Nat.le_of_ble_eq_true rfl) ?_
  intro X C E hNm
  have no : jn_ok hi n st s c o x = false → dk_W X 48 [some (.ref 0), some (.int s), some (.int c), some (.int o), some (.int x)] [] 63 (hi, hf, dk_RF sr, z) 0 0 := by
    intro e
    refine dk_iconst C (0) dX7_join_48 rfl ?_
    exact dk_zret C E rfl dX7_join_49 (Nat.zero_le _) (Nat.zero_le _) (⟨pI (bI_f e), by rw [e]; rfl⟩)
  refine dk_aload_n C dX7_join_0 rfl rfl ?_
  refine ek_getI C fX7_37 rfl (by decide) rfl dX7_join_1 ?_
  refine dk_if_ne C 48 dX7_join_4 (by decide) (fun c1 => ?_) (fun c1 => ?_)
  · exact no (by rw [jn_ok, decide_eq_false c1]; rfl)
  · refine dk_aload_n C dX7_join_7 rfl rfl ?_
    refine ek_getR C fX7_19 rfl (by decide) rfl 14 rfl dX7_join_8 ?_
    refine dk_iload_n C dX7_join_11 rfl rfl ?_
    refine dk_iload_n C dX7_join_12 rfl rfl ?_
    refine ek_callV C mX7_118 (c_X4_hasColumn _ _ _ _ _ n st Sn hn s c) rfl (by decide) rfl rfl (Nat.le_of_ble_eq_true rfl) (by decide) (by decide) (Nat.zero_le _) (Nat.zero_le _) dX7_join_13 ?_
    refine dk_if_eq C 48 dX7_join_16 (by decide) (fun c2 => ?_) (fun c2 => ?_)
    · exact no (by rw [jn_ok, bI_n0 c2, Bool.false_and, Bool.and_false])
    · refine dk_aload_n C dX7_join_19 rfl rfl ?_
      refine ek_getR C fX7_19 rfl (by decide) rfl 14 rfl dX7_join_20 ?_
      refine dk_iload_n C dX7_join_23 rfl rfl ?_
      refine dk_iload C dX7_join_24 rfl ?_
      refine ek_callV C mX7_118 (c_X4_hasColumn _ _ _ _ _ n st Sn hn o x) rfl (by decide) rfl rfl (Nat.le_of_ble_eq_true rfl) (by decide) (by decide) (Nat.zero_le _) (Nat.zero_le _) dX7_join_26 ?_
      refine dk_if_eq C 48 dX7_join_29 (by decide) (fun c3 => ?_) (fun c3 => ?_)
      · exact no (by rw [jn_ok, bI_n0 c3, Bool.false_and, Bool.and_false, Bool.and_false])
      · refine dk_iload_n C dX7_join_32 rfl rfl ?_
        refine dk_iload_n C dX7_join_33 rfl rfl ?_
        refine dk_icmp_eq C 48 dX7_join_34 (by decide) (fun c4 => ?_) (fun c4 => ?_)
        · exact no (by rw [jn_ok, decide_eq_false (p := s ≠ o) (fun q => q c4), Bool.false_and, Bool.and_false, Bool.and_false, Bool.and_false])
        · refine dk_aload_n C dX7_join_37 rfl rfl ?_
          refine ek_getR C fX7_19 rfl (by decide) rfl 14 rfl dX7_join_38 ?_
          refine ek_getI C fX7_126 rfl (by decide) rfl dX7_join_41 ?_
          refine dk_iconst C (3) dX7_join_44 rfl ?_
          refine dk_icmp_lt C 50 dX7_join_45 (by decide) (fun c5 => ?_) (fun c5 => ?_)
          · have eo : jn_ok hi n st s c o x = true := by rw [jn_ok, decide_eq_true c1, bI_n1 c2, bI_n1 c3, decide_eq_true (p := s ≠ o) c4, decide_eq_true c5]; rfl
            have hlt : m < 3 := by rw [hm] at c5; exact (nI_ltI (by omega) (by decide)).mp c5
            refine dk_aload_n C dX7_join_50 rfl rfl ?_
            refine ek_getR C fX7_19 rfl (by decide) rfl 14 rfl dX7_join_51 ?_
            refine dk_iload_n C dX7_join_54 rfl rfl ?_
            refine dk_iload_n C dX7_join_55 rfl rfl ?_
            refine dk_iload_n C dX7_join_56 rfl rfl ?_
            refine dk_iload C dX7_join_57 rfl ?_
            refine ek_callVv C mX7_129 (c_X4_addJoin _ _ _ _ _ m hm hlt s c o x) rfl (by decide) rfl rfl (Nat.le_of_ble_eq_true rfl) (by decide) (by decide) (Nat.zero_le _) (Nat.zero_le _) dX7_join_59 ?_
            refine dk_iconst C (1) dX7_join_62 rfl ?_
            exact dk_zret C E rfl dX7_join_63 (Nat.zero_le _) (Nat.zero_le _) (⟨pI (bI_t eo), by rw [if_pos eo]⟩)
          · exact no (by rw [jn_ok, decide_eq_false c5, Bool.and_false, Bool.and_false, Bool.and_false, Bool.and_false])
def sl_ok (hi : Nat → Nat → Int32) (n : Nat) (st : Nat → Nat) (s c : Int32) : Bool := decide (hi 0 4 = 0) && (qu_has hi n st s c && decide (hi 14 7 < 4))
set_option maxHeartbeats 4000000 in
set_option maxRecDepth 100000 in
theorem c_X7_select (G : dk_G) (sr : Nat → Option Nat) (hi : Nat → Nat → Int32) (hf : Nat → Nat → UInt32) (z : (Nat → Nat → Int64) × (Nat → Nat → UInt64)) (n m : Nat) (st : Nat → Nat) (Sn : qu_S sr n st) (hn : hi 14 4 = nI n) (hm : hi 14 7 = nI m) (hm4 : m ≤ 4) (s c : Int32) :
    dk_MF G yX7_select cX7_select 3 (some .int) 2 43 [.ref 0, .int s, .int c] (hi, hf, dk_RF sr, z) (some (.int (if sl_ok hi n st s c = true then nI m else -1))) (if sl_ok hi n st s c = true then qu_addO hi m s c else hi, hf, dk_RF sr, z) := by
  refine dk_met (L := [some (.ref 0), some (.int s), some (.int c)]) pnX7 rfl (Nat.le_of_ble_eq_true rfl) ?_
  intro X C E hNm
  have no : sl_ok hi n st s c = false → dk_W X 30 [some (.ref 0), some (.int s), some (.int c)] [] 63 (hi, hf, dk_RF sr, z) 0 0 := by
    intro e
    refine dk_iconst C (-1) dX7_select_30 rfl ?_
    exact dk_iret C E dX7_select_31 (Nat.zero_le _) (Nat.zero_le _) (⟨pI (by rw [e]; rfl), by rw [e]; rfl⟩)
  refine dk_aload_n C dX7_select_0 rfl rfl ?_
  refine ek_getI C fX7_37 rfl (by decide) rfl dX7_select_1 ?_
  refine dk_if_ne C 30 dX7_select_4 (by decide) (fun c1 => ?_) (fun c1 => ?_)
  · exact no (by rw [sl_ok, decide_eq_false c1]; rfl)
  · refine dk_aload_n C dX7_select_7 rfl rfl ?_
    refine ek_getR C fX7_19 rfl (by decide) rfl 14 rfl dX7_select_8 ?_
    refine dk_iload_n C dX7_select_11 rfl rfl ?_
    refine dk_iload_n C dX7_select_12 rfl rfl ?_
    refine ek_callV C mX7_118 (c_X4_hasColumn _ _ _ _ _ n st Sn hn s c) rfl (by decide) rfl rfl (Nat.le_of_ble_eq_true rfl) (by decide) (by decide) (Nat.zero_le _) (Nat.zero_le _) dX7_select_13 ?_
    refine dk_if_eq C 30 dX7_select_16 (by decide) (fun c2 => ?_) (fun c2 => ?_)
    · exact no (by rw [sl_ok, bI_n0 c2, Bool.false_and, Bool.and_false])
    · refine dk_aload_n C dX7_select_19 rfl rfl ?_
      refine ek_getR C fX7_19 rfl (by decide) rfl 14 rfl dX7_select_20 ?_
      refine ek_getI C fX7_132 rfl (by decide) rfl dX7_select_23 ?_
      refine dk_iconst C (4) dX7_select_26 rfl ?_
      refine dk_icmp_lt C 32 dX7_select_27 (by decide) (fun c5 => ?_) (fun c5 => ?_)
      · have eo : sl_ok hi n st s c = true := by rw [sl_ok, decide_eq_true c1, bI_n1 c2, decide_eq_true c5]; rfl
        have hlt : m < 4 := by rw [hm] at c5; exact (nI_ltI (by omega) (by decide)).mp c5
        refine dk_aload_n C dX7_select_32 rfl rfl ?_
        refine ek_getR C fX7_19 rfl (by decide) rfl 14 rfl dX7_select_33 ?_
        refine dk_iload_n C dX7_select_36 rfl rfl ?_
        refine dk_iload_n C dX7_select_37 rfl rfl ?_
        refine ek_callV C mX7_135 (c_X4_addOutput _ _ _ _ _ m hm hlt s c) rfl (by decide) rfl rfl (Nat.le_of_ble_eq_true rfl) (by decide) (by decide) (Nat.zero_le _) (Nat.zero_le _) dX7_select_38 ?_
        exact dk_iret C E dX7_select_41 (Nat.zero_le _) (Nat.zero_le _) (⟨pI (by rw [if_pos eo]), by rw [if_pos eo]⟩)
      · exact no (by rw [sl_ok, decide_eq_false c5, Bool.and_false, Bool.and_false])
def or_ok (hi : Nat → Nat → Int32) (o : Int32) : Bool := decide (hi 0 4 = 0) && decide (0 ≤ o ∧ o < hi 14 7)
set_option maxHeartbeats 4000000 in
set_option maxRecDepth 100000 in
theorem c_X7_order (G : dk_G) (sr : Nat → Option Nat) (hi : Nat → Nat → Int32) (hf : Nat → Nat → UInt32) (z : (Nat → Nat → Int64) × (Nat → Nat → UInt64)) (o f : Int32) (hf01 : f = 0 ∨ f = 1) :
    dk_MF G yX7_order cX7_order 3 (some .boolean) 0 0 [.ref 0, .int o, .int f] (hi, hf, dk_RF sr, z) (some (.int (bI (or_ok hi o)))) (if or_ok hi o = true then dk_up (dk_up hi 14 8 o) 14 9 f else hi, hf, dk_RF sr, z) := by
  refine dk_met (L := [some (.ref 0), some (.int o), some (.int f)]) pnX7 rfl (Nat.le_of_ble_eq_true rfl) ?_
  intro X C E hNm
  have no : or_ok hi o = false → dk_W X 22 [some (.ref 0), some (.int o), some (.int f)] [] 63 (hi, hf, dk_RF sr, z) 0 0 := by
    intro e
    refine dk_iconst C (0) dX7_order_22 rfl ?_
    exact dk_zret C E rfl dX7_order_23 (Nat.zero_le _) (Nat.zero_le _) (⟨pI (bI_f e), by rw [e]; rfl⟩)
  refine dk_aload_n C dX7_order_0 rfl rfl ?_
  refine ek_getI C fX7_37 rfl (by decide) rfl dX7_order_1 ?_
  refine dk_if_ne C 22 dX7_order_4 (by decide) (fun c1 => ?_) (fun c1 => ?_)
  · exact no (by rw [or_ok, decide_eq_false c1]; rfl)
  · refine dk_iload_n C dX7_order_7 rfl rfl ?_
    refine dk_if_lt C 22 dX7_order_8 (by decide) (fun c2 => ?_) (fun c2 => ?_)
    · exact no (by rw [or_ok, decide_eq_false (p := 0 ≤ o ∧ o < hi 14 7) (fun q => Int32.not_le.mpr c2 q.1), Bool.and_false])
    · refine dk_iload_n C dX7_order_11 rfl rfl ?_
      refine dk_aload_n C dX7_order_12 rfl rfl ?_
      refine ek_getR C fX7_19 rfl (by decide) rfl 14 rfl dX7_order_13 ?_
      refine ek_getI C fX7_132 rfl (by decide) rfl dX7_order_16 ?_
      refine dk_icmp_lt C 24 dX7_order_19 (by decide) (fun c3 => ?_) (fun c3 => ?_)
      · have eo : or_ok hi o = true := by rw [or_ok, decide_eq_true c1, decide_eq_true (p := 0 ≤ o ∧ o < hi 14 7) ⟨Int32.not_lt.mp c2, c3⟩]; rfl
        refine dk_aload_n C dX7_order_24 rfl rfl ?_
        refine ek_getR C fX7_19 rfl (by decide) rfl 14 rfl dX7_order_25 ?_
        refine dk_iload_n C dX7_order_28 rfl rfl ?_
        refine ek_putI C fX7_138 fwX4_8 rfl (by decide) rfl dX7_order_29 ?_
        refine dk_aload_n C dX7_order_32 rfl rfl ?_
        refine ek_getR C fX7_19 rfl (by decide) rfl 14 rfl dX7_order_33 ?_
        refine dk_iload_n C dX7_order_36 rfl rfl ?_
        refine ek_putZ C fX7_141 fwX4_9 rfl (by decide) rfl (hf01) dX7_order_37 ?_
        refine dk_iconst C (1) dX7_order_40 rfl ?_
        exact dk_zret C E rfl dX7_order_41 (Nat.zero_le _) (Nat.zero_le _) (⟨pI (bI_t eo), by rw [if_pos eo]⟩)
      · exact no (by rw [or_ok, decide_eq_false (p := 0 ≤ o ∧ o < hi 14 7) (fun q => c3 q.2), Bool.and_false])
def lm_ok (hi : Nat → Nat → Int32) (n : Int32) : Bool := decide (hi 0 4 = 0) && decide (1 ≤ n ∧ n ≤ 64)
set_option maxHeartbeats 4000000 in
set_option maxRecDepth 100000 in
theorem c_X7_limit (G : dk_G) (sr : Nat → Option Nat) (hi : Nat → Nat → Int32) (hf : Nat → Nat → UInt32) (z : (Nat → Nat → Int64) × (Nat → Nat → UInt64)) (n : Int32) :
    dk_MF G yX7_limit cX7_limit 2 (some .boolean) 0 0 [.ref 0, .int n] (hi, hf, dk_RF sr, z) (some (.int (bI (lm_ok hi n)))) (if lm_ok hi n = true then dk_up hi 14 10 n else hi, hf, dk_RF sr, z) := by
  refine dk_met (L := [some (.ref 0), some (.int n)]) pnX7 rfl (Nat.le_of_ble_eq_true rfl) ?_
  intro X C E hNm
  have no : lm_ok hi n = false → dk_W X 18 [some (.ref 0), some (.int n)] [] 63 (hi, hf, dk_RF sr, z) 0 0 := by
    intro e
    refine dk_iconst C (0) dX7_limit_18 rfl ?_
    exact dk_zret C E rfl dX7_limit_19 (Nat.zero_le _) (Nat.zero_le _) (⟨pI (bI_f e), by rw [e]; rfl⟩)
  refine dk_aload_n C dX7_limit_0 rfl rfl ?_
  refine ek_getI C fX7_37 rfl (by decide) rfl dX7_limit_1 ?_
  refine dk_if_ne C 18 dX7_limit_4 (by decide) (fun c1 => ?_) (fun c1 => ?_)
  · exact no (by rw [lm_ok, decide_eq_false c1]; rfl)
  · refine dk_iload_n C dX7_limit_7 rfl rfl ?_
    refine dk_iconst C (1) dX7_limit_8 rfl ?_
    refine dk_icmp_lt C 18 dX7_limit_9 (by decide) (fun c2 => ?_) (fun c2 => ?_)
    · exact no (by rw [lm_ok, decide_eq_false (p := 1 ≤ n ∧ n ≤ 64) (fun q => Int32.not_le.mpr c2 q.1), Bool.and_false])
    · refine dk_iload_n C dX7_limit_12 rfl rfl ?_
      refine dk_bipush C (64) dX7_limit_13 rfl ?_
      refine dk_icmp_le C 20 dX7_limit_15 (by decide) (fun c3 => ?_) (fun c3 => ?_)
      · have eo : lm_ok hi n = true := by rw [lm_ok, decide_eq_true c1, decide_eq_true (p := 1 ≤ n ∧ n ≤ 64) ⟨Int32.not_lt.mp c2, c3⟩]; rfl
        refine dk_aload_n C dX7_limit_20 rfl rfl ?_
        refine ek_getR C fX7_19 rfl (by decide) rfl 14 rfl dX7_limit_21 ?_
        refine dk_iload_n C dX7_limit_24 rfl rfl ?_
        refine ek_putI C fX7_145 fwX4_10 rfl (by decide) rfl dX7_limit_25 ?_
        refine dk_iconst C (1) dX7_limit_28 rfl ?_
        exact dk_zret C E rfl dX7_limit_29 (Nat.zero_le _) (Nat.zero_le _) (⟨pI (bI_t eo), by rw [if_pos eo]⟩)
      · exact no (by rw [lm_ok, decide_eq_false (p := 1 ≤ n ∧ n ≤ 64) (fun q => c3 q.2), Bool.and_false])
/-- what look answers -/
def lk_v (hi : Nat → Nat → Int32) (x : Int32) : Int32 :=
  if x < 0 ∨ 6 ≤ x then -1 else if x = 0 then hi 0 4 else if x = 1 then hi 38 7 else if x = 2 then (if hi 0 4 = 2 then (if hi 14 10 < hi 38 6 then hi 14 10 else hi 38 6) else hi 38 6)
  else if dk_ht hi (x - 3) = true then hi (tcl (x - 3)) 4 else -1
set_option maxHeartbeats 4000000 in
set_option maxRecDepth 100000 in
theorem c_X7_look (G : dk_G) (sr : Nat → Option Nat) (hi : Nat → Nat → Int32) (hf : Nat → Nat → UInt32) (z : (Nat → Nat → Int64) × (Nat → Nat → UInt64)) (x : Int32) :
    dk_MF G yX7_look cX7_look 2 (some .int) 2 41 [.ref 0, .int x] (hi, hf, dk_RF sr, z) (some (.int (lk_v hi x))) (hi, hf, dk_RF sr, z) := by
  refine dk_met (L := [some (.ref 0), some (.int x)]) pnX7 rfl (Nat.le_of_ble_eq_true rfl) ?_
  intro X C E hNm
  refine dk_iload_n C dX7_look_0 rfl rfl ?_
  rcases pk_ix x (n := 6) (by decide) with h | h | ⟨j, hj, rfl⟩
  · refine dk_if_lt C 10 dX7_look_1 (by decide) (fun _ => ?_) (fun hz => absurd (h) hz)
    refine dk_iconst C (-1) dX7_look_10 rfl ?_
    exact dk_iret C E dX7_look_11 (Nat.zero_le _) (Nat.zero_le _) (⟨pI (by rw [lk_v, if_pos (Or.inl h)]), rfl⟩)
  · refine dk_if_lt C 10 dX7_look_1 (by decide) (fun hz => absurd hz (Int32.not_lt.mpr (Int32.le_trans (by decide) h))) (fun _ => ?_)
    refine dk_iload_n C dX7_look_4 rfl rfl ?_
    refine dk_bipush C (6) dX7_look_5 rfl ?_
    refine dk_icmp_lt C 12 dX7_look_7 (by decide) (fun hz => absurd hz (Int32.not_lt.mpr h)) (fun _ => ?_)
    refine dk_iconst C (-1) dX7_look_10 rfl ?_
    exact dk_iret C E dX7_look_11 (Nat.zero_le _) (Nat.zero_le _) (⟨pI (by rw [lk_v, if_pos (Or.inr (show (6 : Int32) ≤ x from h))]), rfl⟩)
  · have hn : ¬ (nI j < 0 ∨ 6 ≤ nI j) := fun q => q.elim (nI_pos (by omega)) (nI_ge (b := 6) hj (by decide))
    refine dk_if_lt C 10 dX7_look_1 (by decide) (fun hz => absurd hz (nI_pos (by omega))) (fun _ => ?_)
    refine dk_iload_n C dX7_look_4 rfl rfl ?_
    refine dk_bipush C (6) dX7_look_5 rfl ?_
    refine dk_icmp_lt C 12 dX7_look_7 (by decide) (fun _ => ?_) (fun hz => absurd (nI_lt (b := 6) hj (by decide)) hz)
    refine dk_iload_n C dX7_look_12 rfl rfl ?_
    have tail : 3 ≤ j → dk_W X 76 [some (.ref 0), some (.int (nI j))] [] 63 (hi, hf, dk_RF sr, z) 0 0 := by
      intro h3
      have ev : lk_v hi (nI j) = if dk_ht hi (nI j - 3) = true then hi (tcl (nI j - 3)) 4 else -1 := by
        rw [lk_v, if_neg hn, if_neg (fun q => by have := (nI_eq (b := 0) (by omega) (by decide)).mp q; omega), if_neg (fun q => by have := (nI_eq (b := 1) (by omega) (by decide)).mp q; omega), if_neg (fun q => by have := (nI_eq (b := 2) (by omega) (by decide)).mp q; omega)]
      refine dk_aload_n C dX7_look_76 rfl rfl ?_
      refine dk_iload_n C dX7_look_77 rfl rfl ?_
      refine dk_iconst C (3) dX7_look_78 rfl ?_
      refine dk_isub C dX7_look_79 ?_
      refine ek_callV C mX7_48 (c_X7_hasTable _ _ _ _ _ (nI j - 3)) rfl (by decide) rfl rfl (Nat.le_of_ble_eq_true rfl) (by decide) (by decide) (Nat.zero_le _) (Nat.zero_le _) dX7_look_80 ?_
      refine dk_if_eq C 100 dX7_look_83 (by decide) (fun c1 => ?_) (fun c1 => ?_)
      · refine dk_iconst C (-1) dX7_look_100 rfl ?_
        exact dk_iret C E dX7_look_101 (Nat.zero_le _) (Nat.zero_le _) (⟨pI (by rw [ev, if_neg (by rw [bI_n0 c1]; decide)]), rfl⟩)
      · obtain ⟨i, hi3, e0, e, h0⟩ := dk_ht_1 (bI_n1 c1)
        have T := dk_T1 hi3
        refine dk_aload_n C dX7_look_86 rfl rfl ?_
        refine ek_getR C fX7_11 rfl (by decide) rfl 1 rfl dX7_look_87 ?_
        refine dk_iload_n C dX7_look_90 rfl rfl ?_
        refine dk_iconst C (3) dX7_look_91 rfl ?_
        refine dk_isub C dX7_look_92 ?_
        refine ek_aald C rfl (by decide) (by decide) (i) (e0) (hi3) (by decide) (2 + 4 * i) (dk_RF1 sr hi3) dX7_look_93 ?_
        refine ek_getI C fX7_193 T.s0 T.l0 rfl dX7_look_94 ?_
        refine dk_goto C 101 dX7_look_97 (by decide) ?_
        exact dk_iret C E dX7_look_101 (Nat.zero_le _) (Nat.zero_le _) (⟨pI (by rw [ev, if_pos (bI_n1 c1), tcl, e]), rfl⟩)
    rcases (show j = 0 ∨ j = 1 ∨ j = 2 ∨ 3 ≤ j by omega) with rfl | rfl | rfl | h3
    · refine dk_tableIn C 40 dX7_look_13 (by decide) (by decide) rfl (by decide) ?_
      refine dk_aload_n C dX7_look_40 rfl rfl ?_
      refine ek_getI C fX7_37 rfl (by decide) rfl dX7_look_41 ?_
      exact dk_iret C E dX7_look_44 (Nat.zero_le _) (Nat.zero_le _) (⟨pI (by rw [lk_v, if_neg hn, if_pos (by decide)]), rfl⟩)
    · refine dk_tableIn C 45 dX7_look_13 (by decide) (by decide) rfl (by decide) ?_
      refine dk_aload_n C dX7_look_45 rfl rfl ?_
      refine ek_getR C fX7_33 rfl (by decide) rfl 38 rfl dX7_look_46 ?_
      refine ek_getI C fX7_183 rfl (by decide) rfl dX7_look_49 ?_
      exact dk_iret C E dX7_look_52 (Nat.zero_le _) (Nat.zero_le _) (⟨pI (by rw [lk_v, if_neg hn, if_neg (by decide), if_pos (by decide)]), rfl⟩)
    · refine dk_tableIn C 53 dX7_look_13 (by decide) (by decide) rfl (by decide) ?_
      refine dk_aload_n C dX7_look_53 rfl rfl ?_
      refine ek_getI C fX7_37 rfl (by decide) rfl dX7_look_54 ?_
      refine dk_iconst C (2) dX7_look_57 rfl ?_
      have ev : lk_v hi (nI 2) = if hi 0 4 = 2 then (if hi 14 10 < hi 38 6 then hi 14 10 else hi 38 6) else hi 38 6 := by rw [lk_v, if_neg hn, if_neg (by decide), if_neg (by decide), if_pos (by decide)]
      refine dk_icmp_ne C 68 dX7_look_58 (by decide) (fun c1 => ?_) (fun c1 => ?_)
      · refine dk_aload_n C dX7_look_68 rfl rfl ?_
        refine ek_getR C fX7_33 rfl (by decide) rfl 38 rfl dX7_look_69 ?_
        refine ek_getI C fX7_190 rfl (by decide) rfl dX7_look_72 ?_
        exact dk_iret C E dX7_look_75 (Nat.zero_le _) (Nat.zero_le _) (⟨pI (by rw [ev, if_neg c1]), rfl⟩)
      · refine dk_aload_n C dX7_look_61 rfl rfl ?_
        refine ek_callV C mX7_186 (c_X7_givenAnswers _ _ _ _ _) rfl (by decide) rfl rfl (Nat.le_of_ble_eq_true rfl) (by decide) (by decide) (Nat.zero_le _) (Nat.zero_le _) dX7_look_62 ?_
        refine dk_goto C 75 dX7_look_65 (by decide) ?_
        exact dk_iret C E dX7_look_75 (Nat.zero_le _) (Nat.zero_le _) (⟨pI (by rw [ev, if_pos c1]), rfl⟩)
    · refine dk_tableOut C 76 dX7_look_13 (Or.inr ?_) (by decide) ?_
      · rw [nI_toInt (by omega)]; omega
      · exact tail h3
