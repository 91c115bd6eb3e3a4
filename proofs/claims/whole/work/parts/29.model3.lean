/-! ===== QueryDeskModel: the question ===== -/
/-- the model's sources: n of them, of the tables jt -/
def mS (hi : Nat → Nat → Int32) (n : Nat) (jt : Nat → Nat) : Prop := hi 45 7 = nI n ∧ n ≤ 3 ∧ ∀ k, k < n → hi 51 k = nI (jt k) ∧ jt k < 3 ∧ 0 < hi 46 (jt k)
def mf_ok (hi : Nat → Nat → Int32) (x : Int32) : Bool := decide (hi 45 6 = 0) && (md_ht hi x && decide (hi 45 7 ≠ 3))
set_option maxHeartbeats 4000000 in
set_option maxRecDepth 100000 in
theorem c_X8_from (G : dk_G) (sr : Nat → Option Nat) (hi : Nat → Nat → Int32) (hf : Nat → Nat → UInt32) (z : (Nat → Nat → Int64) × (Nat → Nat → UInt64)) (n : Nat) (hn : hi 45 7 = nI n) (hn3 : n ≤ 3) (x : Int32) :
    dk_MF G yX8_from cX8_from 2 (some .int) 2 43 [.ref 45, .int x] (hi, hf, dk_RF sr, z) (some (.int (if mf_ok hi x = true then nI n else -1))) (if mf_ok hi x = true then dk_up (dk_up (dk_up hi 45 0 0) 51 n x) 45 7 (nI (n + 1)) else dk_up hi 45 0 0, hf, dk_RF sr, z) := by
  refine dk_met (L := [some (.ref 45), some (.int x)]) pnX8 rfl (Nat.le_of_ble_eq_true rfl) ?_
  intro X C E hNm
  have no : mf_ok hi x = false → dk_W X 28 [some (.ref 45), some (.int x)] [] 63 (dk_up hi 45 0 0, hf, dk_RF sr, z) 0 0 := by
    intro e
    refine dk_iconst C (-1) dX8_from_28 rfl ?_
    exact dk_iret C E dX8_from_29 (Nat.zero_le _) (Nat.zero_le _) (⟨pI (by rw [e]; rfl), by rw [e]; rfl⟩)
  refine dk_aload_n C dX8_from_0 rfl rfl ?_
  refine dk_iconst C (0) dX8_from_1 rfl ?_
  refine ek_putI C fX8_59 fwX8_0 rfl (by decide) rfl dX8_from_2 ?_
  refine dk_aload_n C dX8_from_5 rfl rfl ?_
  refine dk_iload_n C dX8_from_6 rfl rfl ?_
  refine ek_callV C mX8_67 (c_X8_isTable _ _ _ _ _ x) rfl (by decide) rfl rfl (Nat.le_of_ble_eq_true rfl) (by decide) (by decide) (Nat.zero_le _) (Nat.zero_le _) dX8_from_7 ?_
  rw [md_ht_up]
  refine dk_if_eq C 28 dX8_from_10 (by decide) (fun c1 => ?_) (fun c1 => ?_)
  · exact no (by rw [mf_ok, bI_n0 c1, Bool.false_and, Bool.and_false])
  · refine dk_aload_n C dX8_from_13 rfl rfl ?_
    refine ek_getI C fX8_96 rfl (by decide) rfl dX8_from_14 ?_
    refine dk_iconst C (3) dX8_from_17 rfl ?_
    rw [show dk_up hi 45 0 0 45 7 = hi 45 7 from rfl]
    refine dk_icmp_eq C 28 dX8_from_18 (by decide) (fun c2 => ?_) (fun c2 => ?_)
    · exact no (by rw [mf_ok, decide_eq_false (p := hi 45 7 ≠ 3) (fun q => q c2), Bool.and_false, Bool.and_false])
    · refine dk_aload_n C dX8_from_21 rfl rfl ?_
      refine ek_getI C fX8_71 rfl (by decide) rfl dX8_from_22 ?_
      rw [show dk_up hi 45 0 0 45 6 = hi 45 6 from rfl]
      refine dk_if_eq C 30 dX8_from_25 (by decide) (fun c3 => ?_) (fun c3 => ?_)
      · have eo : mf_ok hi x = true := by rw [mf_ok, decide_eq_true c3, bI_n1 c1, decide_eq_true c2]; rfl
        have hlt : n < 3 := by
          rcases Nat.lt_or_eq_of_le hn3 with q | q
          · exact q
          · exact absurd (by rw [hn, q]; rfl) c2
        have en : ∀ v : Int32, dk_up (dk_up hi 45 0 0) 51 n v 45 7 = nI n := fun v => hn
        refine dk_aload_n C dX8_from_30 rfl rfl ?_
        refine ek_getR C fX8_26 rfl (by decide) rfl 51 rfl dX8_from_31 ?_
        refine dk_aload_n C dX8_from_34 rfl rfl ?_
        refine ek_getI C fX8_96 rfl (by decide) rfl dX8_from_35 ?_
        refine dk_iload_n C dX8_from_38 rfl rfl ?_
        refine ek_iast C rfl (by decide) (n) (hn) (hlt) (by decide) dX8_from_39 ?_
        refine dk_aload_n C dX8_from_40 rfl rfl ?_
        refine dk_dup C dX8_from_41 rfl ?_
        refine ek_getI C fX8_96 rfl (by decide) rfl dX8_from_42 ?_
        rw [en]
        refine dk_iconst C (1) dX8_from_45 rfl ?_
        refine dk_iadd C dX8_from_46 ?_
        rw [show nI n + 1 = nI (n + 1) from nI_1 n]
        refine ek_putI C fX8_96 fwX8_7 rfl (by decide) rfl dX8_from_47 ?_
        refine dk_aload_n C dX8_from_50 rfl rfl ?_
        refine ek_getI C fX8_96 rfl (by decide) rfl dX8_from_51 ?_
        refine dk_iconst C (1) dX8_from_54 rfl ?_
        refine dk_isub C dX8_from_55 ?_
        rw [show dk_up (dk_up (dk_up hi 45 0 0) 51 n x) 45 7 (nI (n + 1)) 45 7 = nI (n + 1) from dk_up_same _ _ _ _]
        exact dk_iret C E dX8_from_56 (Nat.zero_le _) (Nat.zero_le _) (⟨pI (by rw [if_pos eo, ← nI_1 n]; exact Int32.add_sub_cancel _ _), by rw [if_pos eo]⟩)
      · exact no (by rw [mf_ok, decide_eq_false c3]; rfl)
def mh_b (hi : Nat → Nat → Int32) (n : Nat) (jt : Nat → Nat) (s c : Int32) : Bool := decide (hi 45 6 = 0) && decide (0 ≤ s ∧ s < nI n ∧ 0 ≤ c ∧ c < hi 46 (jt (cl s)))
set_option maxHeartbeats 4000000 in
set_option maxRecDepth 100000 in
theorem c_X8_has (G : dk_G) (sr : Nat → Option Nat) (hi : Nat → Nat → Int32) (hf : Nat → Nat → UInt32) (z : (Nat → Nat → Int64) × (Nat → Nat → UInt64)) (n : Nat) (jt : Nat → Nat) (hS : mS hi n jt) (s c : Int32) :
    dk_MF G yX8_has cX8_has 3 (some .boolean) 3 65 [.ref 45, .int s, .int c] (hi, hf, dk_RF sr, z) (some (.int (bI (mh_b hi n jt s c)))) (hi, hf, dk_RF sr, z) := by
  refine dk_met (L := [some (.ref 45), some (.int s), some (.int c)]) pnX8 rfl (Nat.le_of_ble_eq_true rfl) ?_
  intro X C E hNm
  obtain ⟨hn, hn3, hk⟩ := hS
  refine dk_aload_n C dX8_has_0 rfl rfl ?_
  refine ek_getI C fX8_71 rfl (by decide) rfl dX8_has_1 ?_
  refine dk_if_ne C 39 dX8_has_4 (by decide) (fun c1 => ?_) (fun c1 => ?_)
  · refine dk_iconst C (0) dX8_has_39 rfl ?_
    exact dk_zret C E rfl dX8_has_40 (Nat.zero_le _) (Nat.zero_le _) (⟨pI (bI_f (by rw [mh_b, decide_eq_false c1]; rfl)), rfl⟩)
  · refine dk_iload_n C dX8_has_7 rfl rfl ?_
    refine dk_iconst C (0) dX8_has_8 rfl ?_
    refine dk_aload_n C dX8_has_9 rfl rfl ?_
    refine ek_getI C fX8_96 rfl (by decide) rfl dX8_has_10 ?_
    refine dk_iconst C (1) dX8_has_13 rfl ?_
    refine dk_isub C dX8_has_14 ?_
    rw [hn]
    have el : decide (0 ≤ s ∧ s ≤ nI n - 1) = decide (0 ≤ s ∧ s < nI n) := by
      congr 1
      rw [le_sub1 (nI_pos' (by omega))]
    refine ek_callS C mX8_63 (c_X8_in _ _ _ _ _ s 0 (nI n - 1)) rfl rfl (Nat.le_of_ble_eq_true rfl) (by decide) (by decide) (Nat.zero_le _) (Nat.zero_le _) dX8_has_15 ?_
    rw [el]
    refine dk_if_eq C 39 dX8_has_18 (by decide) (fun c2 => ?_) (fun c2 => ?_)
    · refine dk_iconst C (0) dX8_has_39 rfl ?_
      exact dk_zret C E rfl dX8_has_40 (Nat.zero_le _) (Nat.zero_le _) (⟨pI (bI_f (by rw [mh_b, decide_eq_false (p := 0 ≤ s ∧ s < nI n ∧ 0 ≤ c ∧ c < hi 46 (jt (cl s))) (fun q => of_decide_eq_false (bI_n0 c2) ⟨q.1, q.2.1⟩), Bool.and_false])), rfl⟩)
    · have h2 := of_decide_eq_true (bI_n1 c2)
      obtain ⟨k, hkn, rfl⟩ : ∃ k, k < n ∧ s = nI k := by
        rcases pk_ix s (n := n) (by omega) with q | q | q
        · exact absurd h2.1 (Int32.not_le.mpr q)
        · exact absurd h2.2 (Int32.not_lt.mpr q)
        · exact q
      obtain ⟨k1, k2, k3⟩ := hk k hkn
      have e : cl (nI k) = k := cl_nI (by omega)
      have ej : cl (nI (jt k)) = jt k := cl_nI (by omega)
      refine dk_aload_n C dX8_has_21 rfl rfl ?_
      refine dk_aload_n C dX8_has_22 rfl rfl ?_
      refine ek_getR C fX8_26 rfl (by decide) rfl 51 rfl dX8_has_23 ?_
      refine dk_iload_n C dX8_has_26 rfl rfl ?_
      refine ek_iald C rfl (by decide) (k) (rfl) (by omega) (by decide) dX8_has_27 ?_
      rw [k1]
      refine dk_iload_n C dX8_has_28 rfl rfl ?_
      refine ek_callV C mX8_85 (c_X8_isColumn _ _ _ _ _ (nI (jt k)) c) rfl (by decide) rfl rfl (Nat.le_of_ble_eq_true rfl) (by decide) (by decide) (Nat.zero_le _) (Nat.zero_le _) dX8_has_29 ?_
      have eh : md_hc hi (nI (jt k)) c = decide (0 ≤ c ∧ c < hi 46 (jt k)) := by
        rw [md_hc, ej, show md_ht hi (nI (jt k)) = true from decide_eq_true ⟨nI_pos' (by omega), nI_lt (b := 3) k2 (by decide), by rw [ej]; exact k3⟩]
        rfl
      rw [eh]
      refine dk_if_eq C 39 dX8_has_32 (by decide) (fun c3 => ?_) (fun c3 => ?_)
      · refine dk_iconst C (0) dX8_has_39 rfl ?_
        exact dk_zret C E rfl dX8_has_40 (Nat.zero_le _) (Nat.zero_le _) (⟨pI (bI_f (by rw [mh_b, e, decide_eq_false (p := 0 ≤ nI k ∧ nI k < nI n ∧ 0 ≤ c ∧ c < hi 46 (jt k)) (fun q => of_decide_eq_false (bI_n0 c3) q.2.2), Bool.and_false])), rfl⟩)
      · refine dk_iconst C (1) dX8_has_35 rfl ?_
        refine dk_goto C 40 dX8_has_36 (by decide) ?_
        exact dk_zret C E rfl dX8_has_40 (Nat.zero_le _) (Nat.zero_le _) (⟨pI (bI_t (by rw [mh_b, e, decide_eq_true c1, decide_eq_true (p := 0 ≤ nI k ∧ nI k < nI n ∧ 0 ≤ c ∧ c < hi 46 (jt k)) ⟨h2.1, h2.2, of_decide_eq_true (bI_n1 c3)⟩]; rfl)), rfl⟩)
theorem mS.up {hi : Nat → Nat → Int32} {n : Nat} {jt : Nat → Nat} (h : mS hi n jt) (v : Int32) : mS (dk_up hi 45 0 v) n jt := h
theorem mh_up {hi : Nat → Nat → Int32} {n : Nat} {jt : Nat → Nat} {s c v : Int32} : mh_b (dk_up hi 45 0 v) n jt s c = mh_b hi n jt s c := rfl
theorem m4_0 (m : Nat) : (4 : Int32) * nI m = nI (4 * m) := by rw [show (4 : Int32) = nI 4 from rfl, pk_mul]
theorem m4_k (m k : Nat) : (4 : Int32) * nI m + nI k = nI (4 * m + k) := by rw [m4_0, nI_add]
theorem m2_0 (m : Nat) : (2 : Int32) * nI m = nI (2 * m) := by rw [show (2 : Int32) = nI 2 from rfl, pk_mul]
theorem m2_k (m k : Nat) : (2 : Int32) * nI m + nI k = nI (2 * m + k) := by rw [m2_0, nI_add]
def mw_ok (hi : Nat → Nat → Int32) (n : Nat) (jt : Nat → Nat) (s c o : Int32) : Bool := mh_b hi n jt s c && (decide (0 ≤ o ∧ o ≤ 3) && decide (hi 45 9 ≠ 4))
def mw_hi (hi : Nat → Nat → Int32) (m : Nat) (s c o x : Int32) : Nat → Nat → Int32 := dk_up (dk_up (dk_up (dk_up (dk_up hi 52 (4 * m) s) 52 (4 * m + 1) c) 52 (4 * m + 2) o) 52 (4 * m + 3) x) 45 9 (nI (m + 1))
set_option maxHeartbeats 4000000 in
set_option maxRecDepth 100000 in
theorem c_X8_where (G : dk_G) (sr : Nat → Option Nat) (hi : Nat → Nat → Int32) (hf : Nat → Nat → UInt32) (z : (Nat → Nat → Int64) × (Nat → Nat → UInt64)) (n m : Nat) (jt : Nat → Nat) (hS : mS hi n jt) (hm : hi 45 9 = nI m) (hm4 : m ≤ 4) (s c o x : Int32) :
    dk_MF G yX8_where cX8_where 5 (some .boolean) 4 87 [.ref 45, .int s, .int c, .int o, .int x] (hi, hf, dk_RF sr, z) (some (.int (bI (mw_ok hi n jt s c o)))) (if mw_ok hi n jt s c o = true then mw_hi (dk_up hi 45 0 0) m s c o x else dk_up hi 45 0 0, hf, dk_RF sr, z) := by
  refine dk_met (L := [some (.ref 45), some (.int s), some (.int c), some (.int o), some (.int x)]) pnX8 rfl (Nat.le_of_ble_eq_true rfl) ?_
  intro X C E hNm
  have no : mw_ok hi n jt s c o = false → dk_W X 31 [some (.ref 45), some (.int s), some (.int c), some (.int o), some (.int x)] [] 63 (dk_up hi 45 0 0, hf, dk_RF sr, z) 0 0 := by
    intro e
    refine dk_iconst C (0) dX8_where_31 rfl ?_
    exact dk_zret C E rfl dX8_where_32 (Nat.zero_le _) (Nat.zero_le _) (⟨pI (bI_f e), by rw [e]; rfl⟩)
  refine dk_aload_n C dX8_where_0 rfl rfl ?_
  refine dk_iconst C (0) dX8_where_1 rfl ?_
  refine ek_putI C fX8_59 fwX8_0 rfl (by decide) rfl dX8_where_2 ?_
  refine dk_aload_n C dX8_where_5 rfl rfl ?_
  refine dk_iload_n C dX8_where_6 rfl rfl ?_
  refine dk_iload_n C dX8_where_7 rfl rfl ?_
  refine ek_callV C mX8_124 (c_X8_has _ _ _ _ _ n jt (hS.up 0) s c) rfl (by decide) rfl rfl (Nat.le_of_ble_eq_true rfl) (by decide) (by decide) (Nat.zero_le _) (Nat.zero_le _) dX8_where_8 ?_
  rw [mh_up]
  refine dk_if_eq C 31 dX8_where_11 (by decide) (fun c1 => ?_) (fun c1 => ?_)
  · exact no (by rw [mw_ok, bI_n0 c1]; rfl)
  · refine dk_iload_n C dX8_where_14 rfl rfl ?_
    refine dk_iconst C (0) dX8_where_15 rfl ?_
    refine dk_iconst C (3) dX8_where_16 rfl ?_
    refine ek_callS C mX8_63 (c_X8_in _ _ _ _ _ o 0 3) rfl rfl (Nat.le_of_ble_eq_true rfl) (by decide) (by decide) (Nat.zero_le _) (Nat.zero_le _) dX8_where_17 ?_
    refine dk_if_eq C 31 dX8_where_20 (by decide) (fun c2 => ?_) (fun c2 => ?_)
    · exact no (by rw [mw_ok, bI_n0 c2, Bool.false_and, Bool.and_false])
    · refine dk_aload_n C dX8_where_23 rfl rfl ?_
      refine ek_getI C fX8_99 rfl (by decide) rfl dX8_where_24 ?_
      refine dk_iconst C (4) dX8_where_27 rfl ?_
      rw [show dk_up hi 45 0 0 45 9 = hi 45 9 from rfl]
      refine dk_icmp_ne C 33 dX8_where_28 (by decide) (fun c3 => ?_) (fun c3 => ?_)
      · have eo : mw_ok hi n jt s c o = true := by rw [mw_ok, bI_n1 c1, bI_n1 c2, decide_eq_true c3]; rfl
        have hlt : m < 4 := by
          rcases Nat.lt_or_eq_of_le hm4 with q | q
          · exact q
          · exact absurd (by rw [hm, q]; rfl) c3
        have e0 : dk_up hi 45 0 0 45 9 = nI m := hm
        generalize hh : dk_up hi 45 0 0 = h at *
        refine dk_aload_n C dX8_where_33 rfl rfl ?_
        refine ek_getR C fX8_29 rfl (by decide) rfl 52 rfl dX8_where_34 ?_
        refine dk_iconst C (4) dX8_where_37 rfl ?_
        refine dk_aload_n C dX8_where_38 rfl rfl ?_
        refine ek_getI C fX8_99 rfl (by decide) rfl dX8_where_39 ?_
        refine dk_imul C dX8_where_42 ?_
        refine dk_iload_n C dX8_where_43 rfl rfl ?_
        refine ek_iast C rfl (by decide) (4 * m) (by rw [e0]; exact m4_0 m) (by omega) (by decide) dX8_where_44 ?_
        refine dk_aload_n C dX8_where_45 rfl rfl ?_
        refine ek_getR C fX8_29 rfl (by decide) rfl 52 rfl dX8_where_46 ?_
        refine dk_iconst C (4) dX8_where_49 rfl ?_
        refine dk_aload_n C dX8_where_50 rfl rfl ?_
        refine ek_getI C fX8_99 rfl (by decide) rfl dX8_where_51 ?_
        refine dk_imul C dX8_where_54 ?_
        refine dk_iconst C (1) dX8_where_55 rfl ?_
        refine dk_iadd C dX8_where_56 ?_
        refine dk_iload_n C dX8_where_57 rfl rfl ?_
        refine ek_iast C rfl (by decide) (4 * m + 1) (by rw [show dk_up h 52 (4 * m) s 45 9 = h 45 9 from rfl, e0]; exact m4_k m 1) (by omega) (by decide) dX8_where_58 ?_
        refine dk_aload_n C dX8_where_59 rfl rfl ?_
        refine ek_getR C fX8_29 rfl (by decide) rfl 52 rfl dX8_where_60 ?_
        refine dk_iconst C (4) dX8_where_63 rfl ?_
        refine dk_aload_n C dX8_where_64 rfl rfl ?_
        refine ek_getI C fX8_99 rfl (by decide) rfl dX8_where_65 ?_
        refine dk_imul C dX8_where_68 ?_
        refine dk_iconst C (2) dX8_where_69 rfl ?_
        refine dk_iadd C dX8_where_70 ?_
        refine dk_iload_n C dX8_where_71 rfl rfl ?_
        refine ek_iast C rfl (by decide) (4 * m + 2) (by rw [show dk_up (dk_up h 52 (4 * m) s) 52 (4 * m + 1) c 45 9 = h 45 9 from rfl, e0]; exact m4_k m 2) (by omega) (by decide) dX8_where_72 ?_
        refine dk_aload_n C dX8_where_73 rfl rfl ?_
        refine ek_getR C fX8_29 rfl (by decide) rfl 52 rfl dX8_where_74 ?_
        refine dk_iconst C (4) dX8_where_77 rfl ?_
        refine dk_aload_n C dX8_where_78 rfl rfl ?_
        refine ek_getI C fX8_99 rfl (by decide) rfl dX8_where_79 ?_
        refine dk_imul C dX8_where_82 ?_
        refine dk_iconst C (3) dX8_where_83 rfl ?_
        refine dk_iadd C dX8_where_84 ?_
        refine dk_iload C dX8_where_85 rfl ?_
        refine ek_iast C rfl (by decide) (4 * m + 3) (by rw [show dk_up (dk_up (dk_up h 52 (4 * m) s) 52 (4 * m + 1) c) 52 (4 * m + 2) o 45 9 = h 45 9 from rfl, e0]; exact m4_k m 3) (by omega) (by decide) dX8_where_87 ?_
        refine dk_aload_n C dX8_where_88 rfl rfl ?_
        refine dk_dup C dX8_where_89 rfl ?_
        refine ek_getI C fX8_99 rfl (by decide) rfl dX8_where_90 ?_
        rw [show dk_up (dk_up (dk_up (dk_up h 52 (4 * m) s) 52 (4 * m + 1) c) 52 (4 * m + 2) o) 52 (4 * m + 3) x 45 9 = h 45 9 from rfl, e0]
        refine dk_iconst C (1) dX8_where_93 rfl ?_
        refine dk_iadd C dX8_where_94 ?_
        rw [show nI m + 1 = nI (m + 1) from nI_1 m]
        refine ek_putI C fX8_99 fwX8_9 rfl (by decide) rfl dX8_where_95 ?_
        refine dk_iconst C (1) dX8_where_98 rfl ?_
        exact dk_zret C E rfl dX8_where_99 (Nat.zero_le _) (Nat.zero_le _) (⟨pI (bI_t eo), by rw [if_pos eo]; rfl⟩)
      · exact no (by rw [mw_ok, decide_eq_false (p := hi 45 9 ≠ 4) (fun q => q c3), Bool.and_false, Bool.and_false])
def mj_ok (hi : Nat → Nat → Int32) (n : Nat) (jt : Nat → Nat) (s c o c2 : Int32) : Bool := mh_b hi n jt s c && (mh_b hi n jt o c2 && (decide (s ≠ o) && decide (hi 45 11 ≠ 3)))
def mj_hi (hi : Nat → Nat → Int32) (m : Nat) (s c o x : Int32) : Nat → Nat → Int32 := dk_up (dk_up (dk_up (dk_up (dk_up hi 53 (4 * m) s) 53 (4 * m + 1) c) 53 (4 * m + 2) o) 53 (4 * m + 3) x) 45 11 (nI (m + 1))
set_option maxHeartbeats 4000000 in
set_option maxRecDepth 100000 in
theorem c_X8_join (G : dk_G) (sr : Nat → Option Nat) (hi : Nat → Nat → Int32) (hf : Nat → Nat → UInt32) (z : (Nat → Nat → Int64) × (Nat → Nat → UInt64)) (n m : Nat) (jt : Nat → Nat) (hS : mS hi n jt) (hm : hi 45 11 = nI m) (hm3 : m ≤ 3) (s c o x : Int32) :
    dk_MF G yX8_join cX8_join 5 (some .boolean) 4 87 [.ref 45, .int s, .int c, .int o, .int x] (hi, hf, dk_RF sr, z) (some (.int (bI (mj_ok hi n jt s c o x)))) (if mj_ok hi n jt s c o x = true then mj_hi (dk_up hi 45 0 0) m s c o x else dk_up hi 45 0 0, hf, dk_RF sr, z) := by
  refine dk_met (L := [some (.ref 45), some (.int s), some (.int c), some (.int o), some (.int x)]) pnX8 rfl (Nat.le_of_ble_eq_true rfl) ?_
  intro X C E hNm
  have no : mj_ok hi n jt s c o x = false → dk_W X 37 [some (.ref 45), some (.int s), some (.int c), some (.int o), some (.int x)] [] 63 (dk_up hi 45 0 0, hf, dk_RF sr, z) 0 0 := by
    intro e
    refine dk_iconst C (0) dX8_join_37 rfl ?_
    exact dk_zret C E rfl dX8_join_38 (Nat.zero_le _) (Nat.zero_le _) (⟨pI (bI_f e), by rw [e]; rfl⟩)
  refine dk_aload_n C dX8_join_0 rfl rfl ?_
  refine dk_iconst C (0) dX8_join_1 rfl ?_
  refine ek_putI C fX8_59 fwX8_0 rfl (by decide) rfl dX8_join_2 ?_
  refine dk_aload_n C dX8_join_5 rfl rfl ?_
  refine dk_iload_n C dX8_join_6 rfl rfl ?_
  refine dk_iload_n C dX8_join_7 rfl rfl ?_
  refine ek_callV C mX8_124 (c_X8_has _ _ _ _ _ n jt (hS.up 0) s c) rfl (by decide) rfl rfl (Nat.le_of_ble_eq_true rfl) (by decide) (by decide) (Nat.zero_le _) (Nat.zero_le _) dX8_join_8 ?_
  rw [mh_up]
  refine dk_if_eq C 37 dX8_join_11 (by decide) (fun c1 => ?_) (fun c1 => ?_)
  · exact no (by rw [mj_ok, bI_n0 c1]; rfl)
  · refine dk_aload_n C dX8_join_14 rfl rfl ?_
    refine dk_iload_n C dX8_join_15 rfl rfl ?_
    refine dk_iload C dX8_join_16 rfl ?_
    refine ek_callV C mX8_124 (c_X8_has _ _ _ _ _ n jt (hS.up 0) o x) rfl (by decide) rfl rfl (Nat.le_of_ble_eq_true rfl) (by decide) (by decide) (Nat.zero_le _) (Nat.zero_le _) dX8_join_18 ?_
    rw [mh_up]
    refine dk_if_eq C 37 dX8_join_21 (by decide) (fun c2 => ?_) (fun c2 => ?_)
    · exact no (by rw [mj_ok, bI_n0 c2, Bool.false_and, Bool.and_false])
    · refine dk_iload_n C dX8_join_24 rfl rfl ?_
      refine dk_iload_n C dX8_join_25 rfl rfl ?_
      refine dk_icmp_eq C 37 dX8_join_26 (by decide) (fun c3 => ?_) (fun c3 => ?_)
      · exact no (by rw [mj_ok, decide_eq_false (p := s ≠ o) (fun q => q c3), Bool.false_and, Bool.and_false, Bool.and_false])
      · refine dk_aload_n C dX8_join_29 rfl rfl ?_
        refine ek_getI C fX8_102 rfl (by decide) rfl dX8_join_30 ?_
        refine dk_iconst C (3) dX8_join_33 rfl ?_
        rw [show dk_up hi 45 0 0 45 11 = hi 45 11 from rfl]
        refine dk_icmp_ne C 39 dX8_join_34 (by decide) (fun c4 => ?_) (fun c4 => ?_)
        · have eo : mj_ok hi n jt s c o x = true := by rw [mj_ok, bI_n1 c1, bI_n1 c2, decide_eq_true (p := s ≠ o) c3, decide_eq_true c4]; rfl
          have hlt : m < 3 := by
            rcases Nat.lt_or_eq_of_le hm3 with q | q
            · exact q
            · exact absurd (by rw [hm, q]; rfl) c4
          have e0 : dk_up hi 45 0 0 45 11 = nI m := hm
          generalize hh : dk_up hi 45 0 0 = h at *
          refine dk_aload_n C dX8_join_39 rfl rfl ?_
          refine ek_getR C fX8_32 rfl (by decide) rfl 53 rfl dX8_join_40 ?_
          refine dk_iconst C (4) dX8_join_43 rfl ?_
          refine dk_aload_n C dX8_join_44 rfl rfl ?_
          refine ek_getI C fX8_102 rfl (by decide) rfl dX8_join_45 ?_
          refine dk_imul C dX8_join_48 ?_
          refine dk_iload_n C dX8_join_49 rfl rfl ?_
          refine ek_iast C rfl (by decide) (4 * m) (by rw [e0]; exact m4_0 m) (by omega) (by decide) dX8_join_50 ?_
          refine dk_aload_n C dX8_join_51 rfl rfl ?_
          refine ek_getR C fX8_32 rfl (by decide) rfl 53 rfl dX8_join_52 ?_
          refine dk_iconst C (4) dX8_join_55 rfl ?_
          refine dk_aload_n C dX8_join_56 rfl rfl ?_
          refine ek_getI C fX8_102 rfl (by decide) rfl dX8_join_57 ?_
          refine dk_imul C dX8_join_60 ?_
          refine dk_iconst C (1) dX8_join_61 rfl ?_
          refine dk_iadd C dX8_join_62 ?_
          refine dk_iload_n C dX8_join_63 rfl rfl ?_
          refine ek_iast C rfl (by decide) (4 * m + 1) (by rw [show dk_up h 53 (4 * m) s 45 11 = h 45 11 from rfl, e0]; exact m4_k m 1) (by omega) (by decide) dX8_join_64 ?_
          refine dk_aload_n C dX8_join_65 rfl rfl ?_
          refine ek_getR C fX8_32 rfl (by decide) rfl 53 rfl dX8_join_66 ?_
          refine dk_iconst C (4) dX8_join_69 rfl ?_
          refine dk_aload_n C dX8_join_70 rfl rfl ?_
          refine ek_getI C fX8_102 rfl (by decide) rfl dX8_join_71 ?_
          refine dk_imul C dX8_join_74 ?_
          refine dk_iconst C (2) dX8_join_75 rfl ?_
          refine dk_iadd C dX8_join_76 ?_
          refine dk_iload_n C dX8_join_77 rfl rfl ?_
          refine ek_iast C rfl (by decide) (4 * m + 2) (by rw [show dk_up (dk_up h 53 (4 * m) s) 53 (4 * m + 1) c 45 11 = h 45 11 from rfl, e0]; exact m4_k m 2) (by omega) (by decide) dX8_join_78 ?_
          refine dk_aload_n C dX8_join_79 rfl rfl ?_
          refine ek_getR C fX8_32 rfl (by decide) rfl 53 rfl dX8_join_80 ?_
          refine dk_iconst C (4) dX8_join_83 rfl ?_
          refine dk_aload_n C dX8_join_84 rfl rfl ?_
          refine ek_getI C fX8_102 rfl (by decide) rfl dX8_join_85 ?_
          refine dk_imul C dX8_join_88 ?_
          refine dk_iconst C (3) dX8_join_89 rfl ?_
          refine dk_iadd C dX8_join_90 ?_
          refine dk_iload C dX8_join_91 rfl ?_
          refine ek_iast C rfl (by decide) (4 * m + 3) (by rw [show dk_up (dk_up (dk_up h 53 (4 * m) s) 53 (4 * m + 1) c) 53 (4 * m + 2) o 45 11 = h 45 11 from rfl, e0]; exact m4_k m 3) (by omega) (by decide) dX8_join_93 ?_
          refine dk_aload_n C dX8_join_94 rfl rfl ?_
          refine dk_dup C dX8_join_95 rfl ?_
          refine ek_getI C fX8_102 rfl (by decide) rfl dX8_join_96 ?_
          rw [show dk_up (dk_up (dk_up (dk_up h 53 (4 * m) s) 53 (4 * m + 1) c) 53 (4 * m + 2) o) 53 (4 * m + 3) x 45 11 = h 45 11 from rfl, e0]
          refine dk_iconst C (1) dX8_join_99 rfl ?_
          refine dk_iadd C dX8_join_100 ?_
          rw [show nI m + 1 = nI (m + 1) from nI_1 m]
          refine ek_putI C fX8_102 fwX8_11 rfl (by decide) rfl dX8_join_101 ?_
          refine dk_iconst C (1) dX8_join_104 rfl ?_
          exact dk_zret C E rfl dX8_join_105 (Nat.zero_le _) (Nat.zero_le _) (⟨pI (bI_t eo), by rw [if_pos eo]; rfl⟩)
        · exact no (by rw [mj_ok, decide_eq_false (p := hi 45 11 ≠ 3) (fun q => q c4), Bool.and_false, Bool.and_false, Bool.and_false])
def ml_ok (hi : Nat → Nat → Int32) (n : Nat) (jt : Nat → Nat) (s c : Int32) : Bool := mh_b hi n jt s c && decide (hi 45 13 ≠ 4)
def ml_hi (hi : Nat → Nat → Int32) (m : Nat) (s c : Int32) : Nat → Nat → Int32 := dk_up (dk_up (dk_up hi 54 (2 * m) s) 54 (2 * m + 1) c) 45 13 (nI (m + 1))
set_option maxHeartbeats 4000000 in
set_option maxRecDepth 100000 in
theorem c_X8_select (G : dk_G) (sr : Nat → Option Nat) (hi : Nat → Nat → Int32) (hf : Nat → Nat → UInt32) (z : (Nat → Nat → Int64) × (Nat → Nat → UInt64)) (n m : Nat) (jt : Nat → Nat) (hS : mS hi n jt) (hm : hi 45 13 = nI m) (hm4 : m ≤ 4) (s c : Int32) :
    dk_MF G yX8_select cX8_select 3 (some .int) 4 87 [.ref 45, .int s, .int c] (hi, hf, dk_RF sr, z) (some (.int (if ml_ok hi n jt s c = true then nI m else -1))) (if ml_ok hi n jt s c = true then ml_hi (dk_up hi 45 0 0) m s c else dk_up hi 45 0 0, hf, dk_RF sr, z) := by
  refine dk_met (L := [some (.ref 45), some (.int s), some (.int c)]) pnX8 rfl (Nat.le_of_ble_eq_true rfl) ?_
  intro X C E hNm
  have no : ml_ok hi n jt s c = false → dk_W X 22 [some (.ref 45), some (.int s), some (.int c)] [] 63 (dk_up hi 45 0 0, hf, dk_RF sr, z) 0 0 := by
    intro e
    refine dk_iconst C (-1) dX8_select_22 rfl ?_
    exact dk_iret C E dX8_select_23 (Nat.zero_le _) (Nat.zero_le _) (⟨pI (by rw [e]; rfl), by rw [e]; rfl⟩)
  refine dk_aload_n C dX8_select_0 rfl rfl ?_
  refine dk_iconst C (0) dX8_select_1 rfl ?_
  refine ek_putI C fX8_59 fwX8_0 rfl (by decide) rfl dX8_select_2 ?_
  refine dk_aload_n C dX8_select_5 rfl rfl ?_
  refine dk_iload_n C dX8_select_6 rfl rfl ?_
  refine dk_iload_n C dX8_select_7 rfl rfl ?_
  refine ek_callV C mX8_124 (c_X8_has _ _ _ _ _ n jt (hS.up 0) s c) rfl (by decide) rfl rfl (Nat.le_of_ble_eq_true rfl) (by decide) (by decide) (Nat.zero_le _) (Nat.zero_le _) dX8_select_8 ?_
  rw [mh_up]
  refine dk_if_eq C 22 dX8_select_11 (by decide) (fun c1 => ?_) (fun c1 => ?_)
  · exact no (by rw [ml_ok, bI_n0 c1]; rfl)
  · refine dk_aload_n C dX8_select_14 rfl rfl ?_
    refine ek_getI C fX8_105 rfl (by decide) rfl dX8_select_15 ?_
    refine dk_iconst C (4) dX8_select_18 rfl ?_
    rw [show dk_up hi 45 0 0 45 13 = hi 45 13 from rfl]
    refine dk_icmp_ne C 24 dX8_select_19 (by decide) (fun c4 => ?_) (fun c4 => ?_)
    · have eo : ml_ok hi n jt s c = true := by rw [ml_ok, bI_n1 c1, decide_eq_true c4]; rfl
      have hlt : m < 4 := by
        rcases Nat.lt_or_eq_of_le hm4 with q | q
        · exact q
        · exact absurd (by rw [hm, q]; rfl) c4
      have e0 : dk_up hi 45 0 0 45 13 = nI m := hm
      generalize hh : dk_up hi 45 0 0 = h at *
      refine dk_aload_n C dX8_select_24 rfl rfl ?_
      refine ek_getR C fX8_35 rfl (by decide) rfl 54 rfl dX8_select_25 ?_
      refine dk_iconst C (2) dX8_select_28 rfl ?_
      refine dk_aload_n C dX8_select_29 rfl rfl ?_
      refine ek_getI C fX8_105 rfl (by decide) rfl dX8_select_30 ?_
      refine dk_imul C dX8_select_33 ?_
      refine dk_iload_n C dX8_select_34 rfl rfl ?_
      refine ek_iast C rfl (by decide) (2 * m) (by rw [e0]; exact m2_0 m) (by omega) (by decide) dX8_select_35 ?_
      refine dk_aload_n C dX8_select_36 rfl rfl ?_
      refine ek_getR C fX8_35 rfl (by decide) rfl 54 rfl dX8_select_37 ?_
      refine dk_iconst C (2) dX8_select_40 rfl ?_
      refine dk_aload_n C dX8_select_41 rfl rfl ?_
      refine ek_getI C fX8_105 rfl (by decide) rfl dX8_select_42 ?_
      refine dk_imul C dX8_select_45 ?_
      refine dk_iconst C (1) dX8_select_46 rfl ?_
      refine dk_iadd C dX8_select_47 ?_
      refine dk_iload_n C dX8_select_48 rfl rfl ?_
      refine ek_iast C rfl (by decide) (2 * m + 1) (by rw [show dk_up h 54 (2 * m) s 45 13 = h 45 13 from rfl, e0]; exact m2_k m 1) (by omega) (by decide) dX8_select_49 ?_
      refine dk_aload_n C dX8_select_50 rfl rfl ?_
      refine dk_dup C dX8_select_51 rfl ?_
      refine ek_getI C fX8_105 rfl (by decide) rfl dX8_select_52 ?_
      rw [show dk_up (dk_up h 54 (2 * m) s) 54 (2 * m + 1) c 45 13 = h 45 13 from rfl, e0]
      refine dk_iconst C (1) dX8_select_55 rfl ?_
      refine dk_iadd C dX8_select_56 ?_
      rw [show nI m + 1 = nI (m + 1) from nI_1 m]
      refine ek_putI C fX8_105 fwX8_13 rfl (by decide) rfl dX8_select_57 ?_
      refine dk_aload_n C dX8_select_60 rfl rfl ?_
      refine ek_getI C fX8_105 rfl (by decide) rfl dX8_select_61 ?_
      refine dk_iconst C (1) dX8_select_64 rfl ?_
      refine dk_isub C dX8_select_65 ?_
      rw [show dk_up (dk_up (dk_up h 54 (2 * m) s) 54 (2 * m + 1) c) 45 13 (nI (m + 1)) 45 13 = nI (m + 1) from dk_up_same _ _ _ _]
      exact dk_iret C E dX8_select_66 (Nat.zero_le _) (Nat.zero_le _) (⟨pI (by rw [if_pos eo, ← nI_1 m]; exact Int32.add_sub_cancel _ _), by rw [if_pos eo]; rfl⟩)
    · exact no (by rw [ml_ok, decide_eq_false (p := hi 45 13 ≠ 4) (fun q => q c4), Bool.and_false])
def mo_ok (hi : Nat → Nat → Int32) (o : Int32) : Bool := decide (hi 45 6 = 0) && decide (0 ≤ o ∧ o < hi 45 13)
set_option maxHeartbeats 4000000 in
set_option maxRecDepth 100000 in
theorem c_X8_order (G : dk_G) (sr : Nat → Option Nat) (hi : Nat → Nat → Int32) (hf : Nat → Nat → UInt32) (z : (Nat → Nat → Int64) × (Nat → Nat → UInt64)) (h0 : 0 ≤ hi 45 13) (o f : Int32) (hf01 : f = 0 ∨ f = 1) :
    dk_MF G yX8_order cX8_order 3 (some .boolean) 1 22 [.ref 45, .int o, .int f] (hi, hf, dk_RF sr, z) (some (.int (bI (mo_ok hi o)))) (if mo_ok hi o = true then dk_up (dk_up (dk_up hi 45 0 0) 45 15 o) 45 16 f else dk_up hi 45 0 0, hf, dk_RF sr, z) := by
  refine dk_met (L := [some (.ref 45), some (.int o), some (.int f)]) pnX8 rfl (Nat.le_of_ble_eq_true rfl) ?_
  intro X C E hNm
  have no : mo_ok hi o = false → dk_W X 26 [some (.ref 45), some (.int o), some (.int f)] [] 63 (dk_up hi 45 0 0, hf, dk_RF sr, z) 0 0 := by
    intro e
    refine dk_iconst C (0) dX8_order_26 rfl ?_
    exact dk_zret C E rfl dX8_order_27 (Nat.zero_le _) (Nat.zero_le _) (⟨pI (bI_f e), by rw [e]; rfl⟩)
  have el : decide (0 ≤ o ∧ o ≤ hi 45 13 - 1) = decide (0 ≤ o ∧ o < hi 45 13) := by
    congr 1
    rw [le_sub1 h0]
  refine dk_aload_n C dX8_order_0 rfl rfl ?_
  refine dk_iconst C (0) dX8_order_1 rfl ?_
  refine ek_putI C fX8_59 fwX8_0 rfl (by decide) rfl dX8_order_2 ?_
  refine dk_iload_n C dX8_order_5 rfl rfl ?_
  refine dk_iconst C (0) dX8_order_6 rfl ?_
  refine dk_aload_n C dX8_order_7 rfl rfl ?_
  refine ek_getI C fX8_105 rfl (by decide) rfl dX8_order_8 ?_
  rw [show dk_up hi 45 0 0 45 13 = hi 45 13 from rfl]
  refine dk_iconst C (1) dX8_order_11 rfl ?_
  refine dk_isub C dX8_order_12 ?_
  refine ek_callS C mX8_63 (c_X8_in _ _ _ _ _ o 0 (hi 45 13 - 1)) rfl rfl (Nat.le_of_ble_eq_true rfl) (by decide) (by decide) (Nat.zero_le _) (Nat.zero_le _) dX8_order_13 ?_
  rw [el]
  refine dk_if_eq C 26 dX8_order_16 (by decide) (fun c1 => ?_) (fun c1 => ?_)
  · exact no (by rw [mo_ok, bI_n0 c1, Bool.and_false])
  · refine dk_aload_n C dX8_order_19 rfl rfl ?_
    refine ek_getI C fX8_71 rfl (by decide) rfl dX8_order_20 ?_
    rw [show dk_up hi 45 0 0 45 6 = hi 45 6 from rfl]
    refine dk_if_eq C 28 dX8_order_23 (by decide) (fun c2 => ?_) (fun c2 => ?_)
    · have eo : mo_ok hi o = true := by rw [mo_ok, decide_eq_true c2, bI_n1 c1]; rfl
      refine dk_aload_n C dX8_order_28 rfl rfl ?_
      refine dk_iload_n C dX8_order_29 rfl rfl ?_
      refine ek_putI C fX8_108 fwX8_15 rfl (by decide) rfl dX8_order_30 ?_
      refine dk_aload_n C dX8_order_33 rfl rfl ?_
      refine dk_iload_n C dX8_order_34 rfl rfl ?_
      refine ek_putZ C fX8_111 fwX8_16 rfl (by decide) rfl (hf01) dX8_order_35 ?_
      refine dk_iconst C (1) dX8_order_38 rfl ?_
      exact dk_zret C E rfl dX8_order_39 (Nat.zero_le _) (Nat.zero_le _) (⟨pI (bI_t eo), by rw [if_pos eo]⟩)
    · exact no (by rw [mo_ok, decide_eq_false c2]; rfl)
def mm_ok (hi : Nat → Nat → Int32) (n : Int32) : Bool := decide (hi 45 6 = 0) && decide (1 ≤ n ∧ n ≤ 64)
set_option maxHeartbeats 4000000 in
set_option maxRecDepth 100000 in
theorem c_X8_limit (G : dk_G) (sr : Nat → Option Nat) (hi : Nat → Nat → Int32) (hf : Nat → Nat → UInt32) (z : (Nat → Nat → Int64) × (Nat → Nat → UInt64)) (n : Int32) :
    dk_MF G yX8_limit cX8_limit 2 (some .boolean) 1 22 [.ref 45, .int n] (hi, hf, dk_RF sr, z) (some (.int (bI (mm_ok hi n)))) (if mm_ok hi n = true then dk_up (dk_up hi 45 0 0) 45 17 n else dk_up hi 45 0 0, hf, dk_RF sr, z) := by
  refine dk_met (L := [some (.ref 45), some (.int n)]) pnX8 rfl (Nat.le_of_ble_eq_true rfl) ?_
  intro X C E hNm
  have no : mm_ok hi n = false → dk_W X 22 [some (.ref 45), some (.int n)] [] 63 (dk_up hi 45 0 0, hf, dk_RF sr, z) 0 0 := by
    intro e
    refine dk_iconst C (0) dX8_limit_22 rfl ?_
    exact dk_zret C E rfl dX8_limit_23 (Nat.zero_le _) (Nat.zero_le _) (⟨pI (bI_f e), by rw [e]; rfl⟩)
  refine dk_aload_n C dX8_limit_0 rfl rfl ?_
  refine dk_iconst C (0) dX8_limit_1 rfl ?_
  refine ek_putI C fX8_59 fwX8_0 rfl (by decide) rfl dX8_limit_2 ?_
  refine dk_iload_n C dX8_limit_5 rfl rfl ?_
  refine dk_iconst C (1) dX8_limit_6 rfl ?_
  refine dk_bipush C (64) dX8_limit_7 rfl ?_
  refine ek_callS C mX8_63 (c_X8_in _ _ _ _ _ n 1 64) rfl rfl (Nat.le_of_ble_eq_true rfl) (by decide) (by decide) (Nat.zero_le _) (Nat.zero_le _) dX8_limit_9 ?_
  refine dk_if_eq C 22 dX8_limit_12 (by decide) (fun c1 => ?_) (fun c1 => ?_)
  · exact no (by rw [mm_ok, bI_n0 c1, Bool.and_false])
  · refine dk_aload_n C dX8_limit_15 rfl rfl ?_
    refine ek_getI C fX8_71 rfl (by decide) rfl dX8_limit_16 ?_
    rw [show dk_up hi 45 0 0 45 6 = hi 45 6 from rfl]
    refine dk_if_eq C 24 dX8_limit_19 (by decide) (fun c2 => ?_) (fun c2 => ?_)
    · have eo : mm_ok hi n = true := by rw [mm_ok, decide_eq_true c2, bI_n1 c1]; rfl
      refine dk_aload_n C dX8_limit_24 rfl rfl ?_
      refine dk_iload_n C dX8_limit_25 rfl rfl ?_
      refine ek_putI C fX8_115 fwX8_17 rfl (by decide) rfl dX8_limit_26 ?_
      refine dk_iconst C (1) dX8_limit_29 rfl ?_
      exact dk_zret C E rfl dX8_limit_30 (Nat.zero_le _) (Nat.zero_le _) (⟨pI (bI_t eo), by rw [if_pos eo]⟩)
    · exact no (by rw [mm_ok, decide_eq_false c2]; rfl)
