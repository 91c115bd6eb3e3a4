/-! ===== the law's helpers ===== -/
theorem f2d_n {x : UInt32} (h : vf_n32 x) : vf_n64 (FP.f2d x) := by
  unfold vf_n32 at h
  rw [UInt32.le_iff_toNat_le, UInt32.toNat_and, show (0x7fffffff : UInt32).toNat = 2 ^ 31 - 1 from rfl, Nat.and_two_pow_sub_one_eq_mod, show (0x7f800000 : UInt32).toNat = 2139095040 from rfl] at h
  have h1 : FP.Core.fIsNaN x = false := by
    rw [← Bool.not_eq_true, FP.Core.isNaN_bits32]; omega
  have h2 : FP.Core.dIsNaN (FP.f2d x) = false := (FP.f2d_nan x).trans h1
  rw [← Bool.not_eq_true, FP.Core.isNaN_bits] at h2
  unfold vf_n64
  rw [UInt64.le_iff_toNat_le, UInt64.toNat_and, show (0x7fffffffffffffff : UInt64).toNat = 2 ^ 63 - 1 from rfl, Nat.and_two_pow_sub_one_eq_mod, show (0x7ff0000000000000 : UInt64).toNat = 9218868437227405312 from rfl]
  omega
theorem vin0 : vp_in (0 : Int32) 1 := vp_in_nI (n := 0) (by decide) (by decide)
set_option maxHeartbeats 8000000 in
set_option maxRecDepth 100000 in
theorem c_L_insert (G : dk_G) (sr : Nat → Option Nat) (hi : Nat → Nat → Int32) (hf : Nat → Nat → UInt32) (z : (Nat → Nat → Int64) × (Nat → Nat → UInt64)) (hT : tTT hi) (x a b c d : Int32) :
    hx_M G yL_insert cL_insert 8 (some .int) [(0, 16, 19, 13), (0, 16, 23, 15)] { frames := 9, cells := 1, slots := 6, locals := 220 } [.ref 0, .int x, .int a, .int b, .int c, .int d, .ref 61] 63 (hi, hf, dk_RF sr, z) (fun r' h' => r' = some (.int (in_c hi x)) ∧ h' = (if in_c hi x = 0 then (tb_add (dk_end hi) (tcl x) (cl (hi (tcl x) 4)) a b c d, hf, dk_RF sr, (dk_up z.1 61 0 (hi (tcl x) 5).toInt64, z.2)) else (hi, hf, dk_RF sr, z))) := by
  refine hx_met (L := [some (.ref 0), some (.int x), some (.int a), some (.int b), some (.int c), some (.int d), some (.ref 61), none]) pnL rfl (Nat.le_of_ble_eq_true rfl) ?_
  intro X C E Tt
  refine dk_aload C dL_insert_0 rfl ?_
  refine dk_iconst C (0) dL_insert_2 rfl ?_
  refine dk_aload_n C dL_insert_3 rfl rfl ?_
  refine dk_iload_n C dL_insert_4 rfl rfl ?_
  refine dk_iload_n C dL_insert_5 rfl rfl ?_
  refine dk_iload_n C dL_insert_6 rfl rfl ?_
  refine dk_iload C dL_insert_7 rfl ?_
  refine dk_iload C dL_insert_9 rfl ?_
  refine hx_call C Tt mL_7 (c_X7_insert _ _ _ _ _ hT x a b c d) rfl (by decide) rfl rfl (Nat.le_of_ble_eq_true rfl) ⟨by decide, by decide⟩ ⟨by decide, by decide⟩ dL_insert_11 ?_ ?_
  · rintro r h' ⟨e0, rfl, rfl⟩
    refine dk_i2l C dL_insert_14 ?_
    refine dk_last C (a := 61) (N := 1) (i := 0) rfl (by decide) vin0 dL_insert_15 ?_
    refine dk_goto C 27 dL_insert_16 (by decide) ?_
    refine dk_iconst C (0) dL_insert_27 rfl ?_
    exact dk_iret C E dL_insert_28 (by decide) (by decide) (⟨by rw [e0], by rw [if_pos e0]; rfl⟩)
  · rintro E' h' ⟨rfl, ⟨e0, rfl⟩ | ⟨e0, rfl⟩⟩
    · refine hx_c1 C Tt 0 rfl (by decide) lk_n (i := 7) (l := 2) (Or.inl ⟨dL_insert_19, rfl⟩) (by decide) rfl ?_
      refine dk_iconst C (1) dL_insert_21 rfl ?_
      exact dk_iret C E dL_insert_22 (by decide) (by decide) (⟨by rw [e0], by rw [if_neg (by rw [e0]; decide)]⟩)
    · refine hx_c2 C Tt 0 1 (fun U h => h.2.2.2.2.1) (by decide) lk_n rfl (by decide) lk_s (i := 7) (l := 2) (Or.inl ⟨dL_insert_23, rfl⟩) (by decide) rfl ?_
      refine dk_iconst C (2) dL_insert_25 rfl ?_
      exact dk_iret C E dL_insert_26 (by decide) (by decide) (⟨by rw [e0], by rw [if_neg (by rw [e0]; decide)]⟩)
set_option maxHeartbeats 8000000 in
set_option maxRecDepth 100000 in
theorem c_L_delete (G : dk_G) (sr : Nat → Option Nat) (hi : Nat → Nat → Int32) (hf : Nat → Nat → UInt32) (z : (Nat → Nat → Int64) × (Nat → Nat → UInt64)) (hT : tTT hi) (x r : Int32) :
    hx_M G yL_delete cL_delete 4 (some .int) [(0, 6, 9, 13)] { frames := 9, cells := 1, slots := 6, locals := 220 } [.ref 0, .int x, .int r] 63 (hi, hf, dk_RF sr, z) (fun r' h' => r' = some (.int (if dk_hr hi x r = true then 0 else 1)) ∧ h' = (if dk_hr hi x r = true then (tb_rem (dk_end hi) (tcl x) (cl (hi (tcl x) 4)) (cl (dk_pl hi x r)), hf, dk_RF sr, z) else (hi, hf, dk_RF sr, z))) := by
  refine hx_met (L := [some (.ref 0), some (.int x), some (.int r), none]) pnL rfl (Nat.le_of_ble_eq_true rfl) ?_
  intro X C E Tt
  refine dk_aload_n C dL_delete_0 rfl rfl ?_
  refine dk_iload_n C dL_delete_1 rfl rfl ?_
  refine dk_iload_n C dL_delete_2 rfl rfl ?_
  refine hx_call C Tt mL_17 (c_X7_delete _ _ _ _ _ hT x r) rfl (by decide) rfl rfl (Nat.le_of_ble_eq_true rfl) ⟨by decide, by decide⟩ ⟨by decide, by decide⟩ dL_delete_3 ?_ ?_
  · rintro r' h' ⟨e0, rfl, rfl⟩
    refine dk_goto C 12 dL_delete_6 (by decide) ?_
    refine dk_iconst C (0) dL_delete_12 rfl ?_
    exact dk_iret C E dL_delete_13 (by decide) (by decide) (⟨by rw [if_pos e0], by rw [if_pos e0]⟩)
  · rintro E' h' ⟨rfl, e0, rfl⟩
    refine hx_c1 C Tt 0 rfl (by decide) lk_n (i := 3) (l := 1) (Or.inr ⟨3, rfl, dL_delete_9, rfl⟩) (by decide) rfl ?_
    refine dk_iconst C (1) dL_delete_10 rfl ?_
    exact dk_iret C E dL_delete_11 (by decide) (by decide) (⟨by rw [if_neg (by rw [e0]; decide)], by rw [if_neg (by rw [e0]; decide)]⟩)
set_option maxHeartbeats 8000000 in
set_option maxRecDepth 100000 in
theorem c_L_update (G : dk_G) (sr : Nat → Option Nat) (hi : Nat → Nat → Int32) (hf : Nat → Nat → UInt32) (z : (Nat → Nat → Int64) × (Nat → Nat → UInt64)) (hT : tTT hi) (h4 : ∀ j, j < 3 → hi (2 + 4 * j) 3 ≤ 4) (x r c v : Int32) :
    hx_M G yL_update cL_update 6 (some .int) [(0, 9, 12, 13)] { frames := 9, cells := 1, slots := 6, locals := 220 } [.ref 0, .int x, .int r, .int c, .int v] 63 (hi, hf, dk_RF sr, z) (fun r' h' => r' = some (.int (if cb_ok hi x r c = true then 0 else 1)) ∧ h' = (if cb_ok hi x r c = true then (dk_up (dk_end hi) (tcl x + 2) (cl (dk_pl hi x r) * 4 + cl c) v, hf, dk_RF sr, z) else (hi, hf, dk_RF sr, z))) := by
  refine hx_met (L := [some (.ref 0), some (.int x), some (.int r), some (.int c), some (.int v), none]) pnL rfl (Nat.le_of_ble_eq_true rfl) ?_
  intro X C E Tt
  refine dk_aload_n C dL_update_0 rfl rfl ?_
  refine dk_iload_n C dL_update_1 rfl rfl ?_
  refine dk_iload_n C dL_update_2 rfl rfl ?_
  refine dk_iload_n C dL_update_3 rfl rfl ?_
  refine dk_iload C dL_update_4 rfl ?_
  refine hx_call C Tt mL_21 (c_X7_update _ _ _ _ _ hT h4 x r c v) rfl (by decide) rfl rfl (Nat.le_of_ble_eq_true rfl) ⟨by decide, by decide⟩ ⟨by decide, by decide⟩ dL_update_6 ?_ ?_
  · rintro r' h' ⟨e0, rfl, rfl⟩
    refine dk_goto C 16 dL_update_9 (by decide) ?_
    refine dk_iconst C (0) dL_update_16 rfl ?_
    exact dk_iret C E dL_update_17 (by decide) (by decide) (⟨by rw [if_pos e0], by rw [if_pos e0]⟩)
  · rintro E' h' ⟨rfl, e0, rfl⟩
    refine hx_c1 C Tt 0 rfl (by decide) lk_n (i := 5) (l := 2) (Or.inl ⟨dL_update_12, rfl⟩) (by decide) rfl ?_
    refine dk_iconst C (1) dL_update_14 rfl ?_
    exact dk_iret C E dL_update_15 (by decide) (by decide) (⟨by rw [if_neg (by rw [e0]; decide)], by rw [if_neg (by rw [e0]; decide)]⟩)
set_option maxHeartbeats 8000000 in
set_option maxRecDepth 100000 in
theorem c_L_cell (G : dk_G) (sr : Nat → Option Nat) (hi : Nat → Nat → Int32) (hf : Nat → Nat → UInt32) (z : (Nat → Nat → Int64) × (Nat → Nat → UInt64)) (hT : tTT hi) (h4 : ∀ j, j < 3 → hi (2 + 4 * j) 3 ≤ 4) (x r c : Int32) :
    hx_M G yL_cell cL_cell 6 (some .int) [(0, 12, 15, 13)] { frames := 9, cells := 1, slots := 6, locals := 220 } [.ref 0, .int x, .int r, .int c, .ref 61] 63 (hi, hf, dk_RF sr, z) (fun r' h' => r' = some (.int (if cb_ok hi x r c = true then 0 else 1)) ∧ h' = (hi, hf, dk_RF sr, if cb_ok hi x r c = true then (dk_up z.1 61 0 (hi (tcl x + 2) (cl (dk_pl hi x r) * 4 + cl c)).toInt64, z.2) else z)) := by
  refine hx_met (L := [some (.ref 0), some (.int x), some (.int r), some (.int c), some (.ref 61), none]) pnL rfl (Nat.le_of_ble_eq_true rfl) ?_
  intro X C E Tt
  refine dk_aload C dL_cell_0 rfl ?_
  refine dk_iconst C (0) dL_cell_2 rfl ?_
  refine dk_aload_n C dL_cell_3 rfl rfl ?_
  refine dk_iload_n C dL_cell_4 rfl rfl ?_
  refine dk_iload_n C dL_cell_5 rfl rfl ?_
  refine dk_iload_n C dL_cell_6 rfl rfl ?_
  refine hx_call C Tt mL_25 (c_X7_cell _ _ _ _ _ hT h4 x r c) rfl (by decide) rfl rfl (Nat.le_of_ble_eq_true rfl) ⟨by decide, by decide⟩ ⟨by decide, by decide⟩ dL_cell_7 ?_ ?_
  · rintro r' h' ⟨e0, rfl, rfl⟩
    refine dk_i2l C dL_cell_10 ?_
    refine dk_last C (a := 61) (N := 1) (i := 0) rfl (by decide) vin0 dL_cell_11 ?_
    refine dk_goto C 19 dL_cell_12 (by decide) ?_
    refine dk_iconst C (0) dL_cell_19 rfl ?_
    exact dk_iret C E dL_cell_20 (by decide) (by decide) (⟨by rw [if_pos e0], by rw [if_pos e0]; rfl⟩)
  · rintro E' h' ⟨rfl, e0, rfl⟩
    refine hx_c1 C Tt 0 rfl (by decide) lk_n (i := 5) (l := 2) (Or.inl ⟨dL_cell_15, rfl⟩) (by decide) rfl ?_
    refine dk_iconst C (1) dL_cell_17 rfl ?_
    exact dk_iret C E dL_cell_18 (by decide) (by decide) (⟨by rw [if_neg (by rw [e0]; decide)], by rw [if_neg (by rw [e0]; decide)]⟩)
set_option maxHeartbeats 8000000 in
set_option maxRecDepth 100000 in
theorem c_L_explain (G : dk_G) (sr : Nat → Option Nat) (hi : Nat → Nat → Int32) (hf : Nat → Nat → UInt32) (z : (Nat → Nat → Int64) × (Nat → Nat → UInt64)) (n : Nat) (hn : hi 14 4 = nI n) (hn3 : n ≤ 3) (k w : Int32) :
    hx_M G yL_explain cL_explain 5 (some .int) [(0, 10, 13, 37)] { frames := 9, cells := 1, slots := 6, locals := 220 } [.ref 0, .int k, .int w, .ref 61] 63 (hi, hf, dk_RF sr, z) (fun r' h' => r' = some (.int (if ex_ok hi k w = true then 0 else 1)) ∧ h' = (hi, hf, dk_RF sr, if ex_ok hi k w = true then (dk_up z.1 61 0 (ex_v hi k w).toInt64, z.2) else z)) := by
  refine hx_met (L := [some (.ref 0), some (.int k), some (.int w), some (.ref 61), none]) pnL rfl (Nat.le_of_ble_eq_true rfl) ?_
  intro X C E Tt
  refine dk_aload_n C dL_explain_0 rfl rfl ?_
  refine dk_iconst C (0) dL_explain_1 rfl ?_
  refine dk_aload_n C dL_explain_2 rfl rfl ?_
  refine dk_iload_n C dL_explain_3 rfl rfl ?_
  refine dk_iload_n C dL_explain_4 rfl rfl ?_
  refine hx_call C Tt mL_33 (c_X7_explain _ _ _ _ _ n hn hn3 k w) rfl (by decide) rfl rfl (Nat.le_of_ble_eq_true rfl) ⟨by decide, by decide⟩ ⟨by decide, by decide⟩ dL_explain_5 ?_ ?_
  · rintro r' h' ⟨e0, rfl, rfl⟩
    refine dk_i2l C dL_explain_8 ?_
    refine dk_last C (a := 61) (N := 1) (i := 0) rfl (by decide) vin0 dL_explain_9 ?_
    refine dk_goto C 17 dL_explain_10 (by decide) ?_
    refine dk_iconst C (0) dL_explain_17 rfl ?_
    exact dk_iret C E dL_explain_18 (by decide) (by decide) (⟨by rw [if_pos e0], by rw [if_pos e0]; rfl⟩)
  · rintro E' h' ⟨rfl, e0, rfl⟩
    refine hx_c1 C Tt 2 rfl (by decide) lk_x (i := 4) (l := 2) (Or.inl ⟨dL_explain_13, rfl⟩) (by decide) rfl ?_
    refine dk_iconst C (1) dL_explain_15 rfl ?_
    exact dk_iret C E dL_explain_16 (by decide) (by decide) (⟨by rw [if_neg (by rw [e0]; decide)], by rw [if_neg (by rw [e0]; decide)]⟩)
set_option maxHeartbeats 8000000 in
set_option maxRecDepth 100000 in
theorem c_L_answer (G : dk_G) (sr : Nat → Option Nat) (hi : Nat → Nat → Int32) (hf : Nat → Nat → UInt32) (z : (Nat → Nat → Int64) × (Nat → Nat → UInt64)) (a no : Nat) (R : Nat → Nat) (ha : hi 38 6 = nI a) (ha' : a ≤ 64) (hR : ∀ i, i < a → hi 44 i = nI (R i) ∧ R i < 64) (hno : hi 14 7 = nI no) (hno' : no ≤ 4) (i k : Int32) :
    hx_M G yL_answer cL_answer 5 (some .int) [(0, 10, 13, 15), (0, 10, 17, 37)] { frames := 9, cells := 1, slots := 6, locals := 220 } [.ref 0, .int i, .int k, .ref 61] 63 (hi, hf, dk_RF sr, z) (fun r' h' => r' = some (.int (an_c hi i k)) ∧ h' = (hi, hf, dk_RF sr, if an_c hi i k = 0 then (dk_up z.1 61 0 (hi 43 (R (cl i) * 4 + cl k)).toInt64, z.2) else z)) := by
  refine hx_met (L := [some (.ref 0), some (.int i), some (.int k), some (.ref 61), none]) pnL rfl (Nat.le_of_ble_eq_true rfl) ?_
  intro X C E Tt
  refine dk_aload_n C dL_answer_0 rfl rfl ?_
  refine dk_iconst C (0) dL_answer_1 rfl ?_
  refine dk_aload_n C dL_answer_2 rfl rfl ?_
  refine dk_iload_n C dL_answer_3 rfl rfl ?_
  refine dk_iload_n C dL_answer_4 rfl rfl ?_
  refine hx_call C Tt mL_39 (c_X7_answer _ _ _ _ _ a no R ha ha' hR hno hno' i k) rfl (by decide) rfl rfl (Nat.le_of_ble_eq_true rfl) ⟨by decide, by decide⟩ ⟨by decide, by decide⟩ dL_answer_5 ?_ ?_
  · rintro r' h' ⟨e0, rfl, rfl⟩
    refine dk_i2l C dL_answer_8 ?_
    refine dk_last C (a := 61) (N := 1) (i := 0) rfl (by decide) vin0 dL_answer_9 ?_
    refine dk_goto C 21 dL_answer_10 (by decide) ?_
    refine dk_iconst C (0) dL_answer_21 rfl ?_
    exact dk_iret C E dL_answer_22 (by decide) (by decide) (⟨by rw [e0], by rw [if_pos e0]; rfl⟩)
  · rintro E' h' ⟨rfl, ⟨e0, rfl⟩ | ⟨e0, rfl⟩⟩
    · refine hx_c1 C Tt 1 rfl (by decide) lk_s (i := 4) (l := 2) (Or.inl ⟨dL_answer_13, rfl⟩) (by decide) rfl ?_
      refine dk_iconst C (1) dL_answer_15 rfl ?_
      exact dk_iret C E dL_answer_16 (by decide) (by decide) (⟨by rw [e0], by rw [if_neg (by rw [e0]; decide)]⟩)
    · refine hx_c2 C Tt 1 2 (fun U h => h.2.2.2.2.2) (by decide) lk_s rfl (by decide) lk_x (i := 4) (l := 2) (Or.inl ⟨dL_answer_17, rfl⟩) (by decide) rfl ?_
      refine dk_iconst C (2) dL_answer_19 rfl ?_
      exact dk_iret C E dL_answer_20 (by decide) (by decide) (⟨by rw [e0], by rw [if_neg (by rw [e0]; decide)]⟩)
set_option maxHeartbeats 8000000 in
set_option maxRecDepth 100000 in
theorem c_L_plan (G : dk_G) (sr : Nat → Option Nat) (hi : Nat → Nat → Int32) (hf : Nat → Nat → UInt32) (z : (Nat → Nat → Int64) × (Nat → Nat → UInt64)) {ns nc nj : Nat} {st nR : Nat → Nat} (hq : qC hi sr ns nc nj st nR) (hF : qF hf) (l : List Nat) (hop : 1 ≤ ns → ∃ t s n P srt f, dk_T t ∧ (pl_fin hi hf st nR ns nc nj).1 34 0 = nI s ∧ s < 3 ∧ sr s = some t ∧ (pl_fin hi hf st nR ns nc nj).1 t 4 = nI n ∧ n ≤ 24 ∧ op_W (wk_clear (pl_fin hi hf st nR ns nc nj).1) sr 0 s t P srt f ∧ l = op_L P srt f n) (hnan : vf_n32 (pl_fin hi hf st nR ns nc nj).2.2.2) :
    hx_M G yL_plan cL_plan 3 (some .int) [(0, 8, 11, 15)] { frames := 9, cells := 1, slots := 6, locals := 220 } [.ref 0, .ref 62] 63 (hi, hf, dk_RF sr, z) (fun r' h' => (pn_ok hi = true ∧ r' = some (.int 0) ∧ ∃ h4, wk_F (wk_open (wk_clear (pl_fin hi hf st nR ns nc nj).1) 0) h4 0 ∧ wk_L h4 0 l ∧ h' = (dk_up (ms_end h4 1) 0 4 1, (pl_fin hi hf st nR ns nc nj).2.1, dk_RF sr, (z.1, dk_up z.2 62 0 (FP.f2d (pl_fin hi hf st nR ns nc nj).2.2.2)))) ∨ (pn_ok hi = false ∧ r' = some (.int 1) ∧ h' = (hi, hf, dk_RF sr, z))) := by
  refine hx_met (L := [some (.ref 0), some (.ref 62), none]) pnL rfl (Nat.le_of_ble_eq_true rfl) ?_
  intro X C E Tt
  refine dk_aload_n C dL_plan_0 rfl rfl ?_
  refine dk_iconst C (0) dL_plan_1 rfl ?_
  refine dk_aload_n C dL_plan_2 rfl rfl ?_
  refine hx_call C Tt mL_29 (c_X7_plan _ _ _ _ _ hq hF l hop) rfl (by decide) rfl rfl (Nat.le_of_ble_eq_true rfl) ⟨by decide, by decide⟩ ⟨by decide, by decide⟩ dL_plan_3 ?_ ?_
  · rintro r' h' ⟨e0, rfl, h4, b1, b2, rfl⟩
    refine dk_f2d C dL_plan_6 (f2d_n hnan) ?_
    refine dk_dast C (a := 62) (N := 1) (i := 0) rfl (by decide) vin0 dL_plan_7 ?_
    refine dk_goto C 14 dL_plan_8 (by decide) ?_
    refine dk_iconst C (0) dL_plan_14 rfl ?_
    exact dk_iret C E dL_plan_15 (by decide) (by decide) (Or.inl ⟨e0, rfl, h4, b1, b2, rfl⟩)
  · rintro E' h' ⟨rfl, e0, rfl⟩
    refine hx_c1 C Tt 1 rfl (by decide) lk_s (i := 2) (l := 1) (Or.inr ⟨2, rfl, dL_plan_11, rfl⟩) (by decide) rfl ?_
    refine dk_iconst C (1) dL_plan_12 rfl ?_
    exact dk_iret C E dL_plan_13 (by decide) (by decide) (Or.inr ⟨e0, rfl, rfl⟩)
