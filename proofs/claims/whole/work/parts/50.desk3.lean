/-! ===== QueryDesk: the methods that throw ===== -/
theorem tb_from_s (f : Nat → Int32) (x : Int32) : ∀ r p, (tb_from f x r p = -1 ∧ ∀ i, p ≤ i → i < p + r → ¬ f i = x) ∨ ∃ q, p ≤ q ∧ q < p + r ∧ tb_from f x r p = nI q ∧ f q = x ∧ ∀ i, p ≤ i → i < q → ¬ f i = x
  | 0, p => Or.inl ⟨rfl, fun i h1 h2 => by omega⟩
  | r + 1, p => by
    unfold tb_from
    by_cases e : f p = x
    · rw [if_pos e]
      exact Or.inr ⟨p, Nat.le_refl _, by omega, rfl, e, fun i h1 h2 => by omega⟩
    · rw [if_neg e]
      rcases tb_from_s f x r (p + 1) with ⟨h1, h2⟩ | ⟨q, h1, h2, h3, h4, h5⟩
      · refine Or.inl ⟨h1, fun i g1 g2 => ?_⟩
        by_cases e2 : i = p
        · rw [e2]; exact e
        · exact h2 i (by omega) (by omega)
      · refine Or.inr ⟨q, by omega, by omega, h3, h4, fun i g1 g2 => ?_⟩
        by_cases e2 : i = p
        · rw [e2]; exact e
        · exact h5 i (by omega) g2
def in_c (hi : Nat → Nat → Int32) (x : Int32) : Int32 := if dk_ht hi x = true then (if 24 ≤ hi (tcl x) 4 ∨ 60 ≤ hi (tcl x) 5 then 2 else 0) else 1
set_option maxHeartbeats 8000000 in
set_option maxRecDepth 100000 in
theorem c_X7_insert (G : dk_G) (sr : Nat → Option Nat) (hi : Nat → Nat → Int32) (hf : Nat → Nat → UInt32) (z : (Nat → Nat → Int64) × (Nat → Nat → UInt64)) (hT : tTT hi) (x a b c d : Int32) :
    nx_M G yX7_insert cX7_insert 6 (some .int) { frames := 8, cells := 1, slots := 6, locals := 180 } [.ref 0, .int x, .int a, .int b, .int c, .int d] 63 (hi, hf, dk_RF sr, z) (fun r' h' => in_c hi x = 0 ∧ r' = some (.int (hi (tcl x) 5)) ∧ h' = (tb_add (dk_end hi) (tcl x) (cl (hi (tcl x) 4)) a b c d, hf, dk_RF sr, z)) (fun E' h' => h' = (hi, hf, dk_RF sr, z) ∧ ((in_c hi x = 1 ∧ E' = nE 0) ∨ (in_c hi x = 2 ∧ E' = nE 1))) := by
  refine nx_met (L := [some (.ref 0), some (.int x), some (.int a), some (.int b), some (.int c), some (.int d)]) pnX7 rfl (Nat.le_of_ble_eq_true rfl) ?_
  intro X C E Tt
  refine dk_aload_n C dX7_insert_0 rfl rfl ?_
  refine dk_iload_n C dX7_insert_1 rfl rfl ?_
  refine ek_callV C mX7_48 (c_X7_hasTable _ _ _ _ _ x) rfl (by decide) rfl rfl (Nat.le_of_ble_eq_true rfl) (by decide) (by decide) (Nat.zero_le _) (Nat.zero_le _) dX7_insert_2 ?_
  refine dk_if_ne C 18 dX7_insert_5 (by decide) (fun c1 => ?_) (fun c1 => ?_)
  · obtain ⟨j, hj, rfl, e, h0⟩ := dk_ht_1 (bI_n1 c1)
    have T := dk_T1 hj
    obtain ⟨n, hn, en⟩ := hT j hj
    have et : tcl (nI j) = 2 + 4 * j := by rw [tcl, e]
    refine dk_aload_n C dX7_insert_18 rfl rfl ?_
    refine ek_getR C fX7_11 rfl (by decide) rfl 1 rfl dX7_insert_19 ?_
    refine dk_iload_n C dX7_insert_22 rfl rfl ?_
    refine ek_aald C rfl (by decide) (by decide) (j) (rfl) (hj) (by decide) (2 + 4 * j) (dk_RF1 sr hj) dX7_insert_23 ?_
    refine ek_callV C mX7_59 (c_X5_isFull _ _ _ _ _ T) T.s0 T.l0 rfl rfl (Nat.le_of_ble_eq_true rfl) (by decide) (by decide) (Nat.zero_le _) (Nat.zero_le _) dX7_insert_24 ?_
    refine dk_if_eq C 40 dX7_insert_27 (by decide) (fun c2 => ?_) (fun c2 => ?_)
    · have hnf : ¬ (24 ≤ hi (tcl (nI j)) 4 ∨ 60 ≤ hi (tcl (nI j)) 5) := fun q => by rw [et] at q; rw [if_pos q] at c2; exact absurd c2 (by decide)
      have e0 : in_c hi (nI j) = 0 := by rw [in_c, if_pos (bI_n1 c1), if_neg hnf]
      have hlt : n < 24 := by
        rcases Nat.lt_or_eq_of_le hn with q | q
        · exact q
        · exact absurd (Or.inl (by rw [et, en, q]; decide)) hnf
      have e4 : dk_end hi (2 + 4 * j) 4 = nI n := by rw [dk_end_ne (by omega)]; exact en
      have e5 : dk_end hi (2 + 4 * j) 5 = hi (2 + 4 * j) 5 := dk_end_ne (by omega)
      refine dk_aload_n C dX7_insert_40 rfl rfl ?_
      refine ek_callVv C mX7_68 (c_X7_endQuestion _ _ _ _ _) rfl (by decide) rfl rfl (Nat.le_of_ble_eq_true rfl) (by decide) (by decide) (Nat.zero_le _) (Nat.zero_le _) dX7_insert_41 ?_
      refine dk_aload_n C dX7_insert_44 rfl rfl ?_
      refine ek_getR C fX7_11 rfl (by decide) rfl 1 rfl dX7_insert_45 ?_
      refine dk_iload_n C dX7_insert_48 rfl rfl ?_
      refine ek_aald C rfl (by decide) (by decide) (j) (rfl) (hj) (by decide) (2 + 4 * j) (dk_RF1 sr hj) dX7_insert_49 ?_
      refine dk_iload_n C dX7_insert_50 rfl rfl ?_
      refine dk_iload_n C dX7_insert_51 rfl rfl ?_
      refine dk_iload C dX7_insert_52 rfl ?_
      refine dk_iload C dX7_insert_54 rfl ?_
      refine ek_callV C mX7_71 (c_X5_add _ _ _ _ _ T n a b c d e4 hlt) T.s0 T.l0 rfl rfl (Nat.le_of_ble_eq_true rfl) (by decide) (by decide) (Nat.zero_le _) (Nat.zero_le _) dX7_insert_56 ?_
      exact dk_iret C E dX7_insert_59 (Nat.zero_le _) (Nat.zero_le _) (⟨e0, by rw [e5, et], by rw [et, en, cl_nI (by omega)]⟩)
    · have hfu : 24 ≤ hi (tcl (nI j)) 4 ∨ 60 ≤ hi (tcl (nI j)) 5 := Classical.byContradiction fun q => c2 (by rw [et] at q; rw [if_neg q])
      exact nx_throw C Tt 1 1 (by decide) (⟨rfl, Or.inr ⟨by rw [in_c, if_pos (bI_n1 c1), if_pos hfu], rfl⟩⟩) dX7_insert_30 dX7_insert_33 dX7_insert_34 dX7_insert_36 dX7_insert_39 (by decide) (by decide) ⟨by decide, by decide⟩ ⟨by decide, by decide⟩
  · exact nx_throw C Tt 0 0 (by decide) (⟨rfl, Or.inl ⟨by rw [in_c, if_neg (by rw [bI_n0 c1]; decide)], rfl⟩⟩) dX7_insert_8 dX7_insert_11 dX7_insert_12 dX7_insert_14 dX7_insert_17 (by decide) (by decide) ⟨by decide, by decide⟩ ⟨by decide, by decide⟩
theorem dk_hr_1 {hi : Nat → Nat → Int32} {x r : Int32} (h : dk_hr hi x r = true) (hT : tTT hi) : ∃ j n p, (j < 3 ∧ x = nI j ∧ tcl x = 2 + 4 * j) ∧ (n ≤ 24 ∧ hi (2 + 4 * j) 4 = nI n ∧ cl (hi (tcl x) 4) = n) ∧ p < n ∧ tb_from (hi (2 + 4 * j + 1)) r n 0 = nI p ∧ cl (dk_pl hi x r) = p := by
  rw [dk_hr, Bool.and_eq_true] at h
  obtain ⟨j, hj, rfl, e, h0⟩ := dk_ht_1 h.1
  obtain ⟨n, hn, en⟩ := hT j hj
  have et : tcl (nI j) = 2 + 4 * j := by rw [tcl, e]
  have ec : cl (hi (tcl (nI j)) 4) = n := by rw [et, en, cl_nI (by omega)]
  have h2 := of_decide_eq_true h.2
  have ep : dk_pl hi (nI j) r = tb_from (hi (2 + 4 * j + 1)) r n 0 := by rw [dk_pl, ec, et]
  rcases tb_from_s (hi (2 + 4 * j + 1)) r n 0 with ⟨q1, -⟩ | ⟨p, -, q2, q3, -⟩
  · exact absurd (ep.trans q1) h2
  · exact ⟨j, n, p, ⟨hj, rfl, et⟩, ⟨hn, en, ec⟩, by omega, q3, by rw [ep, q3, cl_nI (by omega)]⟩
theorem dk_end_c {hi : Nat → Nat → Int32} {i : Nat} (h : i ≠ 0) : dk_end hi i = hi i := by funext j; exact dk_end_ne h
set_option maxHeartbeats 8000000 in
set_option maxRecDepth 100000 in
theorem c_X7_delete (G : dk_G) (sr : Nat → Option Nat) (hi : Nat → Nat → Int32) (hf : Nat → Nat → UInt32) (z : (Nat → Nat → Int64) × (Nat → Nat → UInt64)) (hT : tTT hi) (x r : Int32) :
    nx_M G yX7_delete cX7_delete 3 none { frames := 8, cells := 1, slots := 6, locals := 180 } [.ref 0, .int x, .int r] 63 (hi, hf, dk_RF sr, z) (fun r' h' => dk_hr hi x r = true ∧ r' = none ∧ h' = (tb_rem (dk_end hi) (tcl x) (cl (hi (tcl x) 4)) (cl (dk_pl hi x r)), hf, dk_RF sr, z)) (fun E' h' => h' = (hi, hf, dk_RF sr, z) ∧ dk_hr hi x r = false ∧ E' = nE 0) := by
  refine nx_met (L := [some (.ref 0), some (.int x), some (.int r)]) pnX7 rfl (Nat.le_of_ble_eq_true rfl) ?_
  intro X C E Tt
  refine dk_aload_n C dX7_delete_0 rfl rfl ?_
  refine dk_iload_n C dX7_delete_1 rfl rfl ?_
  refine dk_iload_n C dX7_delete_2 rfl rfl ?_
  refine ek_callV C mX7_75 (c_X7_hasRow _ _ _ _ _ hT x r) rfl (by decide) rfl rfl (Nat.le_of_ble_eq_true rfl) (by decide) (by decide) (Nat.zero_le _) (Nat.zero_le _) dX7_delete_3 ?_
  refine dk_if_ne C 19 dX7_delete_6 (by decide) (fun c1 => ?_) (fun c1 => ?_)
  · obtain ⟨j, n, p, ⟨hj, rfl, et⟩, ⟨hn, en, ec⟩, hp, ep, epc⟩ := dk_hr_1 (bI_n1 c1) hT
    have T := dk_T1 hj
    have e4 : dk_end hi (2 + 4 * j) 4 = nI n := by rw [dk_end_ne (by omega)]; exact en
    refine dk_aload_n C dX7_delete_19 rfl rfl ?_
    refine ek_callVv C mX7_68 (c_X7_endQuestion _ _ _ _ _) rfl (by decide) rfl rfl (Nat.le_of_ble_eq_true rfl) (by decide) (by decide) (Nat.zero_le _) (Nat.zero_le _) dX7_delete_20 ?_
    refine dk_aload_n C dX7_delete_23 rfl rfl ?_
    refine ek_getR C fX7_11 rfl (by decide) rfl 1 rfl dX7_delete_24 ?_
    refine dk_iload_n C dX7_delete_27 rfl rfl ?_
    refine ek_aald C rfl (by decide) (by decide) (j) (rfl) (hj) (by decide) (2 + 4 * j) (dk_RF1 sr hj) dX7_delete_28 ?_
    refine dk_aload_n C dX7_delete_29 rfl rfl ?_
    refine ek_getR C fX7_11 rfl (by decide) rfl 1 rfl dX7_delete_30 ?_
    refine dk_iload_n C dX7_delete_33 rfl rfl ?_
    refine ek_aald C rfl (by decide) (by decide) (j) (rfl) (hj) (by decide) (2 + 4 * j) (dk_RF1 sr hj) dX7_delete_34 ?_
    refine dk_iload_n C dX7_delete_35 rfl rfl ?_
    refine ek_callV C mX7_81 (c_X5_placeOf _ _ _ _ _ T r n e4 hn) T.s0 T.l0 rfl rfl (Nat.le_of_ble_eq_true rfl) (by decide) (by decide) (Nat.zero_le _) (Nat.zero_le _) dX7_delete_36 ?_
    rw [dk_end_c (show 2 + 4 * j + 1 ≠ 0 by omega), ep]
    refine ek_callVv C mX7_85 (c_X5_remove _ _ _ _ _ T n p e4 hn hp) T.s0 T.l0 rfl rfl (Nat.le_of_ble_eq_true rfl) (by decide) (by decide) (Nat.zero_le _) (Nat.zero_le _) dX7_delete_39 ?_
    exact dk_vret C E dX7_delete_42 (Nat.zero_le _) (Nat.zero_le _) (⟨bI_n1 c1, rfl, by rw [et, epc, ← et, ec, et]⟩)
  · exact nx_throw C Tt 0 2 (by decide) (⟨rfl, bI_n0 c1, rfl⟩) dX7_delete_9 dX7_delete_12 dX7_delete_13 dX7_delete_15 dX7_delete_18 (by decide) (by decide) ⟨by decide, by decide⟩ ⟨by decide, by decide⟩
def cb_ok (hi : Nat → Nat → Int32) (x r c : Int32) : Bool := dk_hr hi x r && dk_hc hi x c
set_option maxHeartbeats 8000000 in
set_option maxRecDepth 100000 in
theorem c_X7_update (G : dk_G) (sr : Nat → Option Nat) (hi : Nat → Nat → Int32) (hf : Nat → Nat → UInt32) (z : (Nat → Nat → Int64) × (Nat → Nat → UInt64)) (hT : tTT hi) (h4 : ∀ j, j < 3 → hi (2 + 4 * j) 3 ≤ 4) (x r c v : Int32) :
    nx_M G yX7_update cX7_update 5 none { frames := 8, cells := 1, slots := 6, locals := 180 } [.ref 0, .int x, .int r, .int c, .int v] 63 (hi, hf, dk_RF sr, z) (fun r' h' => cb_ok hi x r c = true ∧ r' = none ∧ h' = (dk_up (dk_end hi) (tcl x + 2) (cl (dk_pl hi x r) * 4 + cl c) v, hf, dk_RF sr, z)) (fun E' h' => h' = (hi, hf, dk_RF sr, z) ∧ cb_ok hi x r c = false ∧ E' = nE 0) := by
  refine nx_met (L := [some (.ref 0), some (.int x), some (.int r), some (.int c), some (.int v)]) pnX7 rfl (Nat.le_of_ble_eq_true rfl) ?_
  intro X C E Tt
  have no : cb_ok hi x r c = false → dk_W X 18 [some (.ref 0), some (.int x), some (.int r), some (.int c), some (.int v)] [] 63 (hi, hf, dk_RF sr, z) 0 0 := by
    intro e
    exact nx_throw C Tt 0 3 (by decide) (⟨rfl, e, rfl⟩) dX7_update_18 dX7_update_21 dX7_update_22 dX7_update_24 dX7_update_27 (by decide) (by decide) ⟨by decide, by decide⟩ ⟨by decide, by decide⟩
  refine dk_aload_n C dX7_update_0 rfl rfl ?_
  refine dk_iload_n C dX7_update_1 rfl rfl ?_
  refine dk_iload_n C dX7_update_2 rfl rfl ?_
  refine ek_callV C mX7_75 (c_X7_hasRow _ _ _ _ _ hT x r) rfl (by decide) rfl rfl (Nat.le_of_ble_eq_true rfl) (by decide) (by decide) (Nat.zero_le _) (Nat.zero_le _) dX7_update_3 ?_
  refine dk_if_eq C 18 dX7_update_6 (by decide) (fun c1 => ?_) (fun c1 => ?_)
  · exact no (by rw [cb_ok, bI_n0 c1]; rfl)
  · refine dk_aload_n C dX7_update_9 rfl rfl ?_
    refine dk_iload_n C dX7_update_10 rfl rfl ?_
    refine dk_iload_n C dX7_update_11 rfl rfl ?_
    refine ek_callV C mX7_88 (c_X7_hasColumn _ _ _ _ _ x c) rfl (by decide) rfl rfl (Nat.le_of_ble_eq_true rfl) (by decide) (by decide) (Nat.zero_le _) (Nat.zero_le _) dX7_update_12 ?_
    refine dk_if_ne C 28 dX7_update_15 (by decide) (fun c2 => ?_) (fun c2 => ?_)
    · obtain ⟨j, n, p, ⟨hj, rfl, et⟩, ⟨hn, en, ec⟩, hp, ep, epc⟩ := dk_hr_1 (bI_n1 c1) hT
      obtain ⟨j2, m, hj2, hm, ex2, rfl, e1, e2⟩ := dk_hc_1 (bI_n1 c2) h4
      have T := dk_T1 hj
      have e4 : dk_end hi (2 + 4 * j) 4 = nI n := by rw [dk_end_ne (by omega)]; exact en
      refine dk_aload_n C dX7_update_28 rfl rfl ?_
      refine ek_callVv C mX7_68 (c_X7_endQuestion _ _ _ _ _) rfl (by decide) rfl rfl (Nat.le_of_ble_eq_true rfl) (by decide) (by decide) (Nat.zero_le _) (Nat.zero_le _) dX7_update_29 ?_
      refine dk_aload_n C dX7_update_32 rfl rfl ?_
      refine ek_getR C fX7_11 rfl (by decide) rfl 1 rfl dX7_update_33 ?_
      refine dk_iload_n C dX7_update_36 rfl rfl ?_
      refine ek_aald C rfl (by decide) (by decide) (j) (rfl) (hj) (by decide) (2 + 4 * j) (dk_RF1 sr hj) dX7_update_37 ?_
      refine dk_aload_n C dX7_update_38 rfl rfl ?_
      refine ek_getR C fX7_11 rfl (by decide) rfl 1 rfl dX7_update_39 ?_
      refine dk_iload_n C dX7_update_42 rfl rfl ?_
      refine ek_aald C rfl (by decide) (by decide) (j) (rfl) (hj) (by decide) (2 + 4 * j) (dk_RF1 sr hj) dX7_update_43 ?_
      refine dk_iload_n C dX7_update_44 rfl rfl ?_
      refine ek_callV C mX7_81 (c_X5_placeOf _ _ _ _ _ T r n e4 hn) T.s0 T.l0 rfl rfl (Nat.le_of_ble_eq_true rfl) (by decide) (by decide) (Nat.zero_le _) (Nat.zero_le _) dX7_update_45 ?_
      rw [dk_end_c (show 2 + 4 * j + 1 ≠ 0 by omega), ep]
      refine dk_iload_n C dX7_update_48 rfl rfl ?_
      refine dk_iload C dX7_update_49 rfl ?_
      refine ek_callVv C mX7_93 (c_X5_put _ _ _ _ _ T p m v (by omega) hm) T.s0 T.l0 rfl rfl (Nat.le_of_ble_eq_true rfl) (by decide) (by decide) (Nat.zero_le _) (Nat.zero_le _) dX7_update_51 ?_
      exact dk_vret C E dX7_update_54 (Nat.zero_le _) (Nat.zero_le _) (⟨by rw [cb_ok, bI_n1 c1, bI_n1 c2]; rfl, rfl, by rw [et, epc, e2]⟩)
    · exact no (by rw [cb_ok, bI_n0 c2, Bool.and_false])
set_option maxHeartbeats 8000000 in
set_option maxRecDepth 100000 in
theorem c_X7_cell (G : dk_G) (sr : Nat → Option Nat) (hi : Nat → Nat → Int32) (hf : Nat → Nat → UInt32) (z : (Nat → Nat → Int64) × (Nat → Nat → UInt64)) (hT : tTT hi) (h4 : ∀ j, j < 3 → hi (2 + 4 * j) 3 ≤ 4) (x r c : Int32) :
    nx_M G yX7_cell cX7_cell 4 (some .int) { frames := 8, cells := 1, slots := 6, locals := 180 } [.ref 0, .int x, .int r, .int c] 63 (hi, hf, dk_RF sr, z) (fun r' h' => cb_ok hi x r c = true ∧ r' = some (.int (hi (tcl x + 2) (cl (dk_pl hi x r) * 4 + cl c))) ∧ h' = (hi, hf, dk_RF sr, z)) (fun E' h' => h' = (hi, hf, dk_RF sr, z) ∧ cb_ok hi x r c = false ∧ E' = nE 0) := by
  refine nx_met (L := [some (.ref 0), some (.int x), some (.int r), some (.int c)]) pnX7 rfl (Nat.le_of_ble_eq_true rfl) ?_
  intro X C E Tt
  have no : cb_ok hi x r c = false → dk_W X 18 [some (.ref 0), some (.int x), some (.int r), some (.int c)] [] 63 (hi, hf, dk_RF sr, z) 0 0 := by
    intro e
    exact nx_throw C Tt 0 3 (by decide) (⟨rfl, e, rfl⟩) dX7_cell_18 dX7_cell_21 dX7_cell_22 dX7_cell_24 dX7_cell_27 (by decide) (by decide) ⟨by decide, by decide⟩ ⟨by decide, by decide⟩
  refine dk_aload_n C dX7_cell_0 rfl rfl ?_
  refine dk_iload_n C dX7_cell_1 rfl rfl ?_
  refine dk_iload_n C dX7_cell_2 rfl rfl ?_
  refine ek_callV C mX7_75 (c_X7_hasRow _ _ _ _ _ hT x r) rfl (by decide) rfl rfl (Nat.le_of_ble_eq_true rfl) (by decide) (by decide) (Nat.zero_le _) (Nat.zero_le _) dX7_cell_3 ?_
  refine dk_if_eq C 18 dX7_cell_6 (by decide) (fun c1 => ?_) (fun c1 => ?_)
  · exact no (by rw [cb_ok, bI_n0 c1]; rfl)
  · refine dk_aload_n C dX7_cell_9 rfl rfl ?_
    refine dk_iload_n C dX7_cell_10 rfl rfl ?_
    refine dk_iload_n C dX7_cell_11 rfl rfl ?_
    refine ek_callV C mX7_88 (c_X7_hasColumn _ _ _ _ _ x c) rfl (by decide) rfl rfl (Nat.le_of_ble_eq_true rfl) (by decide) (by decide) (Nat.zero_le _) (Nat.zero_le _) dX7_cell_12 ?_
    refine dk_if_ne C 28 dX7_cell_15 (by decide) (fun c2 => ?_) (fun c2 => ?_)
    · obtain ⟨j, n, p, ⟨hj, rfl, et⟩, ⟨hn, en, ec⟩, hp, ep, epc⟩ := dk_hr_1 (bI_n1 c1) hT
      obtain ⟨j2, m, hj2, hm, ex2, rfl, e1, e2⟩ := dk_hc_1 (bI_n1 c2) h4
      have T := dk_T1 hj
      refine dk_aload_n C dX7_cell_28 rfl rfl ?_
      refine ek_getR C fX7_11 rfl (by decide) rfl 1 rfl dX7_cell_29 ?_
      refine dk_iload_n C dX7_cell_32 rfl rfl ?_
      refine ek_aald C rfl (by decide) (by decide) (j) (rfl) (hj) (by decide) (2 + 4 * j) (dk_RF1 sr hj) dX7_cell_33 ?_
      refine dk_aload_n C dX7_cell_34 rfl rfl ?_
      refine ek_getR C fX7_11 rfl (by decide) rfl 1 rfl dX7_cell_35 ?_
      refine dk_iload_n C dX7_cell_38 rfl rfl ?_
      refine ek_aald C rfl (by decide) (by decide) (j) (rfl) (hj) (by decide) (2 + 4 * j) (dk_RF1 sr hj) dX7_cell_39 ?_
      refine dk_iload_n C dX7_cell_40 rfl rfl ?_
      refine ek_callV C mX7_81 (c_X5_placeOf _ _ _ _ _ T r n en hn) T.s0 T.l0 rfl rfl (Nat.le_of_ble_eq_true rfl) (by decide) (by decide) (Nat.zero_le _) (Nat.zero_le _) dX7_cell_41 ?_
      rw [ep]
      refine dk_iload_n C dX7_cell_44 rfl rfl ?_
      refine ek_callV C mX7_97 (c_X5_value _ _ _ _ _ T p m (by omega) hm) T.s0 T.l0 rfl rfl (Nat.le_of_ble_eq_true rfl) (by decide) (by decide) (Nat.zero_le _) (Nat.zero_le _) dX7_cell_45 ?_
      exact dk_iret C E dX7_cell_48 (Nat.zero_le _) (Nat.zero_le _) (⟨by rw [cb_ok, bI_n1 c1, bI_n1 c2]; rfl, pI (by rw [et, epc, e2]), rfl⟩)
    · exact no (by rw [cb_ok, bI_n0 c2, Bool.and_false])
def ex_ok (hi : Nat → Nat → Int32) (k w : Int32) : Bool := decide (¬ hi 0 4 = 0) && (decide (0 ≤ k ∧ k < hi 14 4) && decide (0 ≤ w ∧ w ≤ 3))
def ex_v (hi : Nat → Nat → Int32) (k w : Int32) : Int32 := if w = 0 then hi 34 (cl k) else if w = 1 then hi 35 (cl k) else if w = 2 then hi 36 (cl k) else hi 37 (cl k)
set_option maxHeartbeats 8000000 in
set_option maxRecDepth 100000 in
theorem c_X7_explain (G : dk_G) (sr : Nat → Option Nat) (hi : Nat → Nat → Int32) (hf : Nat → Nat → UInt32) (z : (Nat → Nat → Int64) × (Nat → Nat → UInt64)) (n : Nat) (hn : hi 14 4 = nI n) (hn3 : n ≤ 3) (k w : Int32) :
    nx_M G yX7_explain cX7_explain 3 (some .int) { frames := 8, cells := 1, slots := 6, locals := 180 } [.ref 0, .int k, .int w] 63 (hi, hf, dk_RF sr, z) (fun r' h' => ex_ok hi k w = true ∧ r' = some (.int (ex_v hi k w)) ∧ h' = (hi, hf, dk_RF sr, z)) (fun E' h' => h' = (hi, hf, dk_RF sr, z) ∧ ex_ok hi k w = false ∧ E' = nE 2) := by
  refine nx_met (L := [some (.ref 0), some (.int k), some (.int w)]) pnX7 rfl (Nat.le_of_ble_eq_true rfl) ?_
  intro X C E Tt
  have no : ex_ok hi k w = false → dk_W X 31 [some (.ref 0), some (.int k), some (.int w)] [] 63 (hi, hf, dk_RF sr, z) 0 0 := by
    intro e
    exact nx_throw C Tt 2 5 (by decide) (⟨rfl, e, rfl⟩) dX7_explain_31 dX7_explain_34 dX7_explain_35 dX7_explain_37 dX7_explain_40 (by decide) (by decide) ⟨by decide, by decide⟩ ⟨by decide, by decide⟩
  refine dk_aload_n C dX7_explain_0 rfl rfl ?_
  refine ek_getI C fX7_37 rfl (by decide) rfl dX7_explain_1 ?_
  refine dk_if_eq C 31 dX7_explain_4 (by decide) (fun c1 => ?_) (fun c1 => ?_)
  · exact no (by rw [ex_ok, decide_eq_false (p := ¬ hi 0 4 = 0) (fun q => q c1)]; rfl)
  · refine dk_iload_n C dX7_explain_7 rfl rfl ?_
    refine dk_if_lt C 31 dX7_explain_8 (by decide) (fun c2 => ?_) (fun c2 => ?_)
    · exact no (by rw [ex_ok, decide_eq_false (p := 0 ≤ k ∧ k < hi 14 4) (fun q => Int32.not_le.mpr c2 q.1), Bool.false_and, Bool.and_false])
    · refine dk_iload_n C dX7_explain_11 rfl rfl ?_
      refine dk_aload_n C dX7_explain_12 rfl rfl ?_
      refine ek_getR C fX7_19 rfl (by decide) rfl 14 rfl dX7_explain_13 ?_
      refine ek_getI C fX7_111 rfl (by decide) rfl dX7_explain_16 ?_
      refine dk_icmp_ge C 31 dX7_explain_19 (by decide) (fun c3 => ?_) (fun c3 => ?_)
      · exact no (by rw [ex_ok, decide_eq_false (p := 0 ≤ k ∧ k < hi 14 4) (fun q => Int32.not_lt.mpr c3 q.2), Bool.false_and, Bool.and_false])
      · refine dk_iload_n C dX7_explain_22 rfl rfl ?_
        refine dk_if_lt C 31 dX7_explain_23 (by decide) (fun c4 => ?_) (fun c4 => ?_)
        · exact no (by rw [ex_ok, decide_eq_false (p := 0 ≤ w ∧ w ≤ 3) (fun q => Int32.not_le.mpr c4 q.1), Bool.and_false, Bool.and_false])
        · refine dk_iload_n C dX7_explain_26 rfl rfl ?_
          refine dk_iconst C (3) dX7_explain_27 rfl ?_
          refine dk_icmp_le C 41 dX7_explain_28 (by decide) (fun c5 => ?_) (fun c5 => ?_)
          · have eo : ex_ok hi k w = true := by rw [ex_ok, decide_eq_true c1, decide_eq_true (p := 0 ≤ k ∧ k < hi 14 4) ⟨Int32.not_lt.mp c2, Int32.not_le.mp c3⟩, decide_eq_true (p := 0 ≤ w ∧ w ≤ 3) ⟨Int32.not_lt.mp c4, c5⟩]; rfl
            obtain ⟨i, hin, rfl⟩ : ∃ i, i < n ∧ k = nI i := by
              rw [hn] at c3
              rcases pk_ix k (n := n) (by omega) with q | q | q
              · exact absurd q c2
              · exact absurd q c3
              · exact q
            have e : cl (nI i) = i := cl_nI (by omega)
            obtain ⟨x, hx, rfl⟩ : ∃ x, x < 4 ∧ w = nI x := by
              rcases pk_ix w (n := 4) (by decide) with q | q | q
              · exact absurd q c4
              · exact absurd (Int32.le_trans (show nI 4 ≤ w from q) c5) (by decide)
              · exact q
            refine dk_iload_n C dX7_explain_41 rfl rfl ?_
            rcases (show x = 0 ∨ x = 1 ∨ x = 2 ∨ x = 3 by omega) with rfl | rfl | rfl | rfl
            · refine dk_tableIn C 68 dX7_explain_42 (by decide) (by decide) rfl (by decide) ?_
              refine dk_aload_n C dX7_explain_68 rfl rfl ?_
              refine ek_getR C fX7_26 rfl (by decide) rfl 30 rfl dX7_explain_69 ?_
              refine ek_getR C fX7_163 rfl (by decide) rfl 34 rfl dX7_explain_72 ?_
              refine dk_iload_n C dX7_explain_75 rfl rfl ?_
              refine ek_iald C rfl (by decide) (i) (rfl) (by omega) (by decide) dX7_explain_76 ?_
              exact dk_iret C E dX7_explain_77 (Nat.zero_le _) (Nat.zero_le _) (⟨eo, pI (by rw [ex_v, if_pos (by decide), e]), rfl⟩)
            · refine dk_tableIn C 78 dX7_explain_42 (by decide) (by decide) rfl (by decide) ?_
              refine dk_aload_n C dX7_explain_78 rfl rfl ?_
              refine ek_getR C fX7_26 rfl (by decide) rfl 30 rfl dX7_explain_79 ?_
              refine ek_getR C fX7_167 rfl (by decide) rfl 35 rfl dX7_explain_82 ?_
              refine dk_iload_n C dX7_explain_85 rfl rfl ?_
              refine ek_iald C rfl (by decide) (i) (rfl) (by omega) (by decide) dX7_explain_86 ?_
              exact dk_iret C E dX7_explain_87 (Nat.zero_le _) (Nat.zero_le _) (⟨eo, pI (by rw [ex_v, if_neg (by decide), if_pos (by decide), e]), rfl⟩)
            · refine dk_tableIn C 88 dX7_explain_42 (by decide) (by decide) rfl (by decide) ?_
              refine dk_aload_n C dX7_explain_88 rfl rfl ?_
              refine ek_getR C fX7_26 rfl (by decide) rfl 30 rfl dX7_explain_89 ?_
              refine ek_getR C fX7_170 rfl (by decide) rfl 36 rfl dX7_explain_92 ?_
              refine dk_iload_n C dX7_explain_95 rfl rfl ?_
              refine ek_iald C rfl (by decide) (i) (rfl) (by omega) (by decide) dX7_explain_96 ?_
              exact dk_iret C E dX7_explain_97 (Nat.zero_le _) (Nat.zero_le _) (⟨eo, pI (by rw [ex_v, if_neg (by decide), if_neg (by decide), if_pos (by decide), e]), rfl⟩)
            · refine dk_tableOut C 98 dX7_explain_42 (by decide) (by decide) ?_
              refine dk_aload_n C dX7_explain_98 rfl rfl ?_
              refine ek_getR C fX7_26 rfl (by decide) rfl 30 rfl dX7_explain_99 ?_
              refine ek_getR C fX7_173 rfl (by decide) rfl 37 rfl dX7_explain_102 ?_
              refine dk_iload_n C dX7_explain_105 rfl rfl ?_
              refine ek_iald C rfl (by decide) (i) (rfl) (by omega) (by decide) dX7_explain_106 ?_
              exact dk_iret C E dX7_explain_107 (Nat.zero_le _) (Nat.zero_le _) (⟨eo, pI (by rw [ex_v, if_neg (by decide), if_neg (by decide), if_neg (by decide), e]), rfl⟩)
          · exact no (by rw [ex_ok, decide_eq_false (p := 0 ≤ w ∧ w ≤ 3) (fun q => c5 q.2), Bool.and_false, Bool.and_false])
def gvn (hi : Nat → Nat → Int32) : Int32 := if hi 14 10 < hi 38 6 then hi 14 10 else hi 38 6
def an_c (hi : Nat → Nat → Int32) (i k : Int32) : Int32 := if hi 0 4 = 2 then (if (0 ≤ i ∧ i < gvn hi) ∧ 0 ≤ k ∧ k < hi 14 7 then 0 else 2) else 1
set_option maxHeartbeats 8000000 in
set_option maxRecDepth 100000 in
theorem c_X7_answer (G : dk_G) (sr : Nat → Option Nat) (hi : Nat → Nat → Int32) (hf : Nat → Nat → UInt32) (z : (Nat → Nat → Int64) × (Nat → Nat → UInt64)) (a no : Nat) (R : Nat → Nat) (ha : hi 38 6 = nI a) (ha' : a ≤ 64) (hR : ∀ i, i < a → hi 44 i = nI (R i) ∧ R i < 64) (hno : hi 14 7 = nI no) (hno' : no ≤ 4) (i k : Int32) :
    nx_M G yX7_answer cX7_answer 3 (some .int) { frames := 8, cells := 1, slots := 6, locals := 180 } [.ref 0, .int i, .int k] 63 (hi, hf, dk_RF sr, z) (fun r' h' => an_c hi i k = 0 ∧ r' = some (.int (hi 43 (R (cl i) * 4 + cl k))) ∧ h' = (hi, hf, dk_RF sr, z)) (fun E' h' => h' = (hi, hf, dk_RF sr, z) ∧ ((an_c hi i k = 1 ∧ E' = nE 1) ∨ (an_c hi i k = 2 ∧ E' = nE 2))) := by
  refine nx_met (L := [some (.ref 0), some (.int i), some (.int k)]) pnX7 rfl (Nat.le_of_ble_eq_true rfl) ?_
  intro X C E Tt
  have gle : gvn hi ≤ nI a := by
    unfold gvn
    split
    · rename_i h; rw [← ha]; exact Int32.le_of_lt h
    · rw [ha]; exact Int32.le_refl _
  refine dk_aload_n C dX7_answer_0 rfl rfl ?_
  refine ek_getI C fX7_37 rfl (by decide) rfl dX7_answer_1 ?_
  refine dk_iconst C (2) dX7_answer_4 rfl ?_
  refine dk_icmp_eq C 18 dX7_answer_5 (by decide) (fun c1 => ?_) (fun c1 => ?_)
  · have two : ¬ ((0 ≤ i ∧ i < gvn hi) ∧ 0 ≤ k ∧ k < hi 14 7) → dk_W X 45 [some (.ref 0), some (.int i), some (.int k)] [] 63 (hi, hf, dk_RF sr, z) 0 0 := by
      intro q
      exact nx_throw C Tt 2 7 (by decide) (⟨rfl, Or.inr ⟨by rw [an_c, if_pos c1, if_neg q], rfl⟩⟩) dX7_answer_45 dX7_answer_48 dX7_answer_49 dX7_answer_51 dX7_answer_54 (by decide) (by decide) ⟨by decide, by decide⟩ ⟨by decide, by decide⟩
    refine dk_iload_n C dX7_answer_18 rfl rfl ?_
    refine dk_if_lt C 45 dX7_answer_19 (by decide) (fun c2 => ?_) (fun c2 => ?_)
    · exact two (fun q => Int32.not_le.mpr c2 q.1.1)
    · refine dk_iload_n C dX7_answer_22 rfl rfl ?_
      refine dk_aload_n C dX7_answer_23 rfl rfl ?_
      refine ek_callV C mX7_186 (c_X7_givenAnswers _ _ _ _ _) rfl (by decide) rfl rfl (Nat.le_of_ble_eq_true rfl) (by decide) (by decide) (Nat.zero_le _) (Nat.zero_le _) dX7_answer_24 ?_
      rw [show (if hi 14 10 < hi 38 6 then hi 14 10 else hi 38 6) = gvn hi from rfl]
      refine dk_icmp_ge C 45 dX7_answer_27 (by decide) (fun c3 => ?_) (fun c3 => ?_)
      · exact two (fun q => Int32.not_lt.mpr c3 q.1.2)
      · refine dk_iload_n C dX7_answer_30 rfl rfl ?_
        refine dk_if_lt C 45 dX7_answer_31 (by decide) (fun c4 => ?_) (fun c4 => ?_)
        · exact two (fun q => Int32.not_le.mpr c4 q.2.1)
        · refine dk_iload_n C dX7_answer_34 rfl rfl ?_
          refine dk_aload_n C dX7_answer_35 rfl rfl ?_
          refine ek_getR C fX7_19 rfl (by decide) rfl 14 rfl dX7_answer_36 ?_
          refine ek_getI C fX7_132 rfl (by decide) rfl dX7_answer_39 ?_
          refine dk_icmp_lt C 55 dX7_answer_42 (by decide) (fun c5 => ?_) (fun c5 => ?_)
          · have eo : an_c hi i k = 0 := by rw [an_c, if_pos c1, if_pos ⟨⟨Int32.not_lt.mp c2, Int32.not_le.mp c3⟩, Int32.not_lt.mp c4, c5⟩]
            obtain ⟨x, hx, rfl⟩ : ∃ x, x < a ∧ i = nI x := by
              rcases pk_ix i (n := a) (by omega) with q | q | q
              · exact absurd q c2
              · exact absurd (Int32.le_trans gle q) c3
              · exact q
            obtain ⟨y, hy, rfl⟩ : ∃ y, y < no ∧ k = nI y := by
              rw [hno] at c5
              rcases pk_ix k (n := no) (by omega) with q | q | q
              · exact absurd q c4
              · exact absurd c5 (Int32.not_lt.mpr q)
              · exact q
            refine dk_aload_n C dX7_answer_55 rfl rfl ?_
            refine ek_getR C fX7_33 rfl (by decide) rfl 38 rfl dX7_answer_56 ?_
            refine dk_iload_n C dX7_answer_59 rfl rfl ?_
            refine dk_iload_n C dX7_answer_60 rfl rfl ?_
            refine ek_callV C mX7_200 (c_X6_valueOf _ _ _ _ _ x y (R x) (by omega) (by omega) (hR x hx).1 (hR x hx).2) rfl (by decide) rfl rfl (Nat.le_of_ble_eq_true rfl) (by decide) (by decide) (Nat.zero_le _) (Nat.zero_le _) dX7_answer_61 ?_
            exact dk_iret C E dX7_answer_64 (Nat.zero_le _) (Nat.zero_le _) (⟨eo, pI (by rw [cl_nI (by omega), cl_nI (by omega)]), rfl⟩)
          · exact two (fun q => c5 q.2.2)
  · exact nx_throw C Tt 1 6 (by decide) (⟨rfl, Or.inl ⟨by rw [an_c, if_neg c1], rfl⟩⟩) dX7_answer_8 dX7_answer_11 dX7_answer_12 dX7_answer_14 dX7_answer_17 (by decide) (by decide) ⟨by decide, by decide⟩ ⟨by decide, by decide⟩
def pn_ok (hi : Nat → Nat → Int32) : Bool := decide (hi 0 4 = 0) && (decide (¬ hi 14 4 = 0) && decide (¬ hi 14 7 = 0))
set_option maxHeartbeats 8000000 in
set_option maxRecDepth 100000 in
theorem c_X7_plan (G : dk_G) (sr : Nat → Option Nat) (hi : Nat → Nat → Int32) (hf : Nat → Nat → UInt32) (z : (Nat → Nat → Int64) × (Nat → Nat → UInt64)) {ns nc nj : Nat} {st nR : Nat → Nat} (hq : qC hi sr ns nc nj st nR) (hF : qF hf) (l : List Nat) (hop : 1 ≤ ns → ∃ t s n P srt f, dk_T t ∧ (pl_fin hi hf st nR ns nc nj).1 34 0 = nI s ∧ s < 3 ∧ sr s = some t ∧ (pl_fin hi hf st nR ns nc nj).1 t 4 = nI n ∧ n ≤ 24 ∧ op_W (wk_clear (pl_fin hi hf st nR ns nc nj).1) sr 0 s t P srt f ∧ l = op_L P srt f n) :
    nx_M G yX7_plan cX7_plan 2 (some .float) { frames := 8, cells := 1, slots := 6, locals := 180 } [.ref 0] 63 (hi, hf, dk_RF sr, z) (fun r' h' => pn_ok hi = true ∧ r' = some (.float (pl_fin hi hf st nR ns nc nj).2.2.2) ∧ ∃ h4, wk_F (wk_open (wk_clear (pl_fin hi hf st nR ns nc nj).1) 0) h4 0 ∧ wk_L h4 0 l ∧ h' = (dk_up (ms_end h4 1) 0 4 1, (pl_fin hi hf st nR ns nc nj).2.1, dk_RF sr, z)) (fun E' h' => h' = (hi, hf, dk_RF sr, z) ∧ pn_ok hi = false ∧ E' = nE 1) := by
  refine nx_met (L := [some (.ref 0), none]) pnX7 rfl (Nat.le_of_ble_eq_true rfl) ?_
  intro X C E Tt
  have no : pn_ok hi = false → dk_W X 27 [some (.ref 0), none] [] 63 (hi, hf, dk_RF sr, z) 0 0 := by
    intro e
    exact nx_throw C Tt 1 4 (by decide) (⟨rfl, e, rfl⟩) dX7_plan_27 dX7_plan_30 dX7_plan_31 dX7_plan_33 dX7_plan_36 (by decide) (by decide) ⟨by decide, by decide⟩ ⟨by decide, by decide⟩
  refine dk_aload_n C dX7_plan_0 rfl rfl ?_
  refine ek_getI C fX7_37 rfl (by decide) rfl dX7_plan_1 ?_
  refine dk_if_ne C 27 dX7_plan_4 (by decide) (fun c1 => ?_) (fun c1 => ?_)
  · exact no (by rw [pn_ok, decide_eq_false c1]; rfl)
  · refine dk_aload_n C dX7_plan_7 rfl rfl ?_
    refine ek_getR C fX7_19 rfl (by decide) rfl 14 rfl dX7_plan_8 ?_
    refine ek_getI C fX7_111 rfl (by decide) rfl dX7_plan_11 ?_
    refine dk_if_eq C 27 dX7_plan_14 (by decide) (fun c2 => ?_) (fun c2 => ?_)
    · exact no (by rw [pn_ok, decide_eq_false (p := ¬ hi 14 4 = 0) (fun q => q c2), Bool.false_and, Bool.and_false])
    · refine dk_aload_n C dX7_plan_17 rfl rfl ?_
      refine ek_getR C fX7_19 rfl (by decide) rfl 14 rfl dX7_plan_18 ?_
      refine ek_getI C fX7_132 rfl (by decide) rfl dX7_plan_21 ?_
      refine dk_if_ne C 37 dX7_plan_24 (by decide) (fun c3 => ?_) (fun c3 => ?_)
      · have eo : pn_ok hi = true := by rw [pn_ok, decide_eq_true c1, decide_eq_true (p := ¬ hi 14 4 = 0) c2, decide_eq_true (p := ¬ hi 14 7 = 0) c3]; rfl
        have hns1 : 1 ≤ ns := by
          rcases Nat.eq_zero_or_pos ns with q | q
          · exact absurd (by rw [hq.1.1, q]; rfl) c2
          · exact q
        obtain ⟨t, s, n, P, srt, f, T, g1, g2, g3, g4, g5, g6, g7⟩ := hop hns1
        refine dk_aload_n C dX7_plan_37 rfl rfl ?_
        refine ek_getR C fX7_26 rfl (by decide) rfl 30 rfl dX7_plan_38 ?_
        refine dk_aload_n C dX7_plan_41 rfl rfl ?_
        refine ek_getR C fX7_19 rfl (by decide) rfl 14 rfl dX7_plan_42 ?_
        refine ek_callV C mX7_150 (c_X3_choose _ _ _ _ _ hq hF hns1) rfl (by decide) rfl rfl (Nat.le_of_ble_eq_true rfl) (by decide) (by decide) (Nat.zero_le _) (Nat.zero_le _) dX7_plan_45 ?_
        refine dk_fstore_n C dX7_plan_48 rfl (by decide) rfl ?_
        refine dk_aload_n C dX7_plan_49 rfl rfl ?_
        refine ek_getR C fX7_33 rfl (by decide) rfl 38 rfl dX7_plan_50 ?_
        refine dk_aload_n C dX7_plan_53 rfl rfl ?_
        refine ek_getR C fX7_19 rfl (by decide) rfl 14 rfl dX7_plan_54 ?_
        refine dk_aload_n C dX7_plan_57 rfl rfl ?_
        refine ek_getR C fX7_26 rfl (by decide) rfl 30 rfl dX7_plan_58 ?_
        refine dk_callV C mX7_154 (c_X6_begin _ _ _ _ _ T s n P srt f g1 g2 g3 g4 g5 g6) rfl (by decide) rfl rfl (Nat.le_of_ble_eq_true rfl) ⟨by decide, by decide⟩ ⟨Nat.zero_le _, Nat.zero_le _⟩ dX7_plan_61 ?_
        rintro r h' ⟨rfl, h4, b1, b2, rfl⟩
        refine dk_aload_n C dX7_plan_64 rfl rfl ?_
        refine dk_iconst C (1) dX7_plan_65 rfl ?_
        refine ek_putI C fX7_37 fwX7_4 rfl (by decide) rfl dX7_plan_66 ?_
        refine dk_fload_n C dX7_plan_69 rfl rfl ?_
        exact dk_fret C E dX7_plan_70 (Nat.zero_le _) (Nat.zero_le _) (⟨eo, rfl, h4, b1, by rw [g7]; exact b2, rfl⟩)
      · exact no (by rw [pn_ok, decide_eq_false (p := ¬ hi 14 7 = 0) (fun q => q c3), Bool.and_false, Bool.and_false])
