/-! ===== the tables' calls keep the relation ===== -/
theorem dk_fr_ne (hi : Nat → Nat → Int32) {a b k i j : Nat} (x : Int32) (h : ¬ (i = a ∧ b ≤ j ∧ j < b + k)) : dk_fr hi a b k x i j = hi i j := if_neg h
theorem dk_fr_in (hi : Nat → Nat → Int32) {a b k i j : Nat} (x : Int32) (h : i = a ∧ b ≤ j ∧ j < b + k) : dk_fr hi a b k x i j = x := if_pos h
theorem dk_fill_ne (hi : Nat → Nat → Int32) {a k i j : Nat} (x : Int32) (h : ¬ (i = a ∧ j < k)) : dk_fill hi a k x i j = hi i j := if_neg h
theorem dk_fill_in (hi : Nat → Nat → Int32) {a k i j : Nat} (x : Int32) (h : i = a ∧ j < k) : dk_fill hi a k x i j = x := if_pos h
theorem dk_end_up (hi : Nat → Nat → Int32) : dk_end hi = dk_up hi 0 4 (if hi 0 4 = 1 then 3 else hi 0 4) := by
  unfold dk_end
  by_cases e : hi 0 4 = 1
  · rw [if_pos e, if_pos e]
  · rw [if_neg e, if_neg e]
    funext i j
    unfold dk_up
    by_cases q : i = 0 ∧ j = 4
    · rw [if_pos q, q.1, q.2]
    · rw [if_neg q]
/-- the numbers of a class's table are those of the model's -/
theorem cr_ok_1 {x c : Int32} (h : cr_ok x c = true) : ∃ j, j < 3 ∧ cl x = j ∧ 0 ≤ c ∧ c ≤ 4 := by
  have h := of_decide_eq_true h
  rcases pk_ix x (n := 3) (by decide) with q | q | ⟨j, hj, rfl⟩
  · exact absurd h.1.1 (Int32.not_le.mpr q)
  · exact absurd h.1.2 (Int32.not_lt.mpr q)
  · exact ⟨j, hj, cl_nI (by omega), Int32.le_trans (by decide) h.2.1, h.2.2⟩
def crH (hi : Nat → Nat → Int32) (j : Nat) (c : Int32) : Nat → Nat → Int32 := md_empty (md_anew (dk_up (dk_begin (tb_anew hi (2 + 4 * j) c)) 45 0 0) j c)
theorem crH_ne (hi : Nat → Nat → Int32) (j : Nat) (c : Int32) {i k : Nat} (hj : j < 3) (h : ¬ tD j i k) (h2 : ¬ (i = 0 ∧ k = 4)) (h3 : ¬ (i = 14 ∧ 4 ≤ k ∧ k ≤ 10)) (h4 : ¬ (i = 38 ∧ 6 ≤ k ∧ k ≤ 8)) (h5 : ¬ i = 45) : crH hi j c i k = hi i k := by
  unfold tD at h
  simp (disch := omega) only [crH, md_empty, md_anew, dk_begin, tb_anew, wk_clear, qu_clear, dk_up_ne, dk_fr_ne, dk_fill_ne]
theorem beg_Q {hi : Nat → Nat → Int32} (sr : Nat → Option Nat) (h4 : hi 14 4 = 0) (h5 : hi 14 5 = 0) (h6 : hi 14 6 = 0) (h7 : hi 14 7 = 0) (h8 : hi 14 8 = -1) (h9 : hi 14 9 = 0) (h10 : hi 14 10 = 64) (g7 : hi 45 7 = 0) (g9 : hi 45 9 = 0) (g11 : hi 45 11 = 0) (g13 : hi 45 13 = 0) (g15 : hi 45 15 = -1) (g16 : hi 45 16 = 0) (g17 : hi 45 17 = 64) : rQ hi sr 0 0 0 0 (fun _ => 0) :=
  ⟨⟨h4, g7, by omega, fun s hs => absurd hs (by omega)⟩, ⟨h5, g9, by omega, fun s hs => absurd hs (by omega)⟩, ⟨h6, g11, by omega, fun s hs => absurd hs (by omega)⟩, ⟨h7, g13, by omega, fun s hs => absurd hs (by omega)⟩, h8.trans g15.symm, h9.trans g16.symm, h10.trans g17.symm, Or.inl g15, 64, by omega, by omega, g17⟩
theorem beg_S {hi : Nat → Nat → Int32} (h0 : hi 0 4 = 0) (g6 : hi 45 6 = 0) (h6 : hi 38 6 = 0) (h7 : hi 38 7 = 0) (g27 : hi 45 27 = 0) (g28 : hi 45 28 = 0) (hr : ∃ rp : Nat → Nat, ∀ s, s < 3 → hi 42 s = nI (rp s) ∧ rp s < 24) : rS hi 0 0 :=
  ⟨h0.trans g6.symm, h7.trans g27.symm, hr, fun x => absurd g6 x, 0, fun _ => 0, h6, by omega, fun i hi => absurd hi (by omega), fun _ => g28, fun x => absurd (g6.symm.trans x) (by decide)⟩
theorem op_create {hi : Nat → Nat → Int32} {hf : Nat → Nat → UInt32} {sr : Nat → Option Nat} (h : rR hi hf sr) {x c : Int32} (hk : cr_ok x c = true) : rR (md_empty (md_anew (dk_up (dk_begin (tb_anew hi (tcl x) c)) 45 0 0) (cl x) c)) hf sr := by
  obtain ⟨j, hj, e, hc0, hc4⟩ := cr_ok_1 hk
  obtain ⟨ns, nc, nj, no, jt, a, b, s, d, f⟩ := h
  rw [tcl, e]
  show rR (crH hi j c) hf sr
  have ne := fun i k => @crH_ne hi j c i k hj
  have g6 : crH hi j c 45 6 = 0 := by simp (disch := omega) only [crH, md_empty, dk_up_ne, dk_up_same]
  have g27 : crH hi j c 45 27 = 0 := by simp (disch := omega) only [crH, md_empty, dk_up_ne, dk_up_same]
  have g28 : crH hi j c 45 28 = 0 := by simp (disch := omega) only [crH, md_empty, dk_up_ne, dk_up_same]
  refine ⟨0, 0, 0, 0, fun _ => 0, fun j' hj' => ?_, beg_Q sr ?_ ?_ ?_ ?_ ?_ ?_ ?_ ?_ ?_ ?_ ?_ ?_ ?_ ?_, beg_S ?_ g6 ?_ ?_ g27 g28 ?_, ⟨fun _ => ⟨g27, g28⟩, fun x => absurd (g6.symm.trans x) (by decide)⟩, f⟩
  · by_cases e2 : j' = j
    · subst e2
      have h3 : crH hi j' c (2 + 4 * j') 3 = c := by simp (disch := omega) only [crH, md_empty, md_anew, dk_begin, tb_anew, wk_clear, qu_clear, dk_up_ne, dk_fr_ne, dk_fill_ne, dk_up_same]
      have h4 : crH hi j' c (2 + 4 * j') 4 = 0 := by simp (disch := omega) only [crH, md_empty, md_anew, dk_begin, tb_anew, wk_clear, qu_clear, dk_up_ne, dk_fr_ne, dk_fill_ne, dk_up_same]
      have h5 : crH hi j' c (2 + 4 * j') 5 = 0 := by simp (disch := omega) only [crH, md_empty, md_anew, dk_begin, tb_anew, wk_clear, qu_clear, dk_up_ne, dk_fr_ne, dk_fill_ne, dk_up_same]
      have h46 : crH hi j' c 46 j' = c := by simp (disch := omega) only [crH, md_empty, md_anew, dk_up_ne, dk_fr_ne, dk_up_same]
      have h47 : crH hi j' c 47 j' = 0 := by simp (disch := omega) only [crH, md_empty, md_anew, dk_up_ne, dk_fr_ne, dk_up_same]
      refine ⟨0, 0, fun _ => 0, ⟨by rw [h3, h46], by rw [h46]; exact hc0, by rw [h46]; exact hc4⟩, ⟨h4, h5, h47, by omega⟩, ⟨fun p q _ hq => absurd hq (by omega), fun p hp => absurd hp (by omega), fun r hr => ?_, by omega⟩, fun p hp => absurd hp (by omega), fun p c hp => absurd hp (by omega), fun c' k hc hk => ?_⟩
      · have h48 : crH hi j' c 48 (60 * j' + r) = 0 := by simp (disch := omega) only [crH, md_empty, md_anew, dk_up_ne, dk_fr_ne, dk_fr_in]
        rw [h48]
        exact ⟨fun x => absurd rfl x, fun ⟨p, hp, _⟩ => absurd hp (by omega)⟩
      · have h50 : crH hi j' c 50 (8 * j' + 4 * k + c') = 0 := by simp (disch := omega) only [crH, md_empty, md_anew, dk_up_ne, dk_fr_ne, dk_fr_in]
        have h53 : crH hi j' c (2 + 4 * j' + 3) (c' * 2 + k) = 0 := by simp (disch := omega) only [crH, md_empty, md_anew, dk_begin, tb_anew, wk_clear, qu_clear, dk_up_ne, dk_fr_ne, dk_fill_in]
        rw [h50, h53]
        exact ⟨rfl, Or.inl rfl⟩
    · obtain ⟨n, md, en, g⟩ := a j' hj'
      exact ⟨n, md, en, g.fr (fun i k y => ne _ _ (by unfold tD at *; omega) (by unfold tD at *; omega) (by unfold tD at *; omega) (by unfold tD at *; omega) (by unfold tD at *; omega))⟩
  · simp (disch := omega) only [crH, md_empty, md_anew, dk_begin, tb_anew, wk_clear, qu_clear, dk_up_ne, dk_fr_ne, dk_fill_ne, dk_up_same]
  · simp (disch := omega) only [crH, md_empty, md_anew, dk_begin, tb_anew, wk_clear, qu_clear, dk_up_ne, dk_fr_ne, dk_fill_ne, dk_up_same]
  · simp (disch := omega) only [crH, md_empty, md_anew, dk_begin, tb_anew, wk_clear, qu_clear, dk_up_ne, dk_fr_ne, dk_fill_ne, dk_up_same]
  · simp (disch := omega) only [crH, md_empty, md_anew, dk_begin, tb_anew, wk_clear, qu_clear, dk_up_ne, dk_fr_ne, dk_fill_ne, dk_up_same]
  · simp (disch := omega) only [crH, md_empty, md_anew, dk_begin, tb_anew, wk_clear, qu_clear, dk_up_ne, dk_fr_ne, dk_fill_ne, dk_up_same]
  · simp (disch := omega) only [crH, md_empty, md_anew, dk_begin, tb_anew, wk_clear, qu_clear, dk_up_ne, dk_fr_ne, dk_fill_ne, dk_up_same]
  · simp (disch := omega) only [crH, md_empty, md_anew, dk_begin, tb_anew, wk_clear, qu_clear, dk_up_ne, dk_fr_ne, dk_fill_ne, dk_up_same]
  · simp (disch := omega) only [crH, md_empty, dk_up_ne, dk_up_same]
  · simp (disch := omega) only [crH, md_empty, dk_up_ne, dk_up_same]
  · simp (disch := omega) only [crH, md_empty, dk_up_ne, dk_up_same]
  · simp (disch := omega) only [crH, md_empty, dk_up_ne, dk_up_same]
  · simp (disch := omega) only [crH, md_empty, dk_up_ne, dk_up_same]
  · simp (disch := omega) only [crH, md_empty, dk_up_ne, dk_up_same]
  · simp (disch := omega) only [crH, md_empty, dk_up_ne, dk_up_same]
  · simp (disch := omega) only [crH, md_empty, md_anew, dk_begin, tb_anew, wk_clear, qu_clear, dk_up_ne, dk_fr_ne, dk_fill_ne, dk_up_same]
  · simp (disch := omega) only [crH, md_empty, md_anew, dk_begin, tb_anew, wk_clear, qu_clear, dk_up_ne, dk_fr_ne, dk_fill_ne, dk_up_same]
  · simp (disch := omega) only [crH, md_empty, md_anew, dk_begin, tb_anew, wk_clear, qu_clear, dk_up_ne, dk_fr_ne, dk_fill_ne, dk_up_same]
  · obtain ⟨_, _, ⟨rp, a3⟩, _⟩ := s
    exact ⟨rp, fun s hs => by rw [ne _ _ (by unfold tD; omega) (by omega) (by omega) (by omega) (by omega)]; exact a3 s hs⟩
def akH (hi : Nat → Nat → Int32) : Nat → Nat → Int32 := md_empty (dk_up (dk_begin hi) 45 0 0)
theorem op_ask {hi : Nat → Nat → Int32} {hf : Nat → Nat → UInt32} {sr : Nat → Option Nat} (h : rR hi hf sr) : rR (md_empty (dk_up (dk_begin hi) 45 0 0)) hf sr := by
  obtain ⟨ns, nc, nj, no, jt, a, b, s, d, f⟩ := h
  show rR (akH hi) hf sr
  have ne : ∀ i k, ¬ (i = 0 ∧ k = 4) → ¬ (i = 14 ∧ 4 ≤ k ∧ k ≤ 10) → ¬ (i = 38 ∧ 6 ≤ k ∧ k ≤ 8) → ¬ i = 45 → akH hi i k = hi i k := fun i k h1 h2 h3 h4 => by
    simp (disch := omega) only [akH, md_empty, dk_begin, wk_clear, qu_clear, dk_up_ne]
  have g6 : akH hi 45 6 = 0 := by simp (disch := omega) only [akH, md_empty, dk_up_ne, dk_up_same]
  have g27 : akH hi 45 27 = 0 := by simp (disch := omega) only [akH, md_empty, dk_up_ne, dk_up_same]
  have g28 : akH hi 45 28 = 0 := by simp (disch := omega) only [akH, md_empty, dk_up_ne, dk_up_same]
  refine ⟨0, 0, 0, 0, fun _ => 0, fun j' hj' => ?_, beg_Q sr ?_ ?_ ?_ ?_ ?_ ?_ ?_ ?_ ?_ ?_ ?_ ?_ ?_ ?_, beg_S ?_ g6 ?_ ?_ g27 g28 ?_, ⟨fun _ => ⟨g27, g28⟩, fun x => absurd (g6.symm.trans x) (by decide)⟩, f⟩
  · obtain ⟨n, md, en, g⟩ := a j' hj'
    exact ⟨n, md, en, g.fr (fun i k y => ne _ _ (by unfold tD at *; omega) (by unfold tD at *; omega) (by unfold tD at *; omega) (by unfold tD at *; omega))⟩
  · simp (disch := omega) only [akH, md_empty, dk_begin, wk_clear, qu_clear, dk_up_ne, dk_up_same]
  · simp (disch := omega) only [akH, md_empty, dk_begin, wk_clear, qu_clear, dk_up_ne, dk_up_same]
  · simp (disch := omega) only [akH, md_empty, dk_begin, wk_clear, qu_clear, dk_up_ne, dk_up_same]
  · simp (disch := omega) only [akH, md_empty, dk_begin, wk_clear, qu_clear, dk_up_ne, dk_up_same]
  · simp (disch := omega) only [akH, md_empty, dk_begin, wk_clear, qu_clear, dk_up_ne, dk_up_same]
  · simp (disch := omega) only [akH, md_empty, dk_begin, wk_clear, qu_clear, dk_up_ne, dk_up_same]
  · simp (disch := omega) only [akH, md_empty, dk_begin, wk_clear, qu_clear, dk_up_ne, dk_up_same]
  · simp (disch := omega) only [akH, md_empty, dk_up_ne, dk_up_same]
  · simp (disch := omega) only [akH, md_empty, dk_up_ne, dk_up_same]
  · simp (disch := omega) only [akH, md_empty, dk_up_ne, dk_up_same]
  · simp (disch := omega) only [akH, md_empty, dk_up_ne, dk_up_same]
  · simp (disch := omega) only [akH, md_empty, dk_up_ne, dk_up_same]
  · simp (disch := omega) only [akH, md_empty, dk_up_ne, dk_up_same]
  · simp (disch := omega) only [akH, md_empty, dk_up_ne, dk_up_same]
  · simp (disch := omega) only [akH, md_empty, dk_begin, wk_clear, qu_clear, dk_up_ne, dk_up_same]
  · simp (disch := omega) only [akH, md_empty, dk_begin, wk_clear, qu_clear, dk_up_ne, dk_up_same]
  · simp (disch := omega) only [akH, md_empty, dk_begin, wk_clear, qu_clear, dk_up_ne, dk_up_same]
  · obtain ⟨_, _, ⟨rp, a3⟩, _⟩ := s
    exact ⟨rp, fun s hs => by rw [ne _ _ (by omega) (by omega) (by omega) (by omega)]; exact a3 s hs⟩
