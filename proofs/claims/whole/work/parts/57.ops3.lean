/-! ===== the question's calls keep the relation ===== -/
theorem q_R {hi H : Nat → Nat → Int32} {hf : Nat → Nat → UInt32} {sr sr' : Nat → Option Nat} {ns nc nj no : Nat} {jt : Nat → Nat} (h : rR hi hf sr) (h6 : hi 45 6 = 0) (e : ∀ i k, i < 14 ∨ (34 ≤ i ∧ i < 45) ∨ (i = 45 ∧ (k = 6 ∨ 26 ≤ k)) ∨ (46 ≤ i ∧ i ≤ 50) ∨ 55 ≤ i → H i k = hi i k) (hq : rQ H sr' ns nc nj no jt) : rR H hf sr' := by
  obtain ⟨ns0, nc0, nj0, no0, jt0, a, b, ⟨s1, s2, ⟨rp, s3⟩, s4, u, R, u1, u2, u3, u4, u5⟩, d, f⟩ := h
  have g6 : H 45 6 = 0 := by rw [e _ _ (by omega)]; exact h6
  refine ⟨ns, nc, nj, no, jt, fun j hj => ?_, hq, ⟨?_, ?_, ⟨rp, fun s hs => ?_⟩, fun y => absurd g6 y, u, R, ?_, u2, fun i hi => ?_, fun _ => ?_, fun y => absurd (g6.symm.trans y) (by decide)⟩, ⟨fun _ => by rw [e _ _ (by omega), e _ _ (by omega)]; exact d.1 h6, fun y => absurd (g6.symm.trans y) (by decide)⟩, f⟩
  · obtain ⟨n, md, en, g⟩ := a j hj
    exact ⟨n, md, en, g.fr (fun i k y => e _ _ (by unfold tD at y; omega))⟩
  · rw [e _ _ (by omega), e _ _ (by omega)]; exact s1
  · rw [e _ _ (by omega), e _ _ (by omega)]; exact s2
  · rw [e _ _ (by omega)]; exact s3 s hs
  · rw [e _ _ (by omega)]; exact u1
  · rw [e _ _ (by omega)]; exact u3 i hi
  · rw [e _ _ (by omega)]; exact u4 (by rw [h6]; decide)
theorem fr_eq {hi : Nat → Nat → Int32} {hf : Nat → Nat → UInt32} {sr : Nat → Option Nat} {nR md : Nat → Nat} {en : Nat → Nat → Nat} (T : rTT hi nR md en) {ns nc nj no : Nat} {jt : Nat → Nat} (b : rQ hi sr ns nc nj no jt) (s : hi 0 4 = hi 45 6) {hi' : Nat → Nat → Int32} (e : ∀ k, hi' 46 k = hi 46 k) (e6 : hi' 45 6 = hi 45 6) (e7 : hi' 45 7 = hi 45 7) (x : Int32) : mf_ok hi' x = fr_ok hi x := by
  unfold mf_ok fr_ok
  obtain ⟨⟨a1, a2, a3, _⟩, _⟩ := b
  rw [ht_eq T e, e6, e7, s, a1, a2]
  congr 2
  refine decide_eq_decide.mpr ?_
  rw [show (3 : Int32) = nI 3 from rfl, nI_ltI (by omega) (by omega), Ne, nI_eq (by omega) (by omega)]
  omega
theorem op_from {hi : Nat → Nat → Int32} {hf : Nat → Nat → UInt32} {sr : Nat → Option Nat} (h : rR hi hf sr) {nR md : Nat → Nat} {en : Nat → Nat → Nat} (T : rTT hi nR md en) {ns nc nj no : Nat} {jt : Nat → Nat} (b : rQ hi sr ns nc nj no jt) (s : hi 0 4 = hi 45 6) {x : Int32} (hk : fr_ok hi x = true) : rR (dk_up (dk_up (dk_up (dk_up hi 14 4 (nI (ns + 1))) 45 0 0) 51 ns x) 45 7 (nI (ns + 1))) hf (sr_up sr ns (some (tcl x))) := by
  unfold fr_ok at hk
  rw [Bool.and_eq_true, Bool.and_eq_true] at hk
  have h0 := of_decide_eq_true hk.1
  obtain ⟨j, hj, ex, ej, hp⟩ := dk_ht_1 hk.2.1
  have h3 := of_decide_eq_true hk.2.2
  obtain ⟨⟨a1, a2, a3, a4⟩, ⟨b1, b2, b3, b4⟩, ⟨c1, c2, c3, c4⟩, ⟨d1, d2, d3, d4⟩, e1, e2, e3, e4, e5⟩ := b
  rw [a1, show (3 : Int32) = nI 3 from rfl, nI_ltI (by omega) (by omega)] at h3
  have ne : ∀ i k, ¬ (i = 14 ∧ k = 4) → ¬ (i = 45 ∧ (k = 0 ∨ k = 7)) → ¬ (i = 51 ∧ k = ns) → dk_up (dk_up (dk_up (dk_up hi 14 4 (nI (ns + 1))) 45 0 0) 51 ns x) 45 7 (nI (ns + 1)) i k = hi i k := fun i k y1 y2 y3 => by simp (disch := omega) only [dk_up_ne]
  refine q_R (ns := ns + 1) (nc := nc) (nj := nj) (no := no) (jt := fun s => if s = ns then j else jt s) h (by rw [← s]; exact h0) (fun i k y => ne _ _ (by omega) (by omega) (by omega)) ⟨⟨?_, ?_, by omega, fun s hs => ?_⟩, ⟨?_, ?_, b3, fun i hi => ⟨fun k hk => ?_, ?_⟩⟩, ⟨?_, ?_, c3, fun i hi => ⟨fun k hk => ?_, ?_⟩⟩, ⟨?_, ?_, d3, fun i hi => ⟨fun k hk => ?_, ?_⟩⟩, ?_, ?_, ?_, ?_, ?_⟩
  · simp (disch := omega) only [dk_up_ne, dk_up_same]
  · simp (disch := omega) only [dk_up_same]
  · rw [ne 46 _ (by omega) (by omega) (by omega)]
    show sr_up sr ns (some (tcl x)) s = some (2 + 4 * (if s = ns then j else jt s)) ∧ _ = nI (if s = ns then j else jt s) ∧ (if s = ns then j else jt s) < 3 ∧ 0 < hi 46 (if s = ns then j else jt s)
    unfold sr_up
    by_cases q : s = ns
    · rw [if_pos q, if_pos q, q]
      refine ⟨by rw [tcl, ej], ?_, hj, ?_⟩
      · simp (disch := omega) only [dk_up_ne, dk_up_same]; exact ex
      · rw [← (T j hj).1.1]; exact hp
    · rw [if_neg q, if_neg q, ne _ _ (by omega) (by omega) (by omega)]
      exact a4 s (by omega)
  · rw [ne _ _ (by omega) (by omega) (by omega)]; exact b1
  · rw [ne _ _ (by omega) (by omega) (by omega)]; exact b2
  · rw [ne _ _ (by omega) (by omega) (by omega), ne _ _ (by omega) (by omega) (by omega)]; exact (b4 i hi).1 k hk
  · obtain ⟨_, s, c, o, g, g2⟩ := b4 i hi
    rw [ne _ _ (by omega) (by omega) (by omega), ne _ _ (by omega) (by omega) (by omega), ne _ _ (by omega) (by omega) (by omega)]
    exact ⟨s, c, o, ⟨by omega, g.2⟩, g2⟩
  · rw [ne _ _ (by omega) (by omega) (by omega)]; exact c1
  · rw [ne _ _ (by omega) (by omega) (by omega)]; exact c2
  · rw [ne _ _ (by omega) (by omega) (by omega), ne _ _ (by omega) (by omega) (by omega)]; exact (c4 i hi).1 k hk
  · obtain ⟨_, s, c, o, c', g, g2⟩ := c4 i hi
    rw [ne _ _ (by omega) (by omega) (by omega), ne _ _ (by omega) (by omega) (by omega), ne _ _ (by omega) (by omega) (by omega), ne _ _ (by omega) (by omega) (by omega)]
    exact ⟨s, c, o, c', ⟨by omega, g.2.1, by omega, g.2.2.2.1, g.2.2.2.2⟩, g2⟩
  · rw [ne _ _ (by omega) (by omega) (by omega)]; exact d1
  · rw [ne _ _ (by omega) (by omega) (by omega)]; exact d2
  · rw [ne _ _ (by omega) (by omega) (by omega), ne _ _ (by omega) (by omega) (by omega)]; exact (d4 i hi).1 k hk
  · obtain ⟨_, s, c, g, g2⟩ := d4 i hi
    rw [ne _ _ (by omega) (by omega) (by omega), ne _ _ (by omega) (by omega) (by omega)]
    exact ⟨s, c, ⟨by omega, g.2⟩, g2⟩
  · rw [ne _ _ (by omega) (by omega) (by omega), ne _ _ (by omega) (by omega) (by omega)]; exact e1
  · rw [ne _ _ (by omega) (by omega) (by omega), ne _ _ (by omega) (by omega) (by omega)]; exact e2
  · rw [ne _ _ (by omega) (by omega) (by omega), ne _ _ (by omega) (by omega) (by omega)]; exact e3
  · rw [ne _ _ (by omega) (by omega) (by omega)]; exact e4
  · rw [ne _ _ (by omega) (by omega) (by omega)]; exact e5
theorem has_1 {hi : Nat → Nat → Int32} {nR md : Nat → Nat} {en : Nat → Nat → Nat} (T : rTT hi nR md en) {ns : Nat} {jt : Nat → Nat} (hns : ns ≤ 3) (hjt : ∀ s, s < ns → jt s < 3) {s c : Int32} (h : qu_has hi ns (fun s => 2 + 4 * jt s) s c = true) : ∃ s' c', s' < ns ∧ c' < 4 ∧ s = nI s' ∧ c = nI c' := by
  obtain ⟨h1, h2, h3, h4⟩ := of_decide_eq_true h
  obtain ⟨s', hs, rfl⟩ : ∃ s', s' < ns ∧ s = nI s' := by
    rcases pk_ix s (n := ns) (by omega) with q | q | q
    · exact absurd h1 (Int32.not_le.mpr q)
    · exact absurd h2 (Int32.not_lt.mpr q)
    · exact q
  rw [nI_clamp (by omega)] at h4
  have h5 : c < 4 := Int32.lt_of_lt_of_le h4 (T.c4 _ (hjt s' hs))
  rcases pk_ix c (n := 4) (by decide) with q | q | ⟨i, hi, rfl⟩
  · exact absurd h3 (Int32.not_le.mpr q)
  · exact absurd h5 (Int32.not_lt.mpr q)
  · exact ⟨s', i, hs, hi, rfl, rfl⟩
theorem has_eq {hi hi' : Nat → Nat → Int32} {nR md : Nat → Nat} {en : Nat → Nat → Nat} (T : rTT hi nR md en) {ns : Nat} {jt : Nat → Nat} (hns : ns ≤ 3) (hjt : ∀ s, s < ns → jt s < 3) (e : ∀ k, hi' 46 k = hi 46 k) (e6 : hi' 45 6 = hi 45 6) (s c : Int32) : mh_b hi' ns jt s c = (decide (hi 45 6 = 0) && qu_has hi ns (fun s => 2 + 4 * jt s) s c) := by
  unfold mh_b qu_has
  rw [e6]
  congr 1
  refine decide_eq_decide.mpr ⟨fun ⟨h1, h2, h3, h4⟩ => ⟨h1, h2, h3, ?_⟩, fun ⟨h1, h2, h3, h4⟩ => ⟨h1, h2, h3, ?_⟩⟩ <;>
  · obtain ⟨s', hs, rfl⟩ : ∃ s', s' < ns ∧ s = nI s' := by
      rcases pk_ix s (n := ns) (by omega) with q | q | q
      · exact absurd h1 (Int32.not_le.mpr q)
      · exact absurd h2 (Int32.not_lt.mpr q)
      · exact q
    have e1 := (T _ (hjt s' hs)).1.1
    simp only [cl, nI_clamp (show s' < 2 ^ 31 by omega), e, e1] at h4 ⊢
    exact h4
theorem lt_ne (n m : Nat) (h : n ≤ m) (hm : m < 2 ^ 31) : decide (nI n ≠ nI m) = decide (nI n < nI m) := by
  refine decide_eq_decide.mpr ?_
  rw [nI_ltI (by omega) (by omega), Ne, nI_eq (by omega) (by omega)]
  omega
theorem wh_eq {hi : Nat → Nat → Int32} {sr : Nat → Option Nat} {nR md : Nat → Nat} {en : Nat → Nat → Nat} (T : rTT hi nR md en) {ns nc nj no : Nat} {jt : Nat → Nat} (b : rQ hi sr ns nc nj no jt) (s0 : hi 0 4 = hi 45 6) {hi' : Nat → Nat → Int32} (e : ∀ k, hi' 46 k = hi 46 k) (e6 : hi' 45 6 = hi 45 6) (e9 : hi' 45 9 = hi 45 9) (s c o : Int32) : mw_ok hi' ns jt s c o = wh_ok hi ns (fun s => 2 + 4 * jt s) s c o := by
  unfold mw_ok wh_ok
  obtain ⟨⟨a1, a2, a3, a4⟩, ⟨b1, b2, b3, b4⟩, _⟩ := b
  rw [has_eq T a3 (fun s hs => (a4 s hs).2.2.1) e e6, e9, b2, b1, s0, show (4 : Int32) = nI 4 from rfl, lt_ne nc 4 b3 (by omega), Bool.and_assoc]
theorem jn_eq {hi : Nat → Nat → Int32} {sr : Nat → Option Nat} {nR md : Nat → Nat} {en : Nat → Nat → Nat} (T : rTT hi nR md en) {ns nc nj no : Nat} {jt : Nat → Nat} (b : rQ hi sr ns nc nj no jt) (s0 : hi 0 4 = hi 45 6) {hi' : Nat → Nat → Int32} (e : ∀ k, hi' 46 k = hi 46 k) (e6 : hi' 45 6 = hi 45 6) (e9 : hi' 45 11 = hi 45 11) (s c o x : Int32) : mj_ok hi' ns jt s c o x = jn_ok hi ns (fun s => 2 + 4 * jt s) s c o x := by
  unfold mj_ok jn_ok
  obtain ⟨⟨a1, a2, a3, a4⟩, _, ⟨b1, b2, b3, b4⟩, _⟩ := b
  rw [has_eq T a3 (fun s hs => (a4 s hs).2.2.1) e e6, has_eq T a3 (fun s hs => (a4 s hs).2.2.1) e e6, e9, b2, b1, s0, show (3 : Int32) = nI 3 from rfl, lt_ne nj 3 b3 (by omega)]
  cases decide (hi 45 6 = 0)
  · rfl
  · rw [Bool.true_and, Bool.true_and, Bool.true_and]
theorem sl_eq {hi : Nat → Nat → Int32} {sr : Nat → Option Nat} {nR md : Nat → Nat} {en : Nat → Nat → Nat} (T : rTT hi nR md en) {ns nc nj no : Nat} {jt : Nat → Nat} (b : rQ hi sr ns nc nj no jt) (s0 : hi 0 4 = hi 45 6) {hi' : Nat → Nat → Int32} (e : ∀ k, hi' 46 k = hi 46 k) (e6 : hi' 45 6 = hi 45 6) (e9 : hi' 45 13 = hi 45 13) (s c : Int32) : ml_ok hi' ns jt s c = sl_ok hi ns (fun s => 2 + 4 * jt s) s c := by
  unfold ml_ok sl_ok
  obtain ⟨⟨a1, a2, a3, a4⟩, _, _, ⟨b1, b2, b3, b4⟩, _⟩ := b
  rw [has_eq T a3 (fun s hs => (a4 s hs).2.2.1) e e6, e9, b2, b1, s0, show (4 : Int32) = nI 4 from rfl, lt_ne no 4 b3 (by omega), Bool.and_assoc]
theorem op_where {hi : Nat → Nat → Int32} {hf : Nat → Nat → UInt32} {sr : Nat → Option Nat} (h : rR hi hf sr) {nR md : Nat → Nat} {en : Nat → Nat → Nat} (T : rTT hi nR md en) {ns nc nj no : Nat} {jt : Nat → Nat} (b : rQ hi sr ns nc nj no jt) (s0 : hi 0 4 = hi 45 6) {s c o x : Int32} (hk : wh_ok hi ns (fun s => 2 + 4 * jt s) s c o = true) : rR (mw_hi (dk_up (qu_addC hi nc s c o x) 45 0 0) nc s c o x) hf sr := by
  unfold wh_ok at hk
  rw [Bool.and_eq_true, Bool.and_eq_true, Bool.and_eq_true] at hk
  have h0 := of_decide_eq_true hk.1
  obtain ⟨⟨a1, a2, a3, a4⟩, ⟨b1, b2, b3, b4⟩, ⟨c1, c2, c3, c4⟩, ⟨d1, d2, d3, d4⟩, e1, e2, e3, e4, e5⟩ := b
  obtain ⟨s', c', hs', hc', rfl, rfl⟩ := has_1 T a3 (fun s hs => (a4 s hs).2.2.1) hk.2.1
  have ho := of_decide_eq_true hk.2.2.1
  obtain ⟨o', ho', rfl⟩ : ∃ o', o' < 4 ∧ o = nI o' := by
    rcases pk_ix o (n := 4) (by decide) with q | q | q
    · exact absurd ho.1 (Int32.not_le.mpr q)
    · exact absurd (Int32.le_trans q ho.2) (by decide)
    · exact q
  have h3 := of_decide_eq_true hk.2.2.2
  rw [b1, show (4 : Int32) = nI 4 from rfl, nI_ltI (by omega) (by omega)] at h3
  have ne : ∀ i k, ¬ (i = 14 ∧ k = 5) → ¬ (i = 45 ∧ (k = 0 ∨ k = 9)) → ¬ (i = 17 + nc ∧ k < 4) → ¬ (i = 52 ∧ 4 * nc ≤ k ∧ k < 4 * nc + 4) → mw_hi (dk_up (qu_addC hi nc (nI s') (nI c') (nI o') x) 45 0 0) nc (nI s') (nI c') (nI o') x i k = hi i k := fun i k y1 y2 y3 y4 => by simp (disch := omega) only [mw_hi, qu_addC, dk_up_ne]
  have at0 : mw_hi (dk_up (qu_addC hi nc (nI s') (nI c') (nI o') x) 45 0 0) nc (nI s') (nI c') (nI o') x 52 (4 * nc) = nI s' := by simp (disch := omega) only [mw_hi, dk_up_ne, dk_up_same]
  have at1 : mw_hi (dk_up (qu_addC hi nc (nI s') (nI c') (nI o') x) 45 0 0) nc (nI s') (nI c') (nI o') x 52 (4 * nc + 1) = nI c' := by simp (disch := omega) only [mw_hi, dk_up_ne, dk_up_same]
  have at2 : mw_hi (dk_up (qu_addC hi nc (nI s') (nI c') (nI o') x) 45 0 0) nc (nI s') (nI c') (nI o') x 52 (4 * nc + 2) = nI o' := by simp (disch := omega) only [mw_hi, dk_up_ne, dk_up_same]
  refine q_R (ns := ns) (nc := nc + 1) (nj := nj) (no := no) (jt := jt) h (by rw [← s0]; exact h0) (fun i k y => ne _ _ (by omega) (by omega) (by omega) (by omega)) ⟨⟨?_, ?_, a3, fun s hs => ?_⟩, ⟨?_, ?_, by omega, fun i hi => ⟨fun k hk => ?_, ?_⟩⟩, ⟨?_, ?_, c3, fun i hi => ⟨fun k hk => ?_, ?_⟩⟩, ⟨?_, ?_, d3, fun i hi => ⟨fun k hk => ?_, ?_⟩⟩, ?_, ?_, ?_, ?_, ?_⟩
  · rw [ne _ _ (by omega) (by omega) (by omega) (by omega)]; exact a1
  · rw [ne _ _ (by omega) (by omega) (by omega) (by omega)]; exact a2
  · rw [ne _ _ (by omega) (by omega) (by omega) (by omega), ne _ _ (by omega) (by omega) (by omega) (by omega)]; exact a4 s hs
  · simp (disch := omega) only [mw_hi, qu_addC, dk_up_ne, dk_up_same]
  · simp (disch := omega) only [mw_hi, dk_up_same]
  · by_cases q : i = nc
    · rw [q]
      rcases (by omega : k = 0 ∨ k = 1 ∨ k = 2 ∨ k = 3) with rfl | rfl | rfl | rfl
      · rw [Nat.add_zero, at0]; simp (disch := omega) only [mw_hi, qu_addC, dk_up_ne, dk_up_same]
      · rw [at1]; simp (disch := omega) only [mw_hi, qu_addC, dk_up_ne, dk_up_same]
      · rw [at2]; simp (disch := omega) only [mw_hi, qu_addC, dk_up_ne, dk_up_same]
      · simp (disch := omega) only [mw_hi, qu_addC, dk_up_ne, dk_up_same]
    · rw [ne _ _ (by omega) (by omega) (by omega) (by omega), ne _ _ (by omega) (by omega) (by omega) (by omega)]; exact (b4 i (by omega)).1 k hk
  · by_cases q : i = nc
    · rw [q, at0, at1, at2]
      exact ⟨s', c', o', ⟨hs', hc', ho'⟩, rfl, rfl, rfl⟩
    · rw [ne _ _ (by omega) (by omega) (by omega) (by omega), ne _ _ (by omega) (by omega) (by omega) (by omega), ne _ _ (by omega) (by omega) (by omega) (by omega)]
      exact (b4 i (by omega)).2
  · rw [ne _ _ (by omega) (by omega) (by omega) (by omega)]; exact c1
  · rw [ne _ _ (by omega) (by omega) (by omega) (by omega)]; exact c2
  · rw [ne _ _ (by omega) (by omega) (by omega) (by omega), ne _ _ (by omega) (by omega) (by omega) (by omega)]; exact (c4 i hi).1 k hk
  · rw [ne _ _ (by omega) (by omega) (by omega) (by omega), ne _ _ (by omega) (by omega) (by omega) (by omega), ne _ _ (by omega) (by omega) (by omega) (by omega), ne _ _ (by omega) (by omega) (by omega) (by omega)]; exact (c4 i hi).2
  · rw [ne _ _ (by omega) (by omega) (by omega) (by omega)]; exact d1
  · rw [ne _ _ (by omega) (by omega) (by omega) (by omega)]; exact d2
  · rw [ne _ _ (by omega) (by omega) (by omega) (by omega), ne _ _ (by omega) (by omega) (by omega) (by omega)]; exact (d4 i hi).1 k hk
  · rw [ne _ _ (by omega) (by omega) (by omega) (by omega), ne _ _ (by omega) (by omega) (by omega) (by omega)]; exact (d4 i hi).2
  · rw [ne _ _ (by omega) (by omega) (by omega) (by omega), ne _ _ (by omega) (by omega) (by omega) (by omega)]; exact e1
  · rw [ne _ _ (by omega) (by omega) (by omega) (by omega), ne _ _ (by omega) (by omega) (by omega) (by omega)]; exact e2
  · rw [ne _ _ (by omega) (by omega) (by omega) (by omega), ne _ _ (by omega) (by omega) (by omega) (by omega)]; exact e3
  · rw [ne _ _ (by omega) (by omega) (by omega) (by omega)]; exact e4
  · rw [ne _ _ (by omega) (by omega) (by omega) (by omega)]; exact e5
theorem op_join {hi : Nat → Nat → Int32} {hf : Nat → Nat → UInt32} {sr : Nat → Option Nat} (h : rR hi hf sr) {nR md : Nat → Nat} {en : Nat → Nat → Nat} (T : rTT hi nR md en) {ns nc nj no : Nat} {jt : Nat → Nat} (b : rQ hi sr ns nc nj no jt) (s0 : hi 0 4 = hi 45 6) {s c o x : Int32} (hk : jn_ok hi ns (fun s => 2 + 4 * jt s) s c o x = true) : rR (mj_hi (dk_up (qu_addJ hi nj s c o x) 45 0 0) nj s c o x) hf sr := by
  unfold jn_ok at hk
  rw [Bool.and_eq_true, Bool.and_eq_true, Bool.and_eq_true, Bool.and_eq_true] at hk
  have h0 := of_decide_eq_true hk.1
  obtain ⟨⟨a1, a2, a3, a4⟩, ⟨b1, b2, b3, b4⟩, ⟨c1, c2, c3, c4⟩, ⟨d1, d2, d3, d4⟩, e1, e2, e3, e4, e5⟩ := b
  obtain ⟨s', c', hs', hc', rfl, rfl⟩ := has_1 T a3 (fun s hs => (a4 s hs).2.2.1) hk.2.1
  obtain ⟨o', x', ho', hx', rfl, rfl⟩ := has_1 T a3 (fun s hs => (a4 s hs).2.2.1) hk.2.2.1
  have hne : s' ≠ o' := fun y => of_decide_eq_true hk.2.2.2.1 (by rw [y])
  have h3 := of_decide_eq_true hk.2.2.2.2
  rw [c1, show (3 : Int32) = nI 3 from rfl, nI_ltI (by omega) (by omega)] at h3
  have ne : ∀ i k, ¬ (i = 14 ∧ k = 6) → ¬ (i = 45 ∧ (k = 0 ∨ k = 11)) → ¬ (i = 22 + nj ∧ k < 4) → ¬ (i = 53 ∧ 4 * nj ≤ k ∧ k < 4 * nj + 4) → mj_hi (dk_up (qu_addJ hi nj (nI s') (nI c') (nI o') (nI x')) 45 0 0) nj (nI s') (nI c') (nI o') (nI x') i k = hi i k := fun i k y1 y2 y3 y4 => by simp (disch := omega) only [mj_hi, qu_addJ, dk_up_ne]
  have at0 : mj_hi (dk_up (qu_addJ hi nj (nI s') (nI c') (nI o') (nI x')) 45 0 0) nj (nI s') (nI c') (nI o') (nI x') 53 (4 * nj) = nI s' := by simp (disch := omega) only [mj_hi, dk_up_ne, dk_up_same]
  have at1 : mj_hi (dk_up (qu_addJ hi nj (nI s') (nI c') (nI o') (nI x')) 45 0 0) nj (nI s') (nI c') (nI o') (nI x') 53 (4 * nj + 1) = nI c' := by simp (disch := omega) only [mj_hi, dk_up_ne, dk_up_same]
  have at2 : mj_hi (dk_up (qu_addJ hi nj (nI s') (nI c') (nI o') (nI x')) 45 0 0) nj (nI s') (nI c') (nI o') (nI x') 53 (4 * nj + 2) = nI o' := by simp (disch := omega) only [mj_hi, dk_up_ne, dk_up_same]
  have at3 : mj_hi (dk_up (qu_addJ hi nj (nI s') (nI c') (nI o') (nI x')) 45 0 0) nj (nI s') (nI c') (nI o') (nI x') 53 (4 * nj + 3) = nI x' := by simp (disch := omega) only [mj_hi, dk_up_ne, dk_up_same]
  refine q_R (ns := ns) (nc := nc) (nj := nj + 1) (no := no) (jt := jt) h (by rw [← s0]; exact h0) (fun i k y => ne _ _ (by omega) (by omega) (by omega) (by omega)) ⟨⟨?_, ?_, a3, fun s hs => ?_⟩, ⟨?_, ?_, b3, fun i hi => ⟨fun k hk => ?_, ?_⟩⟩, ⟨?_, ?_, by omega, fun i hi => ⟨fun k hk => ?_, ?_⟩⟩, ⟨?_, ?_, d3, fun i hi => ⟨fun k hk => ?_, ?_⟩⟩, ?_, ?_, ?_, ?_, ?_⟩
  · rw [ne _ _ (by omega) (by omega) (by omega) (by omega)]; exact a1
  · rw [ne _ _ (by omega) (by omega) (by omega) (by omega)]; exact a2
  · rw [ne _ _ (by omega) (by omega) (by omega) (by omega), ne _ _ (by omega) (by omega) (by omega) (by omega)]; exact a4 s hs
  · rw [ne _ _ (by omega) (by omega) (by omega) (by omega)]; exact b1
  · rw [ne _ _ (by omega) (by omega) (by omega) (by omega)]; exact b2
  · rw [ne _ _ (by omega) (by omega) (by omega) (by omega), ne _ _ (by omega) (by omega) (by omega) (by omega)]; exact (b4 i hi).1 k hk
  · rw [ne _ _ (by omega) (by omega) (by omega) (by omega), ne _ _ (by omega) (by omega) (by omega) (by omega), ne _ _ (by omega) (by omega) (by omega) (by omega)]; exact (b4 i hi).2
  · simp (disch := omega) only [mj_hi, qu_addJ, dk_up_ne, dk_up_same]
  · simp (disch := omega) only [mj_hi, dk_up_same]
  · by_cases q : i = nj
    · rw [q]
      rcases (by omega : k = 0 ∨ k = 1 ∨ k = 2 ∨ k = 3) with rfl | rfl | rfl | rfl
      · rw [Nat.add_zero, at0]; simp (disch := omega) only [mj_hi, qu_addJ, dk_up_ne, dk_up_same]
      · rw [at1]; simp (disch := omega) only [mj_hi, qu_addJ, dk_up_ne, dk_up_same]
      · rw [at2]; simp (disch := omega) only [mj_hi, qu_addJ, dk_up_ne, dk_up_same]
      · rw [at3]; simp (disch := omega) only [mj_hi, qu_addJ, dk_up_ne, dk_up_same]
    · rw [ne _ _ (by omega) (by omega) (by omega) (by omega), ne _ _ (by omega) (by omega) (by omega) (by omega)]; exact (c4 i (by omega)).1 k hk
  · by_cases q : i = nj
    · rw [q, at0, at1, at2, at3]
      exact ⟨s', c', o', x', ⟨hs', hc', ho', hx', hne⟩, rfl, rfl, rfl, rfl⟩
    · rw [ne _ _ (by omega) (by omega) (by omega) (by omega), ne _ _ (by omega) (by omega) (by omega) (by omega), ne _ _ (by omega) (by omega) (by omega) (by omega), ne _ _ (by omega) (by omega) (by omega) (by omega)]
      exact (c4 i (by omega)).2
  · rw [ne _ _ (by omega) (by omega) (by omega) (by omega)]; exact d1
  · rw [ne _ _ (by omega) (by omega) (by omega) (by omega)]; exact d2
  · rw [ne _ _ (by omega) (by omega) (by omega) (by omega), ne _ _ (by omega) (by omega) (by omega) (by omega)]; exact (d4 i hi).1 k hk
  · rw [ne _ _ (by omega) (by omega) (by omega) (by omega), ne _ _ (by omega) (by omega) (by omega) (by omega)]; exact (d4 i hi).2
  · rw [ne _ _ (by omega) (by omega) (by omega) (by omega), ne _ _ (by omega) (by omega) (by omega) (by omega)]; exact e1
  · rw [ne _ _ (by omega) (by omega) (by omega) (by omega), ne _ _ (by omega) (by omega) (by omega) (by omega)]; exact e2
  · rw [ne _ _ (by omega) (by omega) (by omega) (by omega), ne _ _ (by omega) (by omega) (by omega) (by omega)]; exact e3
  · rw [ne _ _ (by omega) (by omega) (by omega) (by omega)]; exact e4
  · rw [ne _ _ (by omega) (by omega) (by omega) (by omega)]; exact e5
theorem op_select {hi : Nat → Nat → Int32} {hf : Nat → Nat → UInt32} {sr : Nat → Option Nat} (h : rR hi hf sr) {nR md : Nat → Nat} {en : Nat → Nat → Nat} (T : rTT hi nR md en) {ns nc nj no : Nat} {jt : Nat → Nat} (b : rQ hi sr ns nc nj no jt) (s0 : hi 0 4 = hi 45 6) {s c : Int32} (hk : sl_ok hi ns (fun s => 2 + 4 * jt s) s c = true) : rR (ml_hi (dk_up (qu_addO hi no s c) 45 0 0) no s c) hf sr := by
  unfold sl_ok at hk
  rw [Bool.and_eq_true, Bool.and_eq_true] at hk
  have h0 := of_decide_eq_true hk.1
  obtain ⟨⟨a1, a2, a3, a4⟩, ⟨b1, b2, b3, b4⟩, ⟨c1, c2, c3, c4⟩, ⟨d1, d2, d3, d4⟩, e1, e2, e3, e4, e5⟩ := b
  obtain ⟨s', c', hs', hc', rfl, rfl⟩ := has_1 T a3 (fun s hs => (a4 s hs).2.2.1) hk.2.1
  have h3 := of_decide_eq_true hk.2.2
  rw [d1, show (4 : Int32) = nI 4 from rfl, nI_ltI (by omega) (by omega)] at h3
  have ne : ∀ i k, ¬ (i = 14 ∧ k = 7) → ¬ (i = 45 ∧ (k = 0 ∨ k = 13)) → ¬ (i = 26 + no ∧ k < 4) → ¬ (i = 54 ∧ 2 * no ≤ k ∧ k < 2 * no + 2) → ml_hi (dk_up (qu_addO hi no (nI s') (nI c')) 45 0 0) no (nI s') (nI c') i k = hi i k := fun i k y1 y2 y3 y4 => by simp (disch := omega) only [ml_hi, qu_addO, dk_up_ne]
  have at0 : ml_hi (dk_up (qu_addO hi no (nI s') (nI c')) 45 0 0) no (nI s') (nI c') 54 (2 * no) = nI s' := by simp (disch := omega) only [ml_hi, dk_up_ne, dk_up_same]
  have at1 : ml_hi (dk_up (qu_addO hi no (nI s') (nI c')) 45 0 0) no (nI s') (nI c') 54 (2 * no + 1) = nI c' := by simp (disch := omega) only [ml_hi, dk_up_ne, dk_up_same]
  refine q_R (ns := ns) (nc := nc) (nj := nj) (no := no + 1) (jt := jt) h (by rw [← s0]; exact h0) (fun i k y => ne _ _ (by omega) (by omega) (by omega) (by omega)) ⟨⟨?_, ?_, a3, fun s hs => ?_⟩, ⟨?_, ?_, b3, fun i hi => ⟨fun k hk => ?_, ?_⟩⟩, ⟨?_, ?_, c3, fun i hi => ⟨fun k hk => ?_, ?_⟩⟩, ⟨?_, ?_, by omega, fun i hi => ⟨fun k hk => ?_, ?_⟩⟩, ?_, ?_, ?_, ?_, ?_⟩
  · rw [ne _ _ (by omega) (by omega) (by omega) (by omega)]; exact a1
  · rw [ne _ _ (by omega) (by omega) (by omega) (by omega)]; exact a2
  · rw [ne _ _ (by omega) (by omega) (by omega) (by omega), ne _ _ (by omega) (by omega) (by omega) (by omega)]; exact a4 s hs
  · rw [ne _ _ (by omega) (by omega) (by omega) (by omega)]; exact b1
  · rw [ne _ _ (by omega) (by omega) (by omega) (by omega)]; exact b2
  · rw [ne _ _ (by omega) (by omega) (by omega) (by omega), ne _ _ (by omega) (by omega) (by omega) (by omega)]; exact (b4 i hi).1 k hk
  · rw [ne _ _ (by omega) (by omega) (by omega) (by omega), ne _ _ (by omega) (by omega) (by omega) (by omega), ne _ _ (by omega) (by omega) (by omega) (by omega)]; exact (b4 i hi).2
  · rw [ne _ _ (by omega) (by omega) (by omega) (by omega)]; exact c1
  · rw [ne _ _ (by omega) (by omega) (by omega) (by omega)]; exact c2
  · rw [ne _ _ (by omega) (by omega) (by omega) (by omega), ne _ _ (by omega) (by omega) (by omega) (by omega)]; exact (c4 i hi).1 k hk
  · rw [ne _ _ (by omega) (by omega) (by omega) (by omega), ne _ _ (by omega) (by omega) (by omega) (by omega), ne _ _ (by omega) (by omega) (by omega) (by omega), ne _ _ (by omega) (by omega) (by omega) (by omega)]; exact (c4 i hi).2
  · simp (disch := omega) only [ml_hi, qu_addO, dk_up_ne, dk_up_same]
  · simp (disch := omega) only [ml_hi, dk_up_same]
  · by_cases q : i = no
    · rw [q]
      rcases (by omega : k = 0 ∨ k = 1) with rfl | rfl
      · rw [Nat.add_zero, at0]; simp (disch := omega) only [ml_hi, qu_addO, dk_up_ne, dk_up_same]
      · rw [at1]; simp (disch := omega) only [ml_hi, qu_addO, dk_up_ne, dk_up_same]
    · rw [ne _ _ (by omega) (by omega) (by omega) (by omega), ne _ _ (by omega) (by omega) (by omega) (by omega)]; exact (d4 i (by omega)).1 k hk
  · by_cases q : i = no
    · rw [q, at0, at1]
      exact ⟨s', c', ⟨hs', hc'⟩, rfl, rfl⟩
    · rw [ne _ _ (by omega) (by omega) (by omega) (by omega), ne _ _ (by omega) (by omega) (by omega) (by omega)]
      exact (d4 i (by omega)).2
  · rw [ne _ _ (by omega) (by omega) (by omega) (by omega), ne _ _ (by omega) (by omega) (by omega) (by omega)]; exact e1
  · rw [ne _ _ (by omega) (by omega) (by omega) (by omega), ne _ _ (by omega) (by omega) (by omega) (by omega)]; exact e2
  · rw [ne _ _ (by omega) (by omega) (by omega) (by omega), ne _ _ (by omega) (by omega) (by omega) (by omega)]; exact e3
  · rw [ne _ _ (by omega) (by omega) (by omega) (by omega)]
    rcases e4 with g | ⟨o, g, g'⟩
    · exact Or.inl g
    · exact Or.inr ⟨o, by omega, g'⟩
  · rw [ne _ _ (by omega) (by omega) (by omega) (by omega)]; exact e5
theorem rQ.fr2 {hi hi' : Nat → Nat → Int32} {sr : Nat → Option Nat} {ns nc nj no : Nat} {jt : Nat → Nat} (h : rQ hi sr ns nc nj no jt) (e : ∀ i k, qD i k → ¬ (i = 14 ∧ 8 ≤ k) → ¬ (i = 45 ∧ 15 ≤ k) → hi' i k = hi i k) (h' : hi' 14 8 = hi' 45 15 ∧ hi' 14 9 = hi' 45 16 ∧ hi' 14 10 = hi' 45 17 ∧ (hi' 45 15 = -1 ∨ ∃ o, o < no ∧ hi' 45 15 = nI o) ∧ ∃ lm, 1 ≤ lm ∧ lm ≤ 64 ∧ hi' 45 17 = nI lm) : rQ hi' sr ns nc nj no jt := by
  obtain ⟨⟨a1, a2, a3, a4⟩, ⟨b1, b2, b3, b4⟩, ⟨c1, c2, c3, c4⟩, ⟨d1, d2, d3, d4⟩, _⟩ := h
  have g14 : ∀ k, k < 8 → hi' 14 k = hi 14 k := fun k hk => e _ _ (by unfold qD; omega) (by omega) (by omega)
  have g17 : ∀ i k, 17 ≤ i → i < 30 → hi' i k = hi i k := fun i k x y => e _ _ (by unfold qD; omega) (by omega) (by omega)
  have g45 : ∀ k, 7 ≤ k → k < 15 → hi' 45 k = hi 45 k := fun k x y => e _ _ (by unfold qD; omega) (by omega) (by omega)
  have g46 : ∀ k, hi' 46 k = hi 46 k := fun k => e _ _ (by unfold qD; omega) (by omega) (by omega)
  have g51 : ∀ k, hi' 51 k = hi 51 k := fun k => e _ _ (by unfold qD; omega) (by omega) (by omega)
  have g52 : ∀ k, hi' 52 k = hi 52 k := fun k => e _ _ (by unfold qD; omega) (by omega) (by omega)
  have g53 : ∀ k, hi' 53 k = hi 53 k := fun k => e _ _ (by unfold qD; omega) (by omega) (by omega)
  have g54 : ∀ k, hi' 54 k = hi 54 k := fun k => e _ _ (by unfold qD; omega) (by omega) (by omega)
  refine ⟨⟨by rw [g14 _ (by omega)]; exact a1, by rw [g45 _ (by omega) (by omega)]; exact a2, a3, fun s hs => by rw [g51, g46]; exact a4 s hs⟩, ⟨by rw [g14 _ (by omega)]; exact b1, by rw [g45 _ (by omega) (by omega)]; exact b2, b3, fun i hi => ?_⟩, ⟨by rw [g14 _ (by omega)]; exact c1, by rw [g45 _ (by omega) (by omega)]; exact c2, c3, fun i hi => ?_⟩, ⟨by rw [g14 _ (by omega)]; exact d1, by rw [g45 _ (by omega) (by omega)]; exact d2, d3, fun i hi => ?_⟩, h'⟩
  · refine ⟨fun k hk => by rw [g17 _ _ (by omega) (by omega), g52]; exact (b4 i hi).1 k hk, ?_⟩
    simp only [g52]; exact (b4 i hi).2
  · refine ⟨fun k hk => by rw [g17 _ _ (by omega) (by omega), g53]; exact (c4 i hi).1 k hk, ?_⟩
    simp only [g53]; exact (c4 i hi).2
  · refine ⟨fun k hk => by rw [g17 _ _ (by omega) (by omega), g54]; exact (d4 i hi).1 k hk, ?_⟩
    simp only [g54]; exact (d4 i hi).2
theorem or_eq {hi hi' : Nat → Nat → Int32} {sr : Nat → Option Nat} {ns nc nj no : Nat} {jt : Nat → Nat} (b : rQ hi sr ns nc nj no jt) (s0 : hi 0 4 = hi 45 6) (e6 : hi' 45 6 = hi 45 6) (e : hi' 45 13 = hi 45 13) (o : Int32) : mo_ok hi' o = or_ok hi o := by
  unfold mo_ok or_ok
  rw [e6, e, s0, b.2.2.2.1.1, b.2.2.2.1.2.1]
theorem op_order {hi : Nat → Nat → Int32} {hf : Nat → Nat → UInt32} {sr : Nat → Option Nat} (h : rR hi hf sr) {ns nc nj no : Nat} {jt : Nat → Nat} (b : rQ hi sr ns nc nj no jt) (s0 : hi 0 4 = hi 45 6) {o f : Int32} (hk : or_ok hi o = true) : rR (dk_up (dk_up (dk_up (dk_up (dk_up hi 14 8 o) 14 9 f) 45 0 0) 45 15 o) 45 16 f) hf sr := by
  unfold or_ok at hk
  rw [Bool.and_eq_true] at hk
  have h0 := of_decide_eq_true hk.1
  have h1 := of_decide_eq_true hk.2
  rw [b.2.2.2.1.1] at h1
  have hno := b.2.2.2.1.2.2.1
  obtain ⟨o', ho', rfl⟩ : ∃ o', o' < no ∧ o = nI o' := by
    rcases pk_ix o (n := no) (by omega) with q | q | q
    · exact absurd h1.1 (Int32.not_le.mpr q)
    · exact absurd h1.2 (Int32.not_lt.mpr q)
    · exact q
  refine q_R h (by rw [← s0]; exact h0) (fun i k y => by simp (disch := omega) only [dk_up_ne]) (b.fr2 (fun i k y y1 y2 => by unfold qD at y; simp (disch := omega) only [dk_up_ne]) ⟨?_, ?_, ?_, Or.inr ⟨o', ho', ?_⟩, ?_⟩)
  · simp (disch := omega) only [dk_up_ne, dk_up_same]
  · simp (disch := omega) only [dk_up_ne, dk_up_same]
  · simp (disch := omega) only [dk_up_ne]; exact b.2.2.2.2.2.2.1
  · simp (disch := omega) only [dk_up_ne, dk_up_same]
  · simp (disch := omega) only [dk_up_ne]; exact b.2.2.2.2.2.2.2.2
theorem lm_eq {hi hi' : Nat → Nat → Int32} (s0 : hi 0 4 = hi 45 6) (e6 : hi' 45 6 = hi 45 6) (n : Int32) : mm_ok hi' n = lm_ok hi n := by
  unfold mm_ok lm_ok
  rw [e6, s0]
theorem op_limit {hi : Nat → Nat → Int32} {hf : Nat → Nat → UInt32} {sr : Nat → Option Nat} (h : rR hi hf sr) {ns nc nj no : Nat} {jt : Nat → Nat} (b : rQ hi sr ns nc nj no jt) (s0 : hi 0 4 = hi 45 6) {n : Int32} (hk : lm_ok hi n = true) : rR (dk_up (dk_up (dk_up hi 14 10 n) 45 0 0) 45 17 n) hf sr := by
  unfold lm_ok at hk
  rw [Bool.and_eq_true] at hk
  have h0 := of_decide_eq_true hk.1
  have h1 := of_decide_eq_true hk.2
  obtain ⟨n', hn', rfl⟩ : ∃ n', n' < 65 ∧ n = nI n' := by
    rcases pk_ix n (n := 65) (by omega) with q | q | q
    · exact absurd (Int32.lt_of_le_of_lt h1.1 q) (by decide)
    · exact absurd (Int32.le_trans q h1.2) (by decide)
    · exact q
  have h2 : 1 ≤ n' := by
    have := h1.1
    rw [show (1 : Int32) = nI 1 from rfl, nI_leI (by omega) (by omega)] at this
    exact this
  refine q_R h (by rw [← s0]; exact h0) (fun i k y => by simp (disch := omega) only [dk_up_ne]) (b.fr2 (fun i k y y1 y2 => by unfold qD at y; simp (disch := omega) only [dk_up_ne]) ⟨?_, ?_, ?_, ?_, n', h2, by omega, ?_⟩)
  · simp (disch := omega) only [dk_up_ne]; exact b.2.2.2.2.1
  · simp (disch := omega) only [dk_up_ne]; exact b.2.2.2.2.2.1
  · simp (disch := omega) only [dk_up_ne, dk_up_same]
  · simp (disch := omega) only [dk_up_ne]; exact b.2.2.2.2.2.2.2.1
  · simp (disch := omega) only [dk_up_ne, dk_up_same]
