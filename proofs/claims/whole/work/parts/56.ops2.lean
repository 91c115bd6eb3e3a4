/-! ===== rows and indices keep the relation ===== -/
theorem cl3 {x : Int32} (h1 : 0 ≤ x) (h2 : x < 3) : ∃ j, j < 3 ∧ x = nI j ∧ cl x = j := by
  rcases pk_ix x (n := 3) (by decide) with q | q | ⟨j, hj, rfl⟩
  · exact absurd h1 (Int32.not_le.mpr q)
  · exact absurd h2 (Int32.not_lt.mpr q)
  · exact ⟨j, hj, rfl, cl_nI (by omega)⟩
def rTT (hi : Nat → Nat → Int32) (nR md : Nat → Nat) (en : Nat → Nat → Nat) : Prop := ∀ j, j < 3 → rT hi j (nR j) (md j) (en j)
theorem rTT.T {hi : Nat → Nat → Int32} {nR md : Nat → Nat} {en : Nat → Nat → Nat} (T : rTT hi nR md en) : tTT hi := fun j hj => ⟨nR j, (T j hj).2.2.1.2.2.2, (T j hj).2.1.1⟩
theorem rTT.c4 {hi : Nat → Nat → Int32} {nR md : Nat → Nat} {en : Nat → Nat → Nat} (T : rTT hi nR md en) : ∀ j, j < 3 → hi (2 + 4 * j) 3 ≤ 4 := fun j hj => by rw [(T j hj).1.1]; exact (T j hj).1.2.2
theorem rTT.m4 {hi : Nat → Nat → Int32} {nR md : Nat → Nat} {en : Nat → Nat → Nat} (T : rTT hi nR md en) : ∀ j, j < 3 → hi 46 j ≤ 4 := fun j hj => (T j hj).1.2.2
theorem rTT.ix {hi : Nat → Nat → Int32} {nR md : Nat → Nat} {en : Nat → Nat → Nat} (T : rTT hi nR md en) : tIX hi := by
  intro t ht q hq
  obtain ⟨j, hj, rfl⟩ : ∃ j, j < 3 ∧ t = 2 + 4 * j := by
    rcases ht with rfl | rfl | rfl
    · exact ⟨0, by omega, rfl⟩
    · exact ⟨1, by omega, rfl⟩
    · exact ⟨2, by omega, rfl⟩
  have := (T j hj).2.2.2.2.2 (q / 2) (q % 2) (by omega) (by omega)
  rw [show q / 2 * 2 + q % 2 = q by omega] at this
  rw [this.1]; exact this.2
theorem ht_eq {hi hi' : Nat → Nat → Int32} {nR md : Nat → Nat} {en : Nat → Nat → Nat} (T : rTT hi nR md en) (e : ∀ k, hi' 46 k = hi 46 k) (x : Int32) : md_ht hi' x = dk_ht hi x := by
  unfold md_ht dk_ht
  refine decide_eq_decide.mpr ⟨fun ⟨h1, h2, h3⟩ => ⟨h1, h2, ?_⟩, fun ⟨h1, h2, h3⟩ => ⟨h1, h2, ?_⟩⟩
  · obtain ⟨j, hj, _, ej⟩ := cl3 h1 h2
    rw [tcl, ej, (T j hj).1.1]; rw [ej, e] at h3; exact h3
  · obtain ⟨j, hj, _, ej⟩ := cl3 h1 h2
    rw [tcl, ej, (T j hj).1.1] at h3; rw [ej, e]; exact h3
theorem hc_eq {hi hi' : Nat → Nat → Int32} {nR md : Nat → Nat} {en : Nat → Nat → Nat} (T : rTT hi nR md en) (e : ∀ k, hi' 46 k = hi 46 k) (x c : Int32) : md_hc hi' x c = dk_hc hi x c := by
  unfold md_hc dk_hc
  rw [ht_eq T e]
  by_cases h : dk_ht hi x = true
  · obtain ⟨j, hj, _, ej, _⟩ := dk_ht_1 h
    rw [tcl, ej, (T j hj).1.1, e]
  · rw [Bool.eq_false_iff.mpr h, Bool.false_and, Bool.false_and]
theorem hr_cases {hi hi' : Nat → Nat → Int32} {nR md : Nat → Nat} {en : Nat → Nat → Nat} (T : rTT hi nR md en) (e : ∀ k, hi' 46 k = hi 46 k) (e8 : ∀ k, hi' 48 k = hi 48 k) (x r : Int32) :
    (dk_hr hi x r = false ∧ md_hr hi' x r = false) ∨ (dk_hr hi x r = true ∧ md_hr hi' x r = true ∧ ∃ j p, j < 3 ∧ cl x = j ∧ p < nR j ∧ dk_pl hi x r = nI p ∧ cl (dk_pl hi x r) = p ∧ cl (hi (tcl x) 4) = nR j ∧ cl r = en j p) := by
  unfold dk_hr md_hr
  rw [ht_eq T e]
  by_cases h : dk_ht hi x = true
  · obtain ⟨j, hj, _, ej, _⟩ := dk_ht_1 h
    obtain ⟨_, ⟨b1, _, _, _⟩, ⟨m1, m2, m3, m4⟩, c1, _, _⟩ := T j hj
    have en1 : cl (hi (tcl x) 4) = nR j := by rw [tcl, ej, b1]; exact cl_nI (by omega)
    have ep : dk_pl hi x r = tb_from (hi (2 + 4 * j + 1)) r (nR j) 0 := by rw [dk_pl, en1, tcl, ej]
    rw [h]
    rcases tb_from_s (hi (2 + 4 * j + 1)) r (nR j) 0 with ⟨g1, g2⟩ | ⟨q, _, g2, g3, g4, _⟩
    · left
      refine ⟨by rw [ep, g1, decide_eq_false (p := (-1 : Int32) ≠ -1) (fun y => y rfl)]; rfl, ?_⟩
      rw [Bool.true_and, Bool.and_eq_false_iff]
      by_cases hr : decide (0 ≤ r ∧ r ≤ 59) = true
      · right
        obtain ⟨r', hr', e1, e2⟩ := md_60 hr
        refine decide_eq_false (fun hne => ?_)
        rw [ej, e2, e8] at hne
        obtain ⟨p, hp, e3⟩ := (m3 r' hr').mp hne
        exact g2 p (by omega) (by omega) (by rw [(c1 p hp).2, e3, e1])
      · left; exact Bool.eq_false_iff.mpr hr
    · right
      have hq : q < nR j := by omega
      have hr1 : r = nI (en j q) := by rw [← g4, (c1 q hq).2]
      have h60 := m2 q hq
      have er : cl r = en j q := by rw [hr1]; exact cl_nI (by omega)
      refine ⟨by rw [ep, g3, decide_eq_true (p := nI q ≠ -1) (nI_ne_m1 (by omega))]; rfl, ?_, j, q, hj, ej, hq, by rw [ep, g3], by rw [ep, g3]; exact cl_nI (by omega), en1, er⟩
      rw [decide_eq_true (p := 0 ≤ r ∧ r ≤ 59) ⟨by rw [hr1]; exact nI_pos' (by omega), by rw [hr1, show (59 : Int32) = nI 59 from rfl]; exact nI_le (by omega) (by omega)⟩, decide_eq_true (p := hi' 48 (60 * cl x + cl r) ≠ 0) (by rw [ej, er, e8]; exact (m3 _ h60).mpr ⟨q, hq, rfl⟩)]; rfl
  · left
    rw [Bool.eq_false_iff.mpr h]; exact ⟨rfl, rfl⟩
theorem in_eq {hi hi' : Nat → Nat → Int32} {nR md : Nat → Nat} {en : Nat → Nat → Nat} (T : rTT hi nR md en) (e : ∀ k, hi' 46 k = hi 46 k) (x : Int32) : md_ic hi' nR md x = in_c hi x := by
  unfold md_ic in_c
  rw [ht_eq T e]
  by_cases h : dk_ht hi x = true
  · obtain ⟨j, hj, _, ej, _⟩ := dk_ht_1 h
    obtain ⟨_, ⟨b1, b2, _, b4⟩, ⟨m1, m2, m3, m4⟩, _⟩ := T j hj
    rw [if_pos h, if_pos h, tcl, ej, b1, b2]
    have e1 : (nR j = 24 ∨ md j = 60) ↔ (24 ≤ nI (nR j) ∨ 60 ≤ nI (md j)) := by
      rw [show (24 : Int32) = nI 24 from rfl, show (60 : Int32) = nI 60 from rfl, nI_leI (by omega) (by omega), nI_leI (by omega) (by omega)]
      omega
    by_cases q : nR j = 24 ∨ md j = 60
    · rw [if_pos q, if_pos (e1.mp q)]
    · rw [if_neg q, if_neg (fun y => q (e1.mpr y))]
  · rw [if_neg h, if_neg h]
theorem in_0 {hi : Nat → Nat → Int32} {nR md : Nat → Nat} {en : Nat → Nat → Nat} (T : rTT hi nR md en) {x : Int32} (h : in_c hi x = 0) : ∃ j, j < 3 ∧ cl x = j ∧ nR j < 24 ∧ md j < 60 ∧ cl (hi (tcl x) 4) = nR j ∧ hi (tcl x) 5 = nI (md j) := by
  unfold in_c at h
  by_cases g : dk_ht hi x = true
  · obtain ⟨j, hj, _, ej, _⟩ := dk_ht_1 g
    obtain ⟨_, ⟨b1, b2, _, b4⟩, ⟨m1, m2, m3, m4⟩, _⟩ := T j hj
    rw [if_pos g, tcl, ej, b1, b2] at h
    by_cases q : 24 ≤ nI (nR j) ∨ 60 ≤ nI (md j)
    · rw [if_pos q] at h; exact absurd h (by decide)
    · rw [show (24 : Int32) = nI 24 from rfl, show (60 : Int32) = nI 60 from rfl, nI_leI (by omega) (by omega), nI_leI (by omega) (by omega)] at q
      exact ⟨j, hj, ej, by omega, by omega, by rw [tcl, ej, b1]; exact cl_nI (by omega), by rw [tcl, ej, b2]⟩
  · rw [if_neg g] at h; exact absurd h (by decide)
def inH (hi : Nat → Nat → Int32) (j n m : Nat) (a b c d : Int32) : Nat → Nat → Int32 := md_chg (md_put (dk_up (tb_add (dk_end hi) (2 + 4 * j) n a b c d) 45 0 0) j m a b c d)
theorem inH_ne (hi : Nat → Nat → Int32) {j n m : Nat} (a b c d : Int32) (hj : j < 3) {i k : Nat} (h0 : ¬ (i = 0 ∧ k = 4)) (h1 : ¬ (i = 45 ∧ (k = 0 ∨ k = 6))) (h2 : ¬ (i = 2 + 4 * j ∧ (k = 4 ∨ k = 5))) (h3 : ¬ (i = 2 + 4 * j + 1 ∧ k = n)) (h4 : ¬ (i = 2 + 4 * j + 2 ∧ n * 4 ≤ k ∧ k < n * 4 + 4)) (h5 : ¬ (i = 47 ∧ k = j)) (h6 : ¬ (i = 48 ∧ k = 60 * j + m)) (h7 : ¬ (i = 49 ∧ 240 * j + 4 * m ≤ k ∧ k < 240 * j + 4 * m + 4)) : inH hi j n m a b c d i k = hi i k := by
  simp (disch := omega) only [inH, md_chg, md_put, tb_add, dk_end_up, dk_up_ne]
theorem chg_R {hi H : Nat → Nat → Int32} {hf : Nat → Nat → UInt32} {sr : Nat → Option Nat} (h : rR hi hf sr) (ht : ∀ j, j < 3 → ∃ n md en, rT H j n md en) (e0 : H 0 4 = if hi 0 4 = 1 then 3 else hi 0 4) (e6 : H 45 6 = if hi 45 6 = 1 then 3 else hi 45 6) (e : ∀ i k, (13 < i ∧ i < 45) ∨ (i = 45 ∧ 6 < k) ∨ i = 46 ∨ 50 < i → H i k = hi i k) : rR H hf sr := by
  obtain ⟨ns, nc, nj, no, jt, a, b, s, d, f⟩ := h
  obtain ⟨s1, s2⟩ := s.chg (hi' := H) (fun i k y y1 y2 => e _ _ (by unfold sD at y; omega)) e0 e6
  refine ⟨ns, nc, nj, no, jt, ht, b.fr (fun i k y => e _ _ (by unfold qD at y; omega)), s1, ⟨fun x => ?_, fun x => absurd x s2⟩, f⟩
  have x0 : hi 45 6 = 0 := by
    rw [e6] at x
    by_cases q : hi 45 6 = 1
    · rw [if_pos q] at x; exact absurd x (by decide)
    · rw [if_neg q] at x; exact x
  rw [e _ _ (by omega), e _ _ (by omega)]; exact d.1 x0
theorem op_insert {hi : Nat → Nat → Int32} {hf : Nat → Nat → UInt32} {sr : Nat → Option Nat} (h : rR hi hf sr) {nR md : Nat → Nat} {en : Nat → Nat → Nat} (T : rTT hi nR md en) {x : Int32} (a b c d : Int32) (hk : in_c hi x = 0) : rR (md_chg (md_put (dk_up (tb_add (dk_end hi) (tcl x) (cl (hi (tcl x) 4)) a b c d) 45 0 0) (cl x) (md (cl x)) a b c d)) hf sr := by
  obtain ⟨j, hj, ej, hn, hm, en1, e5⟩ := in_0 T hk
  rw [en1, tcl, ej]
  rw [tcl, ej] at e5
  show rR (inH hi j (nR j) (md j) a b c d) hf sr
  refine chg_R h (fun j' hj' => ?_) (by simp (disch := omega) only [inH, md_chg, md_put, tb_add, dk_end_up, dk_up_ne, dk_up_same]) (by simp (disch := omega) only [inH, md_chg, md_put, tb_add, dk_end_up, dk_up_ne, dk_up_same]) (fun i k y => inH_ne hi a b c d hj (by omega) (by omega) (by omega) (by omega) (by omega) (by omega) (by omega) (by omega))
  by_cases e2 : j' = j
  · subst e2
    obtain ⟨⟨a1, a2, a3⟩, ⟨b1, b2, b3, b4⟩, ⟨m1, m2, m3, m4⟩, c1, c2, c3⟩ := T j' hj'
    have ne := fun i k => @inH_ne hi j' (nR j') (md j') a b c d hj' i k
    have h4 : inH hi j' (nR j') (md j') a b c d (2 + 4 * j') 4 = nI (nR j' + 1) := by simp (disch := omega) only [inH, md_chg, md_put, tb_add, dk_end_up, dk_up_ne, dk_up_same]
    have h5 : inH hi j' (nR j') (md j') a b c d (2 + 4 * j') 5 = nI (md j' + 1) := by
      simp (disch := omega) only [inH, md_chg, md_put, tb_add, dk_end_up, dk_up_ne, dk_up_same]
      rw [b2, nI_1]
    have h47 : inH hi j' (nR j') (md j') a b c d 47 j' = nI (md j' + 1) := by simp (disch := omega) only [inH, md_chg, md_put, dk_up_ne, dk_up_same]
    have h1 : inH hi j' (nR j') (md j') a b c d (2 + 4 * j' + 1) (nR j') = nI (md j') := by
      simp (disch := omega) only [inH, md_chg, md_put, tb_add, dk_end_up, dk_up_ne, dk_up_same]
      exact b2
    have h48 : inH hi j' (nR j') (md j') a b c d 48 (60 * j' + md j') = 1 := by simp (disch := omega) only [inH, md_chg, md_put, dk_up_ne, dk_up_same]
    refine ⟨nR j' + 1, md j' + 1, fun p => if p = nR j' then md j' else en j' p, ⟨?_, ?_, ?_⟩, ⟨h4, h5, h47, by omega⟩, ⟨fun p q hpq hq => ?_, fun p hp => ?_, fun r hr => ?_, by omega⟩, fun p hp => ?_, fun p c' hp hc => ?_, fun c' k hc hk => ?_⟩
    · rw [ne _ _ (by omega) (by omega) (by omega) (by omega) (by omega) (by omega) (by omega) (by omega), ne _ _ (by omega) (by omega) (by omega) (by omega) (by omega) (by omega) (by omega) (by omega)]; exact a1
    · rw [ne _ _ (by omega) (by omega) (by omega) (by omega) (by omega) (by omega) (by omega) (by omega)]; exact a2
    · rw [ne _ _ (by omega) (by omega) (by omega) (by omega) (by omega) (by omega) (by omega) (by omega)]; exact a3
    · show (if p = nR j' then md j' else en j' p) < (if q = nR j' then md j' else en j' q)
      rw [if_neg (by omega)]
      by_cases q2 : q = nR j'
      · rw [if_pos q2]; exact (c1 p (by omega)).1
      · rw [if_neg q2]; exact m1 p q hpq (by omega)
    · show (if p = nR j' then md j' else en j' p) < 60
      by_cases q2 : p = nR j'
      · rw [if_pos q2]; exact hm
      · rw [if_neg q2]; exact m2 p (by omega)
    · by_cases q2 : r = md j'
      · rw [q2, h48]
        exact ⟨fun _ => ⟨nR j', by omega, if_pos rfl⟩, fun _ => by decide⟩
      · rw [ne _ _ (by omega) (by omega) (by omega) (by omega) (by omega) (by omega) (by omega) (by omega), m3 r hr]
        refine ⟨fun ⟨p, hp, e⟩ => ⟨p, by omega, by show (if p = nR j' then md j' else en j' p) = r; rw [if_neg (by omega)]; exact e⟩, fun ⟨p, hp, e⟩ => ?_⟩
        have e : (if p = nR j' then md j' else en j' p) = r := e
        by_cases q3 : p = nR j'
        · rw [if_pos q3] at e; exact absurd e.symm q2
        · rw [if_neg q3] at e; exact ⟨p, by omega, e⟩
    · show (if p = nR j' then md j' else en j' p) < md j' + 1 ∧ _ = nI (if p = nR j' then md j' else en j' p)
      by_cases q3 : p = nR j'
      · rw [if_pos q3, q3]; exact ⟨by omega, h1⟩
      · rw [if_neg q3, ne _ _ (by omega) (by omega) (by omega) (by omega) (by omega) (by omega) (by omega) (by omega)]
        have := c1 p (by omega)
        exact ⟨by omega, this.2⟩
    · show _ = inH hi j' (nR j') (md j') a b c d 49 (240 * j' + 4 * (if p = nR j' then md j' else en j' p) + c')
      by_cases q3 : p = nR j'
      · rw [if_pos q3, q3]
        rcases (by omega : c' = 0 ∨ c' = 1 ∨ c' = 2 ∨ c' = 3) with rfl | rfl | rfl | rfl
        · simp (disch := omega) only [inH, md_chg, md_put, tb_add, dk_end_up, Nat.add_zero, dk_up_ne, dk_up_same]
        · simp (disch := omega) only [inH, md_chg, md_put, tb_add, dk_end_up, dk_up_ne, dk_up_same]
        · simp (disch := omega) only [inH, md_chg, md_put, tb_add, dk_end_up, dk_up_ne, dk_up_same]
        · simp (disch := omega) only [inH, md_chg, md_put, tb_add, dk_end_up, dk_up_ne, dk_up_same]
      · have := c1 p (by omega)
        rw [if_neg q3, ne _ _ (by omega) (by omega) (by omega) (by omega) (by omega) (by omega) (by omega) (by omega), ne _ _ (by omega) (by omega) (by omega) (by omega) (by omega) (by omega) (by omega) (by omega)]
        exact c2 p c' (by omega) hc
    · rw [ne _ _ (by omega) (by omega) (by omega) (by omega) (by omega) (by omega) (by omega) (by omega), ne _ _ (by omega) (by omega) (by omega) (by omega) (by omega) (by omega) (by omega) (by omega)]
      exact c3 c' k hc hk
  · refine ⟨nR j', md j', en j', (T j' hj').fr (fun i k y => inH_ne hi a b c d hj ?_ ?_ ?_ ?_ ?_ ?_ ?_ ?_)⟩ <;> (unfold tD at y; omega)
def deH (hi : Nat → Nat → Int32) (j n p r : Nat) : Nat → Nat → Int32 := md_chg (dk_up (dk_up (tb_rem (dk_end hi) (2 + 4 * j) n p) 45 0 0) 48 (60 * j + r) 0)
theorem dk_cp_out (hi : Nat → Nat → Int32) {a s d n i j : Nat} (h : ¬ (i = a ∧ d ≤ j ∧ j < d + n)) : dk_cp hi a s d n i j = hi i j := by
  unfold dk_cp va_cpy
  by_cases e : i = a
  · subst e; rw [if_pos rfl, if_neg (by omega)]
  · rw [if_neg e]
theorem dk_cp_in (hi : Nat → Nat → Int32) {a s d n j : Nat} (h : d ≤ j ∧ j < d + n) : dk_cp hi a s d n a j = hi a (s + (j - d)) := by
  unfold dk_cp va_cpy
  rw [if_pos rfl, if_pos h]
theorem deH_ne (hi : Nat → Nat → Int32) {j n p r : Nat} (hj : j < 3) {i k : Nat} (h0 : ¬ (i = 0 ∧ k = 4)) (h1 : ¬ (i = 45 ∧ (k = 0 ∨ k = 6))) (h2 : ¬ (i = 2 + 4 * j ∧ k = 4)) (h3 : ¬ (i = 2 + 4 * j + 1 ∧ p ≤ k)) (h4 : ¬ (i = 2 + 4 * j + 2 ∧ p * 4 ≤ k)) (h6 : ¬ (i = 48 ∧ k = 60 * j + r)) : deH hi j n p r i k = hi i k := by
  simp (disch := omega) only [deH, md_chg, tb_rem, dk_end_up, dk_up_ne, dk_cp_out]
theorem op_delete {hi : Nat → Nat → Int32} {hf : Nat → Nat → UInt32} {sr : Nat → Option Nat} (h : rR hi hf sr) {nR md : Nat → Nat} {en : Nat → Nat → Nat} (T : rTT hi nR md en) {x r : Int32} {j p : Nat} (hj : j < 3) (ej : cl x = j) (hp : p < nR j) (ep : cl (dk_pl hi x r) = p) (en1 : cl (hi (tcl x) 4) = nR j) (er : cl r = en j p) : rR (md_chg (dk_up (dk_up (tb_rem (dk_end hi) (tcl x) (cl (hi (tcl x) 4)) (cl (dk_pl hi x r))) 45 0 0) 48 (60 * cl x + cl r) 0)) hf sr := by
  rw [en1, ep, er, tcl, ej]
  show rR (deH hi j (nR j) p (en j p)) hf sr
  refine chg_R h (fun j' hj' => ?_) (by simp (disch := omega) only [deH, md_chg, tb_rem, dk_end_up, dk_up_ne, dk_up_same, dk_cp_out]) (by simp (disch := omega) only [deH, md_chg, tb_rem, dk_end_up, dk_up_ne, dk_up_same, dk_cp_out]) (fun i k y => deH_ne hi hj (by omega) (by omega) (by omega) (by omega) (by omega) (by omega))
  by_cases e2 : j' = j
  · subst e2
    obtain ⟨⟨a1, a2, a3⟩, ⟨b1, b2, b3, b4⟩, ⟨m1, m2, m3, m4⟩, c1, c2, c3⟩ := T j' hj'
    have ne := fun i k => @deH_ne hi j' (nR j') p (en j' p) hj' i k
    have h4 : deH hi j' (nR j') p (en j' p) (2 + 4 * j') 4 = nI (nR j' - 1) := by simp (disch := omega) only [deH, md_chg, tb_rem, dk_up_ne, dk_up_same]
    have h1 : ∀ q, p ≤ q → q < nR j' - 1 → deH hi j' (nR j') p (en j' p) (2 + 4 * j' + 1) q = hi (2 + 4 * j' + 1) (q + 1) := fun q h1 h2 => by
      simp (disch := omega) only [deH, md_chg, tb_rem, dk_end_up, dk_up_ne, dk_cp_out, dk_cp_in]
      rw [show p + 1 + (q - p) = q + 1 by omega]
    have h2 : ∀ q c, p ≤ q → q < nR j' - 1 → c < 4 → deH hi j' (nR j') p (en j' p) (2 + 4 * j' + 2) (q * 4 + c) = hi (2 + 4 * j' + 2) ((q + 1) * 4 + c) := fun q c h1 h2 h3 => by
      simp (disch := omega) only [deH, md_chg, tb_rem, dk_end_up, dk_up_ne, dk_cp_out, dk_cp_in]
      rw [show (p + 1) * 4 + (q * 4 + c - p * 4) = (q + 1) * 4 + c by omega]
    have h48 : deH hi j' (nR j') p (en j' p) 48 (60 * j' + en j' p) = 0 := by simp (disch := omega) only [deH, md_chg, dk_up_ne, dk_up_same]
    refine ⟨nR j' - 1, md j', fun q => if q < p then en j' q else en j' (q + 1), ⟨?_, ?_, ?_⟩, ⟨h4, ?_, ?_, b4⟩, ⟨fun u v huv hv => ?_, fun u hu => ?_, fun s hs => ?_, by omega⟩, fun q hq => ?_, fun q c' hq hc => ?_, fun c' k hc hk => ?_⟩
    · rw [ne _ _ (by omega) (by omega) (by omega) (by omega) (by omega) (by omega), ne _ _ (by omega) (by omega) (by omega) (by omega) (by omega) (by omega)]; exact a1
    · rw [ne _ _ (by omega) (by omega) (by omega) (by omega) (by omega) (by omega)]; exact a2
    · rw [ne _ _ (by omega) (by omega) (by omega) (by omega) (by omega) (by omega)]; exact a3
    · rw [ne _ _ (by omega) (by omega) (by omega) (by omega) (by omega) (by omega)]; exact b2
    · rw [ne _ _ (by omega) (by omega) (by omega) (by omega) (by omega) (by omega)]; exact b3
    · show (if u < p then en j' u else en j' (u + 1)) < (if v < p then en j' v else en j' (v + 1))
      by_cases q1 : u < p
      · rw [if_pos q1]
        by_cases q2 : v < p
        · rw [if_pos q2]; exact m1 u v huv (by omega)
        · rw [if_neg q2]; exact m1 u (v + 1) (by omega) (by omega)
      · rw [if_neg q1, if_neg (by omega)]; exact m1 (u + 1) (v + 1) (by omega) (by omega)
    · show (if u < p then en j' u else en j' (u + 1)) < 60
      by_cases q1 : u < p
      · rw [if_pos q1]; exact m2 u (by omega)
      · rw [if_neg q1]; exact m2 (u + 1) (by omega)
    · have inj : ∀ u v, u < nR j' → v < nR j' → en j' u = en j' v → u = v := fun u v hu hv e => by
        rcases Nat.lt_trichotomy u v with g | g | g
        · have := m1 u v g hv; omega
        · exact g
        · have := m1 v u g hu; omega
      by_cases q2 : s = en j' p
      · rw [q2, h48]
        refine ⟨fun y => absurd rfl y, fun ⟨u, hu, e⟩ => ?_⟩
        have e : (if u < p then en j' u else en j' (u + 1)) = en j' p := e
        by_cases q1 : u < p
        · rw [if_pos q1] at e; have := inj u p (by omega) hp e; omega
        · rw [if_neg q1] at e; have := inj (u + 1) p (by omega) hp e; omega
      · rw [ne _ _ (by omega) (by omega) (by omega) (by omega) (by omega) (by omega), m3 s hs]
        refine ⟨fun ⟨u, hu, e⟩ => ?_, fun ⟨u, hu, e⟩ => ?_⟩
        · by_cases q1 : u < p
          · exact ⟨u, by omega, by show (if u < p then en j' u else en j' (u + 1)) = s; rw [if_pos q1]; exact e⟩
          · have q3 : u ≠ p := fun g => q2 (by rw [← e, g])
            exact ⟨u - 1, by omega, by show (if u - 1 < p then en j' (u - 1) else en j' (u - 1 + 1)) = s; rw [if_neg (by omega), show u - 1 + 1 = u by omega]; exact e⟩
        · have e : (if u < p then en j' u else en j' (u + 1)) = s := e
          by_cases q1 : u < p
          · rw [if_pos q1] at e; exact ⟨u, by omega, e⟩
          · rw [if_neg q1] at e; exact ⟨u + 1, by omega, e⟩
    · show (if q < p then en j' q else en j' (q + 1)) < md j' ∧ _ = nI (if q < p then en j' q else en j' (q + 1))
      by_cases q1 : q < p
      · rw [if_pos q1, ne _ _ (by omega) (by omega) (by omega) (by omega) (by omega) (by omega)]; exact c1 q (by omega)
      · rw [if_neg q1, h1 q (by omega) hq]; exact c1 (q + 1) (by omega)
    · show _ = deH hi j' (nR j') p (en j' p) 49 (240 * j' + 4 * (if q < p then en j' q else en j' (q + 1)) + c')
      rw [ne 49 _ (by omega) (by omega) (by omega) (by omega) (by omega) (by omega)]
      by_cases q1 : q < p
      · rw [if_pos q1, ne _ _ (by omega) (by omega) (by omega) (by omega) (by omega) (by omega)]; exact c2 q c' (by omega) hc
      · rw [if_neg q1, h2 q c' (by omega) hq hc]; exact c2 (q + 1) c' (by omega) hc
    · rw [ne _ _ (by omega) (by omega) (by omega) (by omega) (by omega) (by omega), ne _ _ (by omega) (by omega) (by omega) (by omega) (by omega) (by omega)]
      exact c3 c' k hc hk
  · have := (T j hj).2.2.1.2.1 p hp
    refine ⟨nR j', md j', en j', (T j' hj').fr (fun i k y => deH_ne hi hj ?_ ?_ ?_ ?_ ?_ ?_)⟩ <;> (unfold tD at y; omega)
def upH (hi : Nat → Nat → Int32) (j p r c : Nat) (v : Int32) : Nat → Nat → Int32 := md_chg (dk_up (dk_up (dk_up (dk_end hi) (2 + 4 * j + 2) (p * 4 + c) v) 45 0 0) 49 (240 * j + 4 * r + c) v)
theorem upH_ne (hi : Nat → Nat → Int32) {j p r c : Nat} (v : Int32) {i k : Nat} (h0 : ¬ (i = 0 ∧ k = 4)) (h1 : ¬ (i = 45 ∧ (k = 0 ∨ k = 6))) (h2 : ¬ (i = 2 + 4 * j + 2 ∧ k = p * 4 + c)) (h3 : ¬ (i = 49 ∧ k = 240 * j + 4 * r + c)) : upH hi j p r c v i k = hi i k := by
  simp (disch := omega) only [upH, md_chg, dk_end_up, dk_up_ne]
theorem op_update {hi : Nat → Nat → Int32} {hf : Nat → Nat → UInt32} {sr : Nat → Option Nat} (h : rR hi hf sr) {nR md : Nat → Nat} {en : Nat → Nat → Nat} (T : rTT hi nR md en) {x r c : Int32} {j p : Nat} (v : Int32) (hj : j < 3) (ej : cl x = j) (hp : p < nR j) (ep : cl (dk_pl hi x r) = p) (er : cl r = en j p) (hc4 : cl c < 4) : rR (md_chg (dk_up (dk_up (dk_up (dk_end hi) (tcl x + 2) (cl (dk_pl hi x r) * 4 + cl c) v) 45 0 0) 49 (240 * cl x + 4 * cl r + cl c) v)) hf sr := by
  rw [ep, er, tcl, ej]
  show rR (upH hi j p (en j p) (cl c) v) hf sr
  refine chg_R h (fun j' hj' => ?_) (by simp (disch := omega) only [upH, md_chg, dk_end_up, dk_up_ne, dk_up_same]) (by simp (disch := omega) only [upH, md_chg, dk_end_up, dk_up_ne, dk_up_same]) (fun i k y => upH_ne hi v (by omega) (by omega) (by omega) (by omega))
  by_cases e2 : j' = j
  · subst e2
    obtain ⟨⟨a1, a2, a3⟩, ⟨b1, b2, b3, b4⟩, ⟨m1, m2, m3, m4⟩, c1, c2, c3⟩ := T j' hj'
    have ne := fun i k => @upH_ne hi j' p (en j' p) (cl c) v i k
    refine ⟨nR j', md j', en j', ⟨?_, ?_, ?_⟩, ⟨?_, ?_, ?_, b4⟩, ⟨m1, m2, fun s hs => ?_, m4⟩, fun q hq => ⟨(c1 q hq).1, ?_⟩, fun q c' hq hc => ?_, fun c' k hc hk => ?_⟩
    · rw [ne _ _ (by omega) (by omega) (by omega) (by omega), ne _ _ (by omega) (by omega) (by omega) (by omega)]; exact a1
    · rw [ne _ _ (by omega) (by omega) (by omega) (by omega)]; exact a2
    · rw [ne _ _ (by omega) (by omega) (by omega) (by omega)]; exact a3
    · rw [ne _ _ (by omega) (by omega) (by omega) (by omega)]; exact b1
    · rw [ne _ _ (by omega) (by omega) (by omega) (by omega)]; exact b2
    · rw [ne _ _ (by omega) (by omega) (by omega) (by omega)]; exact b3
    · rw [ne _ _ (by omega) (by omega) (by omega) (by omega)]; exact m3 s hs
    · rw [ne _ _ (by omega) (by omega) (by omega) (by omega)]; exact (c1 q hq).2
    · by_cases g : q = p ∧ c' = cl c
      · rw [g.1, g.2]
        simp (disch := omega) only [upH, md_chg, dk_end_up, dk_up_ne, dk_up_same]
      · have g2 : ¬ 240 * j' + 4 * en j' q + c' = 240 * j' + 4 * en j' p + cl c := fun y => g (by
          have y1 : en j' q = en j' p := by omega
          refine ⟨?_, by omega⟩
          rcases Nat.lt_trichotomy q p with z | z | z
          · have := m1 q p z hp; omega
          · exact z
          · have := m1 p q z hq; omega)
        rw [ne _ _ (by omega) (by omega) (by omega) (by omega), ne _ _ (by omega) (by omega) (by omega) (by omega)]; exact c2 q c' hq hc
    · rw [ne _ _ (by omega) (by omega) (by omega) (by omega), ne _ _ (by omega) (by omega) (by omega) (by omega)]
      exact c3 c' k hc hk
  · have := (T j hj).2.2.1.2.1 p hp
    refine ⟨nR j', md j', en j', (T j' hj').fr (fun i k y => upH_ne hi v ?_ ?_ ?_ ?_)⟩ <;> (unfold tD at y; omega)
def ixH (hi : Nat → Nat → Int32) (j c k : Nat) (v : Int32) : Nat → Nat → Int32 := md_chg (dk_up (dk_up (dk_up (dk_end hi) (2 + 4 * j + 3) (c * 2 + k) v) 45 0 0) 50 (8 * j + 4 * k + c) v)
theorem ixH_ne (hi : Nat → Nat → Int32) {j c k : Nat} (v : Int32) {i l : Nat} (h0 : ¬ (i = 0 ∧ l = 4)) (h1 : ¬ (i = 45 ∧ (l = 0 ∨ l = 6))) (h2 : ¬ (i = 2 + 4 * j + 3 ∧ l = c * 2 + k)) (h3 : ¬ (i = 50 ∧ l = 8 * j + 4 * k + c)) : ixH hi j c k v i l = hi i l := by
  simp (disch := omega) only [ixH, md_chg, dk_end_up, dk_up_ne]
theorem hc_1 {hi : Nat → Nat → Int32} {nR md : Nat → Nat} {en : Nat → Nat → Nat} (T : rTT hi nR md en) {x c : Int32} (h : dk_hc hi x c = true) : ∃ j, j < 3 ∧ cl x = j ∧ cl c < 4 := by
  unfold dk_hc at h
  rw [Bool.and_eq_true] at h
  obtain ⟨j, hj, _, ej, _⟩ := dk_ht_1 h.1
  have h2 := of_decide_eq_true h.2
  have h3 : c < 4 := Int32.lt_of_lt_of_le h2.2 (by rw [tcl, ej]; exact T.c4 j hj)
  rcases pk_ix c (n := 4) (by decide) with q | q | ⟨i, hi, rfl⟩
  · exact absurd h2.1 (Int32.not_le.mpr q)
  · exact absurd h3 (Int32.not_lt.mpr q)
  · exact ⟨j, hj, ej, by rw [cl_nI (by omega)]; exact hi⟩
theorem ix_eq {hi hi' : Nat → Nat → Int32} {nR md : Nat → Nat} {en : Nat → Nat → Nat} (T : rTT hi nR md en) (e : ∀ k, hi' 46 k = hi 46 k) (e5 : ∀ k, hi' 50 k = hi 50 k) (x c k on : Int32) : mx_ok hi' x c k on = ix_ok hi x c k on := by
  unfold mx_ok ix_ok
  rw [hc_eq T e]
  by_cases h : dk_hc hi x c = true
  · obtain ⟨j, hj, ej, hc⟩ := hc_1 T h
    have ek : decide (0 ≤ k ∧ k ≤ 1) = decide (k = 0 ∨ k = 1) := by
      refine decide_eq_decide.mpr ⟨fun y => ?_, fun y => ?_⟩
      · obtain ⟨i, hi, e1, _⟩ := md_2 (decide_eq_true y)
        rcases (by omega : i = 0 ∨ i = 1) with rfl | rfl
        · exact Or.inl e1
        · exact Or.inr e1
      · rcases y with rfl | rfl <;> decide
    rw [ek]
    by_cases g : decide (k = 0 ∨ k = 1) = true
    · have g2 : cl k < 2 := by
        rcases of_decide_eq_true g with rfl | rfl <;> decide
      rw [mx_at, ix_at, e5, tcl, ej, ((T j hj).2.2.2.2.2 (cl c) (cl k) hc g2).1]
    · rw [Bool.eq_false_iff.mpr g, Bool.false_and, Bool.false_and]
  · rw [Bool.eq_false_iff.mpr h, Bool.false_and, Bool.false_and]
theorem ix_1 {hi : Nat → Nat → Int32} {nR md : Nat → Nat} {en : Nat → Nat → Nat} (T : rTT hi nR md en) {x c k on : Int32} (h : ix_ok hi x c k on = true) : ∃ j, j < 3 ∧ cl x = j ∧ cl c < 4 ∧ cl k < 2 := by
  unfold ix_ok at h
  rw [Bool.and_eq_true, Bool.and_eq_true] at h
  obtain ⟨j, hj, ej, hc⟩ := hc_1 T h.1
  exact ⟨j, hj, ej, hc, by rcases of_decide_eq_true h.2.1 with rfl | rfl <;> decide⟩
theorem op_index {hi : Nat → Nat → Int32} {hf : Nat → Nat → UInt32} {sr : Nat → Option Nat} (h : rR hi hf sr) {nR md : Nat → Nat} {en : Nat → Nat → Nat} (T : rTT hi nR md en) {x c k on : Int32} (ho : on = 0 ∨ on = 1) (hk : ix_ok hi x c k on = true) : rR (md_chg (dk_up (dk_up (ix_hi hi x c k on) 45 0 0) 50 (mx_at x c k) on)) hf sr := by
  obtain ⟨j, hj, ej, hc4, hk2⟩ := ix_1 T hk
  rw [ix_hi, mx_at, ix_at, tcl, ej]
  show rR (ixH hi j (cl c) (cl k) on) hf sr
  refine chg_R h (fun j' hj' => ?_) (by simp (disch := omega) only [ixH, md_chg, dk_end_up, dk_up_ne, dk_up_same]) (by simp (disch := omega) only [ixH, md_chg, dk_end_up, dk_up_ne, dk_up_same]) (fun i k y => ixH_ne hi on (by omega) (by omega) (by omega) (by omega))
  by_cases e2 : j' = j
  · subst e2
    obtain ⟨⟨a1, a2, a3⟩, ⟨b1, b2, b3, b4⟩, ⟨m1, m2, m3, m4⟩, c1, c2, c3⟩ := T j' hj'
    have ne := fun i l => @ixH_ne hi j' (cl c) (cl k) on i l
    refine ⟨nR j', md j', en j', ⟨?_, ?_, ?_⟩, ⟨?_, ?_, ?_, b4⟩, ⟨m1, m2, fun s hs => ?_, m4⟩, fun q hq => ⟨(c1 q hq).1, ?_⟩, fun q c' hq hc => ?_, fun c' l hc hl => ?_⟩
    · rw [ne _ _ (by omega) (by omega) (by omega) (by omega), ne _ _ (by omega) (by omega) (by omega) (by omega)]; exact a1
    · rw [ne _ _ (by omega) (by omega) (by omega) (by omega)]; exact a2
    · rw [ne _ _ (by omega) (by omega) (by omega) (by omega)]; exact a3
    · rw [ne _ _ (by omega) (by omega) (by omega) (by omega)]; exact b1
    · rw [ne _ _ (by omega) (by omega) (by omega) (by omega)]; exact b2
    · rw [ne _ _ (by omega) (by omega) (by omega) (by omega)]; exact b3
    · rw [ne _ _ (by omega) (by omega) (by omega) (by omega)]; exact m3 s hs
    · rw [ne _ _ (by omega) (by omega) (by omega) (by omega)]; exact (c1 q hq).2
    · rw [ne _ _ (by omega) (by omega) (by omega) (by omega), ne _ _ (by omega) (by omega) (by omega) (by omega)]; exact c2 q c' hq hc
    · by_cases g : c' = cl c ∧ l = cl k
      · rw [g.1, g.2]
        have x1 : ixH hi j' (cl c) (cl k) on 50 (8 * j' + 4 * cl k + cl c) = on := by simp (disch := omega) only [ixH, md_chg, dk_up_ne, dk_up_same]
        have x2 : ixH hi j' (cl c) (cl k) on (2 + 4 * j' + 3) (cl c * 2 + cl k) = on := by simp (disch := omega) only [ixH, md_chg, dk_up_ne, dk_up_same]
        rw [x1, x2]; exact ⟨rfl, ho⟩
      · rw [ne _ _ (by omega) (by omega) (by omega) (by omega), ne _ _ (by omega) (by omega) (by omega) (by omega)]; exact c3 c' l hc hl
  · refine ⟨nR j', md j', en j', (T j' hj').fr (fun i k y => ixH_ne hi on ?_ ?_ ?_ ?_)⟩ <;> (unfold tD at y; omega)
