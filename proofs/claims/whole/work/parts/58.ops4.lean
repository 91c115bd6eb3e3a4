/-! ===== looking and running keep the relation ===== -/
theorem look_eq {hi hi' : Nat → Nat → Int32} {sr : Nat → Option Nat} {nR md : Nat → Nat} {en : Nat → Nat → Nat} (T : rTT hi nR md en) {ns nc nj no : Nat} {jt : Nat → Nat} (b : rQ hi sr ns nc nj no jt) (s : rS hi ns no) (x : Int32) :
    (if x < 3 then (if x = 0 then hi 45 6 else if x = 1 then hi 45 27 else if x = 2 then hi 45 28 else -1) else if x < 6 ∧ 0 < hi 46 (cl (x - 3)) then nI (nR (cl (x - 3))) else -1) = lk_v hi x := by
  obtain ⟨s1, s2, s3, s4, a, R, r1, r2, r3, r4, r5⟩ := s
  unfold lk_v
  have tb : ∀ j, j < 3 → (if 0 < hi 46 j then nI (nR j) else -1) = (if dk_ht hi (nI j) = true then hi (tcl (nI j)) 4 else -1) := fun j hj => by
    have e1 : dk_ht hi (nI j) = decide (0 < hi 46 j) := by
      rw [← ht_eq T (fun _ => rfl)]
      unfold md_ht
      refine decide_eq_decide.mpr ⟨fun y => ?_, fun y => ?_⟩
      · have := y.2.2; rw [cl_nI (by omega)] at this; exact this
      · exact ⟨nI_pos' (by omega), by rw [show (3 : Int32) = nI 3 from rfl]; exact nI_lt hj (by omega), by rw [cl_nI (by omega)]; exact y⟩
    rw [e1, tcl, cl_nI (by omega), (T j hj).2.1.1]
    by_cases q : 0 < hi 46 j
    · rw [if_pos q, if_pos (decide_eq_true q)]
    · rw [if_neg q, if_neg (by rw [decide_eq_false q]; decide)]
  rcases pk_ix x (n := 6) (by decide) with q | q | ⟨i, hi6, rfl⟩
  · rw [if_pos (Int32.lt_trans q (by decide)), if_pos (Or.inl q), if_neg (fun y => absurd (y ▸ q) (by decide)), if_neg (fun y => absurd (y ▸ q) (by decide)), if_neg (fun y => absurd (y ▸ q) (by decide))]
  · rw [if_neg (Int32.not_lt.mpr (Int32.le_trans (by decide) q)), if_neg (fun y => absurd y.1 (Int32.not_lt.mpr q)), if_pos (show x < 0 ∨ 6 ≤ x from Or.inr q)]
  · rcases (show i = 0 ∨ i = 1 ∨ i = 2 ∨ ∃ j, j < 3 ∧ i = j + 3 by
      by_cases g : i < 3
      · omega
      · exact Or.inr (Or.inr (Or.inr ⟨i - 3, by omega, by omega⟩))) with rfl | rfl | rfl | ⟨j, hj, rfl⟩
    · rw [if_pos (by decide), if_pos (by decide), if_neg (by decide), if_pos (by decide)]; exact s1.symm
    · rw [if_pos (by decide), if_neg (by decide), if_pos (by decide), if_neg (by decide), if_neg (by decide), if_pos (by decide)]; exact s2.symm
    · rw [if_pos (by decide), if_neg (by decide), if_neg (by decide), if_pos (by decide), if_neg (by decide), if_neg (by decide), if_neg (by decide), if_pos (by decide), s1]
      by_cases q : hi 45 6 = 2
      · rw [if_pos q, (r5 q).1, r1, b.2.2.2.2.2.2.1]
        by_cases g : nI a < hi 45 17
        · rw [if_pos g, if_neg (Int32.not_lt.mpr (Int32.le_of_lt g))]
        · rw [if_neg g]
          by_cases g2 : hi 45 17 < nI a
          · rw [if_pos g2]
          · rw [if_neg g2]; exact Int32.le_antisymm (Int32.not_lt.mp g) (Int32.not_lt.mp g2)
      · rw [if_neg q, r4 q, r1]
    · have e1 : ¬ nI (j + 3) < 3 := by rw [show (3 : Int32) = nI 3 from rfl]; exact nI_nlt (by omega) (by omega)
      have e2 : nI (j + 3) - 3 = nI j := by rw [show (3 : Int32) = nI 3 from rfl, pk_sub (by omega)]; rfl
      have e3 : ¬ (nI (j + 3) < 0 ∨ 6 ≤ nI (j + 3)) := fun y => by
        rcases y with y | y
        · exact nI_pos (by omega) y
        · rw [show (6 : Int32) = nI 6 from rfl] at y
          exact nI_ge (by omega) (by omega) y
      have e4 : ∀ c, c < 3 → ¬ nI (j + 3) = nI c := fun c hc y => by
        rw [nI_eq (by omega) (by omega)] at y; omega
      have e5 : nI (j + 3) < 6 := by rw [show (6 : Int32) = nI 6 from rfl]; exact nI_lt (by omega) (by omega)
      rw [if_neg e1, if_neg e3, if_neg (show ¬ nI (j + 3) = 0 from e4 0 (by omega)), if_neg (show ¬ nI (j + 3) = 1 from e4 1 (by omega)), if_neg (show ¬ nI (j + 3) = 2 from e4 2 (by omega)), e2, cl_nI (by omega), ← tb j hj]
      by_cases q : 0 < hi 46 j
      · rw [if_pos ⟨e5, q⟩, if_pos q]
      · rw [if_neg (fun y => q y.2), if_neg q]
theorem ex_eq {hi : Nat → Nat → Int32} {sr : Nat → Option Nat} {ns nc nj no : Nat} {jt : Nat → Nat} (b : rQ hi sr ns nc nj no jt) (s : rS hi ns no) (k w : Int32) : mex_ok hi k w = ex_ok hi k w ∧ (ex_ok hi k w = true → mex_v hi k w = ex_v hi k w) := by
  have e : mex_ok hi k w = ex_ok hi k w := by
    unfold mex_ok ex_ok
    rw [s.1, b.1.1, b.1.2.1]
  refine ⟨e, fun h => ?_⟩
  unfold ex_ok at h
  rw [Bool.and_eq_true, Bool.and_eq_true] at h
  have h0 := of_decide_eq_true h.1
  have h1 := of_decide_eq_true h.2.1
  rw [b.1.1] at h1
  have h3 := b.1.2.2.1
  obtain ⟨k', hk', rfl⟩ : ∃ k', k' < ns ∧ k = nI k' := by
    rcases pk_ix k (n := ns) (by omega) with q | q | q
    · exact absurd h1.1 (Int32.not_le.mpr q)
    · exact absurd h1.2 (Int32.not_lt.mpr q)
    · exact q
  obtain ⟨p1, p2, p3, p4⟩ := s.2.2.2.1 (by rw [← s.1]; exact h0) k' hk'
  unfold mex_v ex_v
  rw [cl_nI (by omega), p1, p2, p3, p4]
theorem an_eq {hi : Nat → Nat → Int32} {sr : Nat → Option Nat} {ns nc nj no : Nat} {jt : Nat → Nat} (b : rQ hi sr ns nc nj no jt) (s : hi 0 4 = hi 45 6) {a : Nat} {R : Nat → Nat} (r : rA hi no a R) (i k : Int32) : man_c hi i k = an_c hi i k ∧ (an_c hi i k = 0 → hi 60 (4 * cl i + cl k) = hi 43 (R (cl i) * 4 + cl k)) := by
  obtain ⟨r1, r2, r3, r4, r5⟩ := r
  have eg : hi 45 6 = 2 → gvn hi = hi 45 28 := fun q => by
    unfold gvn
    rw [(r5 q).1, r1, b.2.2.2.2.2.2.1]
    by_cases g : nI a < hi 45 17
    · rw [if_pos g, if_neg (Int32.not_lt.mpr (Int32.le_of_lt g))]
    · rw [if_neg g]
      by_cases g2 : hi 45 17 < nI a
      · rw [if_pos g2]
      · rw [if_neg g2]; exact Int32.le_antisymm (Int32.not_lt.mp g2) (Int32.not_lt.mp g)
  have e : man_c hi i k = an_c hi i k := by
    unfold man_c an_c
    rw [s]
    by_cases q : hi 45 6 = 2
    · rw [if_pos q, if_pos q, eg q, b.2.2.2.1.1, b.2.2.2.1.2.1]
    · rw [if_neg q, if_neg q]
  refine ⟨e, fun h => ?_⟩
  unfold an_c at h
  rw [s] at h
  by_cases q : hi 45 6 = 2
  · rw [if_pos q, eg q, b.2.2.2.1.1] at h
    by_cases g : (0 ≤ i ∧ i < hi 45 28) ∧ 0 ≤ k ∧ k < nI no
    · have l1 : hi 45 28 ≤ nI a := by
        rw [(r5 q).1]
        by_cases g : nI a < hi 45 17
        · rw [if_pos g]; exact Int32.le_refl _
        · rw [if_neg g]; exact Int32.not_lt.mp g
      have hno := b.2.2.2.1.2.2.1
      obtain ⟨i', hi', rfl⟩ : ∃ i', i' < a ∧ i = nI i' := by
        rcases pk_ix i (n := a) (by omega) with y | y | y
        · exact absurd g.1.1 (Int32.not_le.mpr y)
        · exact absurd (Int32.lt_of_lt_of_le g.1.2 l1) (Int32.not_lt.mpr y)
        · exact y
      obtain ⟨k', hk', rfl⟩ : ∃ k', k' < no ∧ k = nI k' := by
        rcases pk_ix k (n := no) (by omega) with y | y | y
        · exact absurd g.2.1 (Int32.not_le.mpr y)
        · exact absurd g.2.2 (Int32.not_lt.mpr y)
        · exact y
      rw [cl_nI (by omega), cl_nI (by omega)]
      exact (r5 q).2 i' k' hi' hk'
    · rw [if_neg g] at h; exact absurd h (by decide)
  · rw [if_neg q] at h; exact absurd h (by decide)
theorem rA28 {hi : Nat → Nat → Int32} {sr : Nat → Option Nat} {ns nc nj no : Nat} {jt : Nat → Nat} (b : rQ hi sr ns nc nj no jt) {a : Nat} {R : Nat → Nat} (r : rA hi no a R) : ∃ a', hi 45 28 = nI a' ∧ a' ≤ 64 := by
  obtain ⟨r1, r2, r3, r4, r5⟩ := r
  by_cases q : hi 45 6 = 2
  · rw [(r5 q).1]
    by_cases g : nI a < hi 45 17
    · rw [if_pos g]; exact ⟨a, rfl, r2⟩
    · rw [if_neg g]
      obtain ⟨lm, _, h2, h3⟩ := b.2.2.2.2.2.2.2.2
      exact ⟨lm, h3, h2⟩
  · exact ⟨a, r4 q, r2⟩
theorem cb_cases {hi hi' : Nat → Nat → Int32} {nR md : Nat → Nat} {en : Nat → Nat → Nat} (T : rTT hi nR md en) (e : ∀ k, hi' 46 k = hi 46 k) (e8 : ∀ k, hi' 48 k = hi 48 k) (x r c : Int32) :
    (cb_ok hi x r c = false ∧ md_cb hi' x r c = false) ∨ (cb_ok hi x r c = true ∧ md_cb hi' x r c = true ∧ ∃ j p, j < 3 ∧ cl x = j ∧ p < nR j ∧ cl (dk_pl hi x r) = p ∧ cl r = en j p ∧ cl c < 4 ∧ hi (tcl x + 2) (cl (dk_pl hi x r) * 4 + cl c) = hi 49 (240 * cl x + 4 * cl r + cl c)) := by
  unfold cb_ok md_cb
  rw [hc_eq T e]
  rcases hr_cases T e e8 x r with ⟨h1, h2⟩ | ⟨h1, h2, j, p, hj, ej, hp, _, ep, _, er⟩
  · left; rw [h1, h2, Bool.false_and]; exact ⟨rfl, rfl⟩
  · rw [h1, h2, Bool.true_and]
    by_cases g : dk_hc hi x c = true
    · right
      obtain ⟨_, _, _, hc⟩ := hc_1 T g
      refine ⟨g, g, j, p, hj, ej, hp, ep, er, hc, ?_⟩
      rw [ep, er, tcl, ej]
      exact (T j hj).2.2.2.2.1 p (cl c) hp hc
    · left; exact ⟨Bool.eq_false_iff.mpr g, Bool.eq_false_iff.mpr g⟩
theorem mQ.fr3 {hi hi' : Nat → Nat → Int32} {q : aQ} {ns nc nj no : Nat} {jt : Nat → Nat} {en : Nat → Nat → Nat} (h : mQ hi q ns nc nj no jt en) (e : ∀ i j, (i = 45 ∧ 7 ≤ j ∧ j ≤ 17) ∨ (46 ≤ i ∧ i ≤ 58) → hi' i j = hi i j) : mQ hi' q ns nc nj no jt en := by
  obtain ⟨⟨a1, a2, a3⟩, b, c, ⟨d1, d2, d3⟩, ⟨f1, f2, f3⟩, g1, g2, g3⟩ := h
  refine ⟨⟨?_, a2, fun k hk => ?_⟩, fun s hs => (b s hs).fr (fun k _ _ => e _ _ (by omega)), fun s c' p h1 h2 h3 => ?_, ⟨?_, d2, fun i hi => ?_⟩, ⟨?_, f2, fun j hj => ?_⟩, ?_, g2, fun i hi => ?_⟩
  · rw [e _ _ (by omega)]; exact a1
  · rw [e _ _ (by omega), e _ _ (by omega)]; exact a3 k hk
  · rw [e _ _ (by omega)]; exact c s c' p h1 h2 h3
  · rw [e _ _ (by omega)]; exact d1
  · rw [e _ _ (by omega), e _ _ (by omega), e _ _ (by omega), e _ _ (by omega)]; exact d3 i hi
  · rw [e _ _ (by omega)]; exact f1
  · refine ⟨(f3 j hj).1, fun y hy => ?_⟩
    rw [e _ _ (by omega), e _ _ (by omega)]; exact (f3 j hj).2 y hy
  · rw [e _ _ (by omega)]; exact g1
  · rw [e _ _ (by omega), e _ _ (by omega)]; exact g3 i hi
theorem mPl.fr3 {hi hi' : Nat → Nat → Int32} {p : aP} {ns : Nat} (h : mPl hi p ns) (e : ∀ i j, 46 ≤ i ∧ i ≤ 58 → hi' i j = hi i j) : mPl hi' p ns := fun k hk => by
  rw [e _ _ (by omega), e _ _ (by omega), e _ _ (by omega), e _ _ (by omega)]; exact h k hk
theorem rdP_of {lim : Nat} {m : aM} (h : ¬ dnM lim m) : rdP (paM m) := by
  have h1 : 0 < paD (ml m) (mx m) (mD m) := Nat.pos_of_ne_zero (fun y => h (Or.inl y))
  exact ⟨h1, paD_top _ _ _ h1⟩
theorem arM_keep {q : aQ} {p : aP} {ns nc nj lim : Nat} (hW : aW q p ns nc nj) (hnj : nj ≤ 3) : ∀ (n : Nat) (m : aM), mI q p ns m → ma m ≤ lim → mI q p ns (arM q p ns nc nj lim n m).2 ∧ ma (arM q p ns nc nj lim n m).2 ≤ lim
  | 0, m, h1, h2 => ⟨h1, h2⟩
  | n + 1, m, h1, h2 => by
    by_cases d : dnM lim m
    · rw [arM_done d]; exact ⟨h1, h2⟩
    · rw [arM_step d]
      have hr := rdP_of d
      refine arM_keep hW hnj n _ (h1.pa.rd hW hnj hr) ?_
      have h3 : ma (paM m) < lim := Nat.lt_of_not_le (fun y => d (Or.inr y))
      unfold rdM
      split
      · split
        · show ma (paM m) + 1 ≤ lim
          omega
        · show ma (paM m) ≤ lim
          omega
      · show ma (paM m) ≤ lim
        omega
theorem rn_1 {s n : Int32} (h : rn_ok s n = true) : s = 1 ∧ ∃ n0, 1 ≤ n0 ∧ n0 ≤ 200 ∧ n = nI n0 := by
  unfold rn_ok at h
  rw [Bool.and_eq_true] at h
  have h1 := of_decide_eq_true h.1
  refine ⟨of_decide_eq_true h.2, ?_⟩
  rcases pk_ix n (n := 201) (by decide) with q | q | ⟨i, hi, rfl⟩
  · exact absurd (Int32.lt_of_le_of_lt h1.1 q) (by decide)
  · exact absurd (Int32.le_trans q h1.2) (by decide)
  · have := h1.1
    rw [show (1 : Int32) = nI 1 from rfl, nI_leI (by omega) (by omega)] at this
    exact ⟨i, this, by omega, rfl⟩
theorem op_run {hi : Nat → Nat → Int32} {hf : Nat → Nat → UInt32} {sr : Nat → Option Nat} (h : rR hi hf sr) {n : Int32} (hk : rn_ok (hi 0 4) n = true) :
    ∃ (n0 : Nat) (q : aQ) (p : aP) (ns nc nj no : Nat) (jt : Nat → Nat) (en : Nat → Nat → Nat) (M : aM) (R0 rk0 : Nat → Nat) (lim : Nat), n = nI n0 ∧ (cQ hi sr q ns nc nj no (fun s => 2 + 4 * jt s) ∧ cPl hi p ns ∧ aW q p ns nc nj ∧ aSur p ns) ∧ (clim hi = nI lim ∧ 1 ≤ lim ∧ lim ≤ 64 ∧ 1 ≤ n0 ∧ n0 ≤ 200 ∧ hi 0 4 = 1) ∧ (mI q p ns M ∧ aC hi no R0 rk0 M ∧ ma M < lim ∧ 0 < mD M) ∧
      ∀ h1 R rk, (∀ i j, ¬ (38 ≤ i ∧ i ≤ 44) → ¬ (i = 0 ∧ j = 4) → h1 i j = hi i j) → h1 38 7 = hi 38 7 + nI (arM q p ns nc nj lim n0 M).1 → aC h1 no R rk (arM q p ns nc nj lim n0 M).2 → h1 0 4 = (if bP (dnM lim (arM q p ns nc nj lim n0 M).2) = true then 2 else 1) →
        (mQ h1 q ns nc nj no jt en ∧ mPl h1 p ns ∧ mlim h1 = nI lim ∧ h1 45 6 = 1 ∧ bM h1 p en no M ∧ (dnM lim (paM (arM q p ns nc nj lim n0 M).2) → sM h1 (paM (arM q p ns nc nj lim n0 M).2) R rk no)) ∧
        ∀ h2, mf2 h1 h2 → h2 45 27 = h1 45 27 + nI (arM q p ns nc nj lim n0 M).1 → ((¬ dnM lim (paM (arM q p ns nc nj lim n0 M).2) ∧ h2 45 6 = 1 ∧ bM h2 p en no (paM (arM q p ns nc nj lim n0 M).2)) ∨ (dnM lim (paM (arM q p ns nc nj lim n0 M).2) ∧ fM h2 h1 (paM (arM q p ns nc nj lim n0 M).2) R no)) → rR h2 hf sr := by
  obtain ⟨ns, nc, nj, no, jt, a, b, s, d, f⟩ := h
  obtain ⟨h04, n0, hn1, hn2, en0⟩ := rn_1 hk
  have h6 : hi 45 6 = 1 := by rw [← s.1]; exact h04
  obtain ⟨en, q, p, M, R0, rk0, lim, ⟨cq, mq, cp, mp⟩, ⟨hW, hS, hI⟩, hC, hB, ⟨hD, ha⟩, hl, hl1, hl2⟩ := d.2 h6
  have hnj := b.2.2.1.2.2.1
  obtain ⟨kI, kA⟩ := arM_keep (lim := lim) hW hnj n0 M hI (by omega)
  refine ⟨n0, q, p, ns, nc, nj, no, jt, en, M, R0, rk0, lim, en0, ⟨cq, cp, hW, hS⟩, ⟨hl, hl1, hl2, hn1, hn2, h04⟩, ⟨hI, hC, ha, hD⟩, ?_⟩
  generalize (arM q p ns nc nj lim n0 M).2 = m' at *
  generalize (arM q p ns nc nj lim n0 M).1 = cnt at *
  intro h1 R rk e1 e7 hC1 e0
  have hm : mlim hi = nI lim := by
    rw [← hl]
    unfold mlim clim
    rw [b.2.2.2.2.1, b.2.2.2.2.2.2.1]
    rcases b.2.2.2.2.2.2.2.1 with g | ⟨o, ho, g⟩
    · rw [g, if_pos (by decide), if_pos rfl]
    · have := b.2.2.2.1.2.2.1
      rw [g, if_neg (nI_pos (by omega)), if_neg (nI_ne_m1 (by omega))]
  have rk1 := hC1.2.2.2.2.2.2
  refine ⟨⟨mq.fr3 (fun i j y => e1 _ _ (by omega) (by omega)), mp.fr3 (fun i j y => e1 _ _ (by omega) (by omega)), ?_, ?_, hB.fr (fun i j y => e1 _ _ (by omega) (by omega)), fun _ => ?_⟩, fun h2 e2 e27 hp => ?_⟩
  · unfold mlim
    rw [e1 _ _ (by omega) (by omega), e1 _ _ (by omega) (by omega)]; exact hm
  · rw [e1 _ _ (by omega) (by omega)]; exact h6
  · unfold sM
    rw [e1 45 15 (by omega) (by omega), e1 45 16 (by omega) (by omega), ← b.2.2.2.2.1, ← b.2.2.2.2.2.1]
    unfold rkF at rk1
    rw [e1 14 8 (by omega) (by omega), e1 14 9 (by omega) (by omega)] at rk1
    rcases rk1 with ⟨g, _⟩ | g
    · exact Or.inl g
    · exact Or.inr g
  · have e3 : ∀ i k, ¬ (38 ≤ i ∧ i ≤ 44) → ¬ (i = 0 ∧ k = 4) → ¬ (i = 60 ∨ i = 59 ∨ (i = 45 ∧ (k = 0 ∨ k = 6 ∨ 26 ≤ k))) → h2 i k = hi i k := fun i k y1 y2 y3 => (e2 i k y3).trans (e1 i k y1 y2)
    have e4 : ∀ i k, i < 45 → h2 i k = h1 i k := fun i k y => e2 i k (by omega)
    obtain ⟨s1, s2, _, s4, _⟩ := s
    have sum : h2 0 4 = h2 45 6 ∧ (h2 45 6 = 1 ∨ h2 45 6 = 2) := by
      rw [e4 _ _ (by omega), e0]
      rcases hp with ⟨g1, g2, _⟩ | ⟨g1, g2, _⟩
      · rw [dnM_pa] at g1
        rw [bP_f g1, g2]; exact ⟨rfl, Or.inl rfl⟩
      · rw [dnM_pa] at g1
        rw [bP_t g1, g2]; exact ⟨rfl, Or.inr rfl⟩
    have hC2 : aC h2 no R rk m' := hC1.fr (fun i k y => e4 i k (by omega))
    refine ⟨ns, nc, nj, no, jt, fun j hj => ?_, b.fr (fun i k y => e3 _ _ (by unfold qD at y; omega) (by unfold qD at y; omega) (by unfold qD at y; omega)), ⟨sum.1, ?_, ⟨mr m', hC2.2.2.1⟩, fun _ k hk => ?_, ma m', R, hC2.2.2.2.1, by omega, hC2.2.2.2.2.2.1, fun y => ?_, fun y => ?_⟩, ⟨fun y => ?_, fun y => ?_⟩, f⟩
    · obtain ⟨n, md, en, g⟩ := a j hj
      exact ⟨n, md, en, g.fr (fun i k y => e3 _ _ (by unfold tD at y; omega) (by unfold tD at y; omega) (by unfold tD at y; omega))⟩
    · rw [e4 _ _ (by omega), e7, e27, e1 _ _ (by omega) (by omega), s2]
    · have := s4 (by rw [h6]; decide) k hk
      rw [e3 _ _ (by omega) (by omega) (by omega), e3 _ _ (by omega) (by omega) (by omega), e3 _ _ (by omega) (by omega) (by omega), e3 _ _ (by omega) (by omega) (by omega), e3 _ _ (by omega) (by omega) (by omega), e3 _ _ (by omega) (by omega) (by omega), e3 _ _ (by omega) (by omega) (by omega), e3 _ _ (by omega) (by omega) (by omega)]
      exact this
    · rcases hp with ⟨_, _, g⟩ | ⟨_, g, _⟩
      · exact g.2.2.1
      · exact absurd g y
    · rcases hp with ⟨_, g, _⟩ | ⟨_, _, g1, g2⟩
      · exact absurd (g.symm.trans y) (by decide)
      · refine ⟨by rw [g1, e2 45 17 (by omega)]; rfl, fun i o hi' ho => ?_⟩
        rw [g2 i o hi' ho]
        have rk2 := hC2.2.2.2.2.2.2
        have e15 : h1 45 15 = h2 14 8 := by rw [e3 14 8 (by omega) (by omega) (by omega), b.2.2.2.2.1, e1 _ _ (by omega) (by omega)]
        have e43 := hC2.2.2.2.2.1
        show mF m' _ o = _
        rcases rk2 with ⟨u1, u2⟩ | ⟨o2, u1, u2, u3⟩
        · rw [e15, u1, if_pos rfl, u2 i hi', e43 i o hi' ho]
        · have := b.2.2.2.1.2.2.1
          rw [e15, u2, if_neg (nI_ne_m1 (by omega)), e43 (R i) o (u3.1 i hi').1 ho]
    · rcases sum.2 with g | g <;> exact absurd (g.symm.trans y) (by decide)
    · rcases hp with ⟨g1, g2, g3⟩ | ⟨_, g, _⟩
      · have e04 : ∀ i k, i < 30 → h2 i k = hi i k := fun i k z => by
          by_cases z2 : i = 0 ∧ k = 4
          · rw [z2.1, z2.2, sum.1, g2, h04]
          · exact e3 _ _ (by omega) z2 (by omega)
        have g4 : ¬ dnM lim m' := fun z => g1 ((dnM_pa lim m').mpr z)
        refine ⟨en, q, p, paM m', R, rk, lim, ⟨cq.fr (fun i j z => e04 _ _ z), mq.fr3 (fun i j z => e3 _ _ (by omega) (by omega) (by omega)), cp.fr (fun i j z z2 => e3 _ _ (by omega) (by omega) (by omega)), mp.fr3 (fun i j z => e3 _ _ (by omega) (by omega) (by omega))⟩, ⟨hW, hS, kI.pa⟩, hC2.pa, g3, ⟨(rdP_of g4).1, Nat.lt_of_not_le (fun z => g4 (Or.inr z))⟩, ?_, hl1, hl2⟩
        unfold clim
        rw [e04 _ _ (by omega), e04 _ _ (by omega)]; exact hl
      · exact absurd (g.symm.trans y) (by decide)
