/-! ===== the class's cells hold the machine ===== -/
def cQ (hi : Nat → Nat → Int32) (sr : Nat → Option Nat) (q : aQ) (ns nc nj no : Nat) (st : Nat → Nat) : Prop :=
  qC hi sr ns nc nj st (qn q) ∧ qO hi ns no ∧ (∀ s c p, s < ns → c < 4 → p < qn q s → hi (st s + 2) (p * 4 + c) = qV q s c p) ∧
  (∀ i, i < nc → (qs q i < ns ∧ qc q i < 4 ∧ qo q i < 4) ∧ hi (17 + i) 0 = nI (qs q i) ∧ hi (17 + i) 1 = nI (qc q i) ∧ hi (17 + i) 2 = nI (qo q i) ∧ hi (17 + i) 3 = qx q i) ∧
  (∀ j, j < nj → ¬ qe q j 0 = qe q j 1 ∧ (qe q j 0 < ns ∧ qk q j 0 < 4 ∧ qe q j 1 < ns ∧ qk q j 1 < 4) ∧ hi (22 + j) 0 = nI (qe q j 0) ∧ hi (22 + j) 1 = nI (qk q j 0) ∧ hi (22 + j) 2 = nI (qe q j 1) ∧ hi (22 + j) 3 = nI (qk q j 1)) ∧
  (∀ i, i < no → (qu q i 0 < ns ∧ qu q i 1 < 4) ∧ hi (26 + i) 0 = nI (qu q i 0) ∧ hi (26 + i) 1 = nI (qu q i 1))
theorem cQ.fr {hi hi' : Nat → Nat → Int32} {sr : Nat → Option Nat} {q : aQ} {ns nc nj no : Nat} {st : Nat → Nat} (h : cQ hi sr q ns nc nj no st) (hh : ∀ i j, i < 30 → hi' i j = hi i j) : cQ hi' sr q ns nc nj no st := by
  obtain ⟨h1, h2, h3, h4, h5, h6⟩ := h
  have hnc := h1.2.1.2.1
  have hnj := h1.2.2.1.2.1
  have hno := h2.2.1
  refine ⟨h1.fr hh, h2.fr hh, fun s c p hs hc hp => ?_, fun i hi9 => ?_, fun j hj => ?_, fun i hi9 => ?_⟩
  · rw [hh _ _ (by have := (h1.1.2.2 s hs).2.1; unfold dk_T at this; omega)]; exact h3 s c p hs hc hp
  · obtain ⟨a, b, c, d, e⟩ := h4 i hi9
    exact ⟨a, by rw [hh _ _ (by omega)]; exact b, by rw [hh _ _ (by omega)]; exact c, by rw [hh _ _ (by omega)]; exact d, by rw [hh _ _ (by omega)]; exact e⟩
  · obtain ⟨a0, a, b, c, d, e⟩ := h5 j hj
    exact ⟨a0, a, by rw [hh _ _ (by omega)]; exact b, by rw [hh _ _ (by omega)]; exact c, by rw [hh _ _ (by omega)]; exact d, by rw [hh _ _ (by omega)]; exact e⟩
  · obtain ⟨a, b, c⟩ := h6 i hi9
    exact ⟨a, by rw [hh _ _ (by omega)]; exact b, by rw [hh _ _ (by omega)]; exact c⟩
def cPl (hi : Nat → Nat → Int32) (p : aP) (ns : Nat) : Prop := ∀ k, k < ns → hi 34 k = nI (po p k) ∧ hi 35 k = pw p k ∧ hi 36 k = pc9 p k ∧ hi 37 k = pj p k
theorem cPl.fr {hi hi' : Nat → Nat → Int32} {p : aP} {ns : Nat} (h : cPl hi p ns) (hh : ∀ i j, 34 ≤ i → i < 38 → hi' i j = hi i j) : cPl hi' p ns := fun k hk => by
  obtain ⟨a, b, c, d⟩ := h k hk
  exact ⟨by rw [hh _ _ (by omega) (by omega)]; exact a, by rw [hh _ _ (by omega) (by omega)]; exact b, by rw [hh _ _ (by omega) (by omega)]; exact c, by rw [hh _ _ (by omega) (by omega)]; exact d⟩
theorem cTies {hi : Nat → Nat → Int32} {sr : Nat → Option Nat} {q : aQ} {p : aP} {ns nc nj no : Nat} {st : Nat → Nat} (hQ : cQ hi sr q ns nc nj no st) (hp : cPl hi p ns) (hW : aW q p ns nc nj) {k j : Nat} (hk : k < ns) (hj : j < nj) : pl_ties hi (22 + j) k = qT q (bfo (po p) k) (po p k) j := by
  have hns := hQ.1.1.2.1
  obtain ⟨a0, ⟨a1, a2, a3, a4⟩, b, c, d, e⟩ := hQ.2.2.2.2.1 j hj
  have hk2 := (hW k hk).1
  have hb : ∀ x, x < ns → pl_bef hi (nI x) k = bfo (po p) k x := by
    intro x hx
    have key : ∀ m, m ≤ k → pl_bef hi (nI x) m = bfo (po p) m x := by
      intro m
      induction m with
      | zero => intro _; rfl
      | succ m ih =>
        intro hm
        have h9 := ih (by omega)
        unfold pl_bef bfo at h9 ⊢
        rw [List.range_succ, List.any_append, List.any_append, h9]
        congr 1
        have hlt := (hW m (by omega)).1
        simp only [List.any_cons, List.any_nil, Bool.or_false]
        congr 1
        rw [(hp m (by omega)).1]
        exact propext (nI_eq (by omega) (by omega))
    exact key k (Nat.le_refl _)
  unfold pl_ties qT
  rw [b, d, (hp k hk).1]
  have e1 : (nI (qe q j 0) = nI (po p k)) = (qe q j 0 = po p k) := propext (nI_eq (by omega) (by omega))
  have e2 : (nI (qe q j 1) = nI (po p k)) = (qe q j 1 = po p k) := propext (nI_eq (by omega) (by omega))
  simp only [e1, e2]
  congr 1
  unfold qE
  by_cases y : qe q j 0 = po p k
  · rw [if_pos y, if_pos y]; exact hb _ a3
  · rw [if_neg y, if_neg y]; exact hb _ a1
theorem cPass {hi : Nat → Nat → Int32} {sr : Nat → Option Nat} {q : aQ} {p : aP} {ns nc nj no : Nat} {st : Nat → Nat} (hQ : cQ hi sr q ns nc nj no st) (hp : cPl hi p ns) (hW : aW q p ns nc nj) {k : Nat} (hk : k < ns) {rp : Nat → Nat} (hrp : ∀ i, i ≤ k → rp (po p i) < qn q (po p i)) : psA hi st rp k (po p k) nc nj ↔ aPS q p rp k nc nj := by
  have hns := hQ.1.1.2.1
  have hk2 := (hW k hk).1
  have hbf : ∀ x, bfo (po p) k x = true → ∃ i, i < k ∧ po p i = x := fun x hx => by
    rw [bfo, List.any_eq_true] at hx
    obtain ⟨i, y1, y2⟩ := hx
    exact ⟨i, List.mem_range.mp y1, of_decide_eq_true y2⟩
  have hC : ∀ i, i < nc → (psC hi st rp (po p k) i ↔ aPC q p rp k i) := by
    intro i hi9
    obtain ⟨⟨a1, a2, a3⟩, b, c, d, e⟩ := hQ.2.2.2.1 i hi9
    unfold psC aPC rdv
    rw [b, c, d, e, cl_nI (by omega), cl_nI (by omega)]
    have e1 : (nI (qs q i) = nI (po p k)) = (qs q i = po p k) := propext (nI_eq (by omega) (by omega))
    rw [e1]
    have e2 : tb_c hi (st (po p k)) (qc q i) (rp (po p k)) = qV q (po p k) (qc q i) (rp (po p k)) := hQ.2.2.1 _ _ _ hk2 a2 (hrp k (Nat.le_refl _))
    rw [e2]
  have hJ : ∀ j, j < nj → (psJ hi st rp k j ↔ aPJ q p rp k j) := by
    intro j hj
    obtain ⟨a0, ⟨a1, a2, a3, a4⟩, b, c, d, e⟩ := hQ.2.2.2.2.1 j hj
    unfold psJ aPJ rdv
    rw [cTies hQ hp hW hk hj, b, c, d, e, cl_nI (by omega), cl_nI (by omega), cl_nI (by omega), cl_nI (by omega)]
    have key : qT q (bfo (po p) k) (po p k) j = true → rp (qe q j 0) < qn q (qe q j 0) ∧ rp (qe q j 1) < qn q (qe q j 1) := by
      intro ht
      obtain ⟨t1, t2⟩ := qT_e ht
      obtain ⟨i0, i1, i2⟩ := hbf _ t2
      have r1 := hrp k (Nat.le_refl _)
      have r2 := hrp i0 (by omega)
      rw [i2] at r2
      rw [← t1] at r1
      have h2 := qE_2 q (po p k) j
      rcases (show qE q (po p k) j = 0 ∨ qE q (po p k) j = 1 by omega) with y | y
      · rw [y] at r1 r2; exact ⟨r1, r2⟩
      · rw [y] at r1 r2; exact ⟨r2, r1⟩
    constructor
    · intro h ht
      obtain ⟨r1, r2⟩ := key ht
      have h9 := h ht
      rw [show tb_c hi (st (qe q j 0)) (qk q j 0) (rp (qe q j 0)) = qV q (qe q j 0) (qk q j 0) (rp (qe q j 0)) from hQ.2.2.1 _ _ _ a1 a2 r1, show tb_c hi (st (qe q j 1)) (qk q j 1) (rp (qe q j 1)) = qV q (qe q j 1) (qk q j 1) (rp (qe q j 1)) from hQ.2.2.1 _ _ _ a3 a4 r2] at h9
      exact h9
    · intro h ht
      obtain ⟨r1, r2⟩ := key ht
      rw [show tb_c hi (st (qe q j 0)) (qk q j 0) (rp (qe q j 0)) = qV q (qe q j 0) (qk q j 0) (rp (qe q j 0)) from hQ.2.2.1 _ _ _ a1 a2 r1, show tb_c hi (st (qe q j 1)) (qk q j 1) (rp (qe q j 1)) = qV q (qe q j 1) (qk q j 1) (rp (qe q j 1)) from hQ.2.2.1 _ _ _ a3 a4 r2]
      exact h ht
  exact ⟨fun h => ⟨fun i hi9 => (hC i hi9).mp (h.1 i hi9), fun j hj => (hJ j hj).mp (h.2 j hj)⟩, fun h => ⟨fun i hi9 => (hC i hi9).mpr (h.1 i hi9), fun j hj => (hJ j hj).mpr (h.2 j hj)⟩⟩
/-- the way at k, as the class opens it -/
theorem cOpen {hi : Nat → Nat → Int32} {sr : Nat → Option Nat} {q : aQ} {p : aP} {ns nc nj no : Nat} {st : Nat → Nat} (hQ : cQ hi sr q ns nc nj no st) (hp : cPl hi p ns) (hW : aW q p ns nc nj) {k : Nat} (hk : k < ns) {rp : Nat → Nat} (hr : ∀ s, s < 3 → hi 42 s = nI (rp s) ∧ rp s < 24) (hrp : ∀ i, i < k → rp (po p i) < qn q (po p i)) : ∃ P srt f, op_W hi sr k (po p k) (st (po p k)) P srt f ∧ op_L P srt f (qn q (po p k)) = lvL q p rp k := by
  have hns := hQ.1.1.2.1
  have hnc := hQ.1.2.1.2.1
  have hnj := hQ.1.2.2.1.2.1
  obtain ⟨w1, w2, w3⟩ := hW k hk
  obtain ⟨p1, p2, p3, p4⟩ := hp k hk
  rcases w3 with ⟨i, g1, g2, g3, g4⟩ | ⟨j, g1, g2, g3, g4⟩ | ⟨g1, g2, g3⟩
  · obtain ⟨⟨a1, a2, a3⟩, b, c, d, e⟩ := hQ.2.2.2.1 i g1
    have ei : cl (pc9 p k) = i := by rw [g2, cl_nI (by omega)]
    have nm : ¬ pc9 p k = -1 := by rw [g2]; exact nI_ne_m1 (by omega)
    refine ⟨_, _, _, Or.inl ⟨i, qc q i, qo q i, by omega, a2, a3, p3.trans g2, c, d, rfl, rfl, rfl⟩, ?_⟩
    have es : lvS p k = decide (hi 35 k = 2) := by
      unfold lvS
      rw [p2]
      congr 1
      exact propext ⟨fun h => h.2, fun h => ⟨nm, h⟩⟩
    unfold lvL
    rw [es]
    refine op_L_congr _ (fun x hx => ?_) (fun _ x hx => ?_)
    · unfold lvP
      rw [if_neg nm, ei, e]
      congr 1
      exact hQ.2.2.1 _ _ _ w1 a2 hx
    · unfold lvF
      rw [if_neg nm, ei]
      exact hQ.2.2.1 _ _ _ w1 a2 hx
  · obtain ⟨a0, ⟨a1, a2, a3, a4⟩, b, c, d, e⟩ := hQ.2.2.2.2.1 j g1
    have ej : cl (pj p k) = j := by rw [g3, cl_nI (by omega)]
    have nm : ¬ pj p k = -1 := by rw [g3]; exact nI_ne_m1 (by omega)
    obtain ⟨t1, t2⟩ := qT_e g4
    rw [bfo, List.any_eq_true] at t2
    obtain ⟨i0, y1, y2⟩ := t2
    have i1 := List.mem_range.mp y1
    have i2 := of_decide_eq_true y2
    have es : lvS p k = false := decide_eq_false (fun h => h.1 g2)
    have e0 : (nI (qe q j 0) = nI (po p k)) = (qe q j 0 = po p k) := propext (nI_eq (by omega) (by omega))
    have eV : ∀ e' : Nat, qE q (po p k) j = e' → (∃ x, op_W hi sr k (po p k) (st (po p k)) (fun y => decide (tb_c hi (st (po p k)) (qk q j e') y = tb_c hi (st (qe q j (1 - e'))) (qk q j (1 - e')) (rp (qe q j (1 - e'))))) false x) := by
      intro e' he
      have hlt2 : qe q j (1 - e') < ns ∧ qk q j (1 - e') < 4 ∧ qk q j e' < 4 := by
        have h2 := qE_2 q (po p k) j
        rcases (show e' = 0 ∨ e' = 1 by omega) with y | y
        · subst y; exact ⟨a3, a4, a2⟩
        · subst y; exact ⟨a1, a2, a4⟩
      obtain ⟨s1, T1, s3, s4⟩ := hQ.1.1.2.2 _ hlt2.1
      refine ⟨fun _ => 0, Or.inr (Or.inl ⟨j, qe q j (1 - e'), qk q j e', qk q j (1 - e'), st (qe q j (1 - e')), rp (qe q j (1 - e')), ⟨by omega, by omega, hlt2.2.2, hlt2.2.1, (hr _ (by omega)).2, T1⟩, ⟨p3.trans g2, p4.trans g3⟩, ?_, s1, (hr _ (by omega)).1, rfl, rfl⟩)⟩
      rw [b, c, d, e]
      unfold qE at he
      by_cases y : qe q j 0 = po p k
      · rw [if_pos y] at he
        subst he
        rw [if_pos (by rw [e0]; exact y), if_pos (by rw [e0]; exact y), if_neg (fun h => a0 ((nI_eq (by omega) (by omega)).mp h))]
        exact ⟨rfl, rfl, rfl⟩
      · rw [if_neg y] at he
        subst he
        rw [if_neg (by rw [e0]; exact y), if_neg (by rw [e0]; exact y), if_pos rfl]
        exact ⟨rfl, rfl, rfl⟩
    obtain ⟨x, hx⟩ := eV _ rfl
    refine ⟨_, _, _, hx, ?_⟩
    unfold lvL
    rw [es]
    have hlt2 : qe q j (1 - qE q (po p k) j) < ns ∧ qk q j (1 - qE q (po p k) j) < 4 ∧ qk q j (qE q (po p k) j) < 4 := by
      have h2 := qE_2 q (po p k) j
      rcases (show qE q (po p k) j = 0 ∨ qE q (po p k) j = 1 by omega) with y | y
      · rw [y]; exact ⟨a3, a4, a2⟩
      · rw [y]; exact ⟨a1, a2, a4⟩
    have r2 := hrp i0 i1
    rw [i2] at r2
    refine op_L_congr _ (fun y hy => ?_) (fun h => by cases h)
    unfold lvP
    rw [if_pos g2, if_neg nm, ej]
    rw [show tb_c hi (st (po p k)) (qk q j (qE q (po p k) j)) y = qV q (po p k) (qk q j (qE q (po p k) j)) y from hQ.2.2.1 _ _ _ w1 hlt2.2.2 hy, show tb_c hi (st (qe q j (1 - qE q (po p k) j))) (qk q j (1 - qE q (po p k) j)) (rp (qe q j (1 - qE q (po p k) j))) = qV q (qe q j (1 - qE q (po p k) j)) (qk q j (1 - qE q (po p k) j)) (rp (qe q j (1 - qE q (po p k) j))) from hQ.2.2.1 _ _ _ hlt2.1 hlt2.2.1 r2]
  · refine ⟨fun _ => true, false, fun _ => 0, Or.inr (Or.inr ⟨p3.trans g1, p4.trans g2, rfl, rfl⟩), ?_⟩
    have es : lvS p k = false := decide_eq_false (fun h => h.1 g1)
    unfold lvL
    rw [es]
    refine op_L_congr _ (fun y hy => ?_) (fun h => by cases h)
    unfold lvP
    rw [if_pos g1, if_pos g2]
