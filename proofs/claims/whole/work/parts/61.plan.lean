/-! ===== plan: class, then model ===== -/
theorem mkq_eq {hi hi' : Nat → Nat → Int32} (jt nR : Nat → Nat) (en : Nat → Nat → Nat) (e : ∀ i k, i = 49 ∨ i = 52 ∨ i = 53 ∨ i = 54 → hi' i k = hi i k) : mkq hi' jt nR en = mkq hi jt nR en := by
  have e49 : hi' 49 = hi 49 := funext fun k => e _ _ (by omega)
  have e52 : hi' 52 = hi 52 := funext fun k => e _ _ (by omega)
  have e53 : hi' 53 = hi 53 := funext fun k => e _ _ (by omega)
  have e54 : hi' 54 = hi 54 := funext fun k => e _ _ (by omega)
  unfold mkq
  rw [e49, e52, e53, e54]
theorem gq_eq {hi hi' : Nat → Nat → Int32} (q : aQ) (jt : Nat → Nat) (en : Nat → Nat → Nat) (e : ∀ i k, i = 49 ∨ i = 50 → hi' i k = hi i k) : gq hi' q jt en = gq hi q jt en := by
  have e49 : hi' 49 = hi 49 := funext fun k => e _ _ (by omega)
  have e50 : hi' 50 = hi 50 := funext fun k => e _ _ (by omega)
  unfold gq mv
  rw [e49, e50]
theorem aW_pP {q : aQ} {hi : Nat → Nat → Int32} {jt : Nat → Nat} {en : Nat → Nat → Nat} {ns nc nj num : Nat} (h3 : ns ≤ 3) (hn : num < pl_oc ns) (h1 : 1 ≤ ns) : aW q (pP (gq hi q jt en) nc nj (pl_od ns num)) ns nc nj ∧ aSur (pP (gq hi q jt en) nc nj (pl_od ns num)) ns :=
  ⟨fun k hk => ⟨(pl_od_ok ns (by omega) h1 num hn k hk).2.1, od_inj ns (by omega) num hn k hk, gB_sh (gq hi q jt en) (bfo (pl_od ns num) k) (pl_od ns num k) nc nj⟩, od_sur ns (by omega) num hn⟩
theorem num_lt (g : gG) (ns nc nj : Nat) (h1 : 1 ≤ ns) (h3 : ns ≤ 3) : (aCh g ns nc nj (pl_od ns) (pl_oc ns - 1)).1 < pl_oc ns := by
  have := (aCh_le g ns nc nj (pl_od ns) (pl_oc ns - 1)).1
  have : 1 ≤ pl_oc ns := by unfold pl_oc; split <;> omega
  omega
abbrev plN (g : gG) (ns nc nj : Nat) : Nat := (aCh g ns nc nj (pl_od ns) (pl_oc ns - 1)).1
theorem fin_F {hi : Nat → Nat → Int32} {hf : Nat → Nat → UInt32} {g : gG} {st : Nat → Nat} {ns nc nj : Nat} (S : pS hi (ms_F hi hf st (gnR g) nc nj) g st nc nj) (h3 : ns ≤ 3) :
    (∀ i j, i < 34 ∨ 37 < i → (pl_fin hi hf st (gnR g) ns nc nj).1 i j = hi i j) ∧ (∀ i j, i ≠ 30 → (pl_fin hi hf st (gnR g) ns nc nj).2.1 i j = ms_F hi hf st (gnR g) nc nj i j) ∧ cPl (pl_fin hi hf st (gnR g) ns nc nj).1 (pP g nc nj (pl_od ns (plN g ns nc nj))) ns ∧ (pl_fin hi hf st (gnR g) ns nc nj).2.2 = gcc g nc nj (pl_od ns (plN g ns nc nj)) ns := by
  obtain ⟨f1, f2, f3⟩ := pl_ch_fr (hi := hi) (hf := ms_F hi hf st (gnR g) nc nj) (st := st) (nR := gnR g) (ns := ns) (nc := nc) (nj := nj) (pl_oc ns - 1)
  have hod : ∀ num, num ≤ pl_oc ns - 1 → ∀ k, k < ns → pl_od ns num k < 3 := fun num hn k hk => by
    have : 1 ≤ pl_oc ns := by unfold pl_oc; split <;> omega
    have := (pl_od_ok ns (by omega) (by omega) num (by omega) k hk).2.1
    omega
  have ech := pl_ch_eq S (ns := ns) (pl_oc ns - 1) hod
  have S1 : pS (pl_ch hi (ms_F hi hf st (gnR g) nc nj) st (gnR g) ns nc nj (pl_oc ns - 1)).1 (pl_ch hi (ms_F hi hf st (gnR g) nc nj) st (gnR g) ns nc nj (pl_oc ns - 1)).2.1 g st nc nj := S.fr (fun i j y => f1 i j (Or.inl y)) f2
  have en : (pl_ch hi (ms_F hi hf st (gnR g) nc nj) st (gnR g) ns nc nj (pl_oc ns - 1)).2.2.1 = plN g ns nc nj := by rw [ech]
  obtain ⟨t1, t2⟩ := pl_try_eq S1 (od := pl_od ns (plN g ns nc nj)) ns (hod _ (aCh_le g ns nc nj (pl_od ns) (pl_oc ns - 1)).1)
  obtain ⟨u1, u2⟩ := pl_try_fr (hi := (pl_ch hi (ms_F hi hf st (gnR g) nc nj) st (gnR g) ns nc nj (pl_oc ns - 1)).1) (hf := (pl_ch hi (ms_F hi hf st (gnR g) nc nj) st (gnR g) ns nc nj (pl_oc ns - 1)).2.1) (od := pl_od ns (plN g ns nc nj)) (st := st) (nR := gnR g) (nc := nc) (nj := nj) ns
  unfold pl_fin
  rw [en]
  exact ⟨fun i j y => (u1 i j y).trans (f1 i j y), fun i j y => (u2 i j y).trans (f2 i j y), fun k hk => t1 k hk, t2⟩
theorem fin_M (g : gG) {ns nc nj : Nat} (h : Nat → Nat → Int32) (h1 : 1 ≤ ns) (h3 : ns ≤ 3) : mfr h (mfin g ns nc nj h) ∧ mPl (mfin g ns nc nj h) (pP g nc nj (pl_od ns (plN g ns nc nj))) ns ∧ gcc g nc nj (mo ns (mch g ns nc nj h 5).2.1) ns = gcc g nc nj (pl_od ns (plN g ns nc nj)) ns := by
  have e : (mch g ns nc nj h 5).2.1 = (aCh g ns nc nj (mo ns) 5).1 := by rw [mch_eq]
  have od := od_best g nc nj h1 h3
  have f1 := mph_fr g nc nj (mo ns (mch g ns nc nj h 5).2.1) (mch g ns nc nj h 5).1 ns
  have f2 := (mch_fr g ns nc nj h 5).1
  refine ⟨fun i j y1 y2 => (f1 i j y1 y2).trans (f2 i j y1 y2), fun k hk => ?_, ?_⟩
  · have := mph_at g nc nj (mo ns (mch g ns nc nj h 5).2.1) (mch g ns nc nj h 5).1 ns k hk
    unfold mfin
    rw [e] at this ⊢
    rw [od k hk, bfo_congr (od := pl_od ns (plN g ns nc nj)) (fun i hi => od i (by omega))] at this
    exact this
  · rw [e]
    exact gcc_congr ns od
theorem op_plan {hi : Nat → Nat → Int32} {hf : Nat → Nat → UInt32} {sr : Nat → Option Nat} (h : rR hi hf sr) :
    ∃ (ns nc nj : Nat) (jt : Nat → Nat) (q : aQ) (en : Nat → Nat → Nat) (l : List Nat), qC hi sr ns nc nj (fun s => 2 + 4 * jt s) (qn q) ∧ qF hf ∧
      (1 ≤ ns → ∃ t s n P srt f, dk_T t ∧ (pl_fin hi hf (fun s => 2 + 4 * jt s) (qn q) ns nc nj).1 34 0 = nI s ∧ s < 3 ∧ sr s = some t ∧ (pl_fin hi hf (fun s => 2 + 4 * jt s) (qn q) ns nc nj).1 t 4 = nI n ∧ n ≤ 24 ∧ op_W (wk_clear (pl_fin hi hf (fun s => 2 + 4 * jt s) (qn q) ns nc nj).1) sr 0 s t P srt f ∧ l = op_L P srt f n) ∧
      vf_n32 (pl_fin hi hf (fun s => 2 + 4 * jt s) (qn q) ns nc nj).2.2.2 ∧ mG hi (gq hi q jt en) ns nc nj jt en ∧ mpl_ok hi = pn_ok hi ∧
      (pn_ok hi = true → ∀ h4, wk_F (wk_open (wk_clear (pl_fin hi hf (fun s => 2 + 4 * jt s) (qn q) ns nc nj).1) 0) h4 0 → wk_L h4 0 l → mG (dk_up (ms_end h4 1) 0 4 1) (gq hi q jt en) ns nc nj jt en ∧ mpl_ok (dk_up (ms_end h4 1) 0 4 1) = true ∧
        (gcc (gq hi q jt en) nc nj (mo ns (mch (gq hi q jt en) ns nc nj (dk_up (dk_up (ms_end h4 1) 0 4 1) 45 0 0) 5).2.1) ns).2 = (pl_fin hi hf (fun s => 2 + 4 * jt s) (qn q) ns nc nj).2.2.2 ∧
        rR (mpl_hi (mfin (gq hi q jt en) ns nc nj (dk_up (dk_up (ms_end h4 1) 0 4 1) 45 0 0))) (pl_fin hi hf (fun s => 2 + 4 * jt s) (qn q) ns nc nj).2.1 sr) := by
  obtain ⟨ns, nc, nj, no, jt, a, b, ⟨s1, s2, ⟨rp, s3⟩, s4, s5⟩, d, f⟩ := h
  obtain ⟨nR, md, en, T⟩ := rT_fun a
  have T : rTT hi nR md en := T
  obtain ⟨cq, mq⟩ := mk_Q T b
  have S := mk_S T cq mq hf
  have h3 : ns ≤ 3 := b.1.2.2.1
  have mg := mq.G
  obtain ⟨F1, F2, F3, F4⟩ := fin_F (g := gq hi (mkq hi jt nR en) jt (fun s => en (jt s))) (hf := hf) (ns := ns) S h3
  have qc := cq.1
  have FN : qF (pl_fin hi hf (fun s => 2 + 4 * jt s) (qn (mkq hi jt nR en)) ns nc nj).2.1 := (ms_J_F qc (ms_C_F qc f nc (Nat.le_refl _)) nj (Nat.le_refl _)).fr F2
  have hnan : vf_n32 (pl_fin hi hf (fun s => 2 + 4 * jt s) (qn (mkq hi jt nR en)) ns nc nj).2.2.2 := by
    have e : (pl_fin hi hf (fun s => 2 + 4 * jt s) (qn (mkq hi jt nR en)) ns nc nj).2.2 = gcc (gq hi (mkq hi jt nR en) jt (fun s => en (jt s))) nc nj (pl_od ns (plN (gq hi (mkq hi jt nR en) jt (fun s => en (jt s))) ns nc nj)) ns := F4
    rw [e]
    refine fb_n (gcc_fb mg.F (fun k hk => ?_) h3 ns (Nat.le_refl _)).2 (by omega)
    exact (pl_od_ok ns (by omega) (by omega) _ (num_lt _ ns nc nj (by omega) h3) k hk).2.1
  refine ⟨ns, nc, nj, jt, mkq hi jt nR en, fun s => en (jt s), lvL (mkq hi jt nR en) (pP (gq hi (mkq hi jt nR en) jt (fun s => en (jt s))) nc nj (pl_od ns (plN (gq hi (mkq hi jt nR en) jt (fun s => en (jt s))) ns nc nj))) rp 0, qc, f, fun h1 => ?_, hnan, mg, pn_eq b s1, fun hk h4 w1 w2 => ?_⟩
  · obtain ⟨aw, _⟩ := aW_pP (q := mkq hi jt nR en) (hi := hi) (jt := jt) (en := fun s => en (jt s)) (nc := nc) (nj := nj) h3 (num_lt (gq hi (mkq hi jt nR en) jt (fun s => en (jt s))) ns nc nj h1 h3) h1
    have cq2 : cQ (wk_clear (pl_fin hi hf (fun s => 2 + 4 * jt s) (qn (mkq hi jt nR en)) ns nc nj).1) sr (mkq hi jt nR en) ns nc nj no (fun s => 2 + 4 * jt s) := cq.fr (fun i j y => by
      simp (disch := omega) only [wk_clear, dk_up_ne]
      exact F1 i j (Or.inl (by omega)))
    have cp2 : cPl (wk_clear (pl_fin hi hf (fun s => 2 + 4 * jt s) (qn (mkq hi jt nR en)) ns nc nj).1) (pP (gq hi (mkq hi jt nR en) jt (fun s => en (jt s))) nc nj (pl_od ns (plN (gq hi (mkq hi jt nR en) jt (fun s => en (jt s))) ns nc nj))) ns := cPl.fr F3 (fun i j y y2 => by simp (disch := omega) only [wk_clear, dk_up_ne]; rfl)
    obtain ⟨P, srt, fn, o1, o2⟩ := cOpen cq2 cp2 aw (k := 0) h1 (rp := rp) (fun s hs => by
      refine ⟨?_, (s3 s hs).2⟩
      simp (disch := omega) only [wk_clear, dk_up_ne]
      rw [← (s3 s hs).1]
      exact F1 42 s (Or.inr (by omega))) (fun i hi => absurd hi (by omega))
    have hs := (aw 0 h1).1
    have hq := qc.1.2.2 _ hs
    refine ⟨_, _, _, P, srt, fn, hq.2.1, (F3 0 h1).1, Nat.lt_of_lt_of_le hs h3, hq.1, ?_, hq.2.2.2, o1, o2.symm⟩
    rw [← hq.2.2.1]
    have := hq.2.1
    exact F1 _ _ (Or.inl (by unfold dk_T at this; omega))
  · have hk2 : ¬ nI ns = 0 ∧ hi 45 6 = 0 := by
      unfold pn_ok at hk
      rw [Bool.and_eq_true, Bool.and_eq_true, s1, b.1.1] at hk
      exact ⟨of_decide_eq_true hk.2.1, of_decide_eq_true hk.1⟩
    have h1 : 1 ≤ ns := Nat.pos_of_ne_zero (fun y => hk2.1 (by rw [y]; rfl))
    have h6 := hk2.2
    obtain ⟨d27, d28⟩ := d.1 h6
    obtain ⟨aw, asu⟩ := aW_pP (q := mkq hi jt nR en) (hi := hi) (jt := jt) (en := fun s => en (jt s)) (nc := nc) (nj := nj) h3 (num_lt (gq hi (mkq hi jt nR en) jt (fun s => en (jt s))) ns nc nj h1 h3) h1
    generalize hL : lvL (mkq hi jt nR en) (pP (gq hi (mkq hi jt nR en) jt (fun s => en (jt s))) nc nj (pl_od ns (plN (gq hi (mkq hi jt nR en) jt (fun s => en (jt s))) ns nc nj))) rp 0 = l at *
    have FN4 : (pl_fin hi hf (fun s => 2 + 4 * jt s) (qn (mkq hi jt nR en)) ns nc nj).2.2 = gcc (gq hi (mkq hi jt nR en) jt (fun s => en (jt s))) nc nj (pl_od ns (plN (gq hi (mkq hi jt nR en) jt (fun s => en (jt s))) ns nc nj)) ns := F4
    have FN1 : ∀ i j, i < 34 ∨ 37 < i → (pl_fin hi hf (fun s => 2 + 4 * jt s) (qn (mkq hi jt nR en)) ns nc nj).1 i j = hi i j := F1
    have FN3 : cPl (pl_fin hi hf (fun s => 2 + 4 * jt s) (qn (mkq hi jt nR en)) ns nc nj).1 (pP (gq hi (mkq hi jt nR en) jt (fun s => en (jt s))) nc nj (pl_od ns (plN (gq hi (mkq hi jt nR en) jt (fun s => en (jt s))) ns nc nj))) ns := F3
    clear F1 F2 F3 F4
    generalize pl_fin hi hf (fun s => 2 + 4 * jt s) (qn (mkq hi jt nR en)) ns nc nj = F at *
    generalize hg : gq hi (mkq hi jt nR en) jt (fun s => en (jt s)) = g at *
    generalize hp : pP g nc nj (pl_od ns (plN g ns nc nj)) = p at *
    obtain ⟨k1, k2, k3⟩ := fin_M g (nc := nc) (nj := nj) (dk_up (dk_up (ms_end h4 1) 0 4 1) 45 0 0) h1 h3
    rw [hp] at k2
    -- the class's heap
    have c4 : ∀ i k, ¬ (i = 38 ∧ 6 ≤ k ∧ k ≤ 8) → ¬ (i = 39 ∨ i = 40 ∨ i = 41) → h4 i k = F.1 i k := fun i k y1 y2 => by
      rw [w1 i k (by omega) (by omega)]
      simp (disch := omega) only [wk_open, wk_clear, dk_up_ne]
    have c1 : ∀ i k, ¬ (i = 0 ∧ k = 4) → ¬ (34 ≤ i ∧ i ≤ 37) → ¬ (i = 38 ∧ 6 ≤ k ∧ k ≤ 8) → ¬ (i = 39 ∨ i = 40 ∨ i = 41) → dk_up (ms_end h4 1) 0 4 1 i k = hi i k := fun i k y1 y2 y3 y4 => by
      unfold ms_end
      rw [dk_up_ne _ _ (by omega), dk_up_ne _ _ (by omega), c4 i k y3 y4, FN1 i k (by omega)]
    have T1 : rTT (dk_up (ms_end h4 1) 0 4 1) nR md en := fun j hj => (T j hj).fr (fun i k y => c1 i k (by unfold tD at y; omega) (by unfold tD at y; omega) (by unfold tD at y; omega) (by unfold tD at y; omega))
    have b1 : rQ (dk_up (ms_end h4 1) 0 4 1) sr ns nc nj no jt := b.fr (fun i k y => c1 i k (by unfold qD at y; omega) (by unfold qD at y; omega) (by unfold qD at y; omega) (by unfold qD at y; omega))
    have mg1 := (mk_Q T1 b1).2.G
    rw [mkq_eq (hi := hi) jt nR en (fun i k y => c1 i k (by omega) (by omega) (by omega) (by omega)), gq_eq (hi := hi) _ jt _ (fun i k y => c1 i k (by omega) (by omega) (by omega) (by omega)), hg] at mg1
    refine ⟨mg1, ?_, by rw [k3, FN4], ?_⟩
    · have e1 := pn_eq b s1
      rw [hk] at e1
      unfold mpl_ok at e1 ⊢
      rw [c1 _ _ (by omega) (by omega) (by omega) (by omega), c1 _ _ (by omega) (by omega) (by omega) (by omega), c1 _ _ (by omega) (by omega) (by omega) (by omega)]
      exact e1
    · generalize hH : mpl_hi (mfin g ns nc nj (dk_up (dk_up (ms_end h4 1) 0 4 1) 45 0 0)) = H
      have e1 : ∀ i k, ¬ (i = 45 ∧ (k = 0 ∨ k = 6 ∨ 22 ≤ k ∧ k ≤ 26)) → ¬ (55 ≤ i ∧ i ≤ 59) → H i k = dk_up (ms_end h4 1) 0 4 1 i k := fun i k y1 y2 => by
        rw [← hH]
        unfold mpl_hi
        rw [dk_up_ne _ _ (by omega), dk_up_ne _ _ (by omega), dk_up_ne _ _ (by omega), k1 i k (by omega) (by omega), dk_up_ne _ _ (by omega)]
      have e2 : ∀ i k, ¬ (i = 0 ∧ k = 4) → ¬ (34 ≤ i ∧ i ≤ 37) → ¬ (i = 38 ∧ 6 ≤ k ∧ k ≤ 8) → ¬ (i = 39 ∨ i = 40 ∨ i = 41) → ¬ (i = 45 ∧ (k = 0 ∨ k = 6 ∨ 22 ≤ k ∧ k ≤ 26)) → ¬ (55 ≤ i ∧ i ≤ 59) → H i k = hi i k := fun i k y1 y2 y3 y4 y5 y6 => (e1 i k y5 y6).trans (c1 i k y1 y2 y3 y4)
      have T2 : rTT H nR md en := fun j hj => (T j hj).fr (fun i k y => e2 i k (by unfold tD at y; omega) (by unfold tD at y; omega) (by unfold tD at y; omega) (by unfold tD at y; omega) (by unfold tD at y; omega) (by unfold tD at y; omega))
      have b2 : rQ H sr ns nc nj no jt := b.fr (fun i k y => e2 i k (by unfold qD at y; omega) (by unfold qD at y; omega) (by unfold qD at y; omega) (by unfold qD at y; omega) (by unfold qD at y; omega) (by unfold qD at y; omega))
      obtain ⟨cq2, mq2⟩ := mk_Q T2 b2
      rw [mkq_eq (hi := hi) jt nR en (fun i k y => e2 i k (by omega) (by omega) (by omega) (by omega) (by omega) (by omega))] at cq2 mq2
      have g04 : H 0 4 = 1 := by rw [e1 _ _ (by omega) (by omega), dk_up_same]
      have g6 : H 45 6 = 1 := by rw [← hH]; simp (disch := omega) only [mpl_hi, dk_up_ne, dk_up_same]
      have g26 : H 45 26 = 0 := by rw [← hH]; simp (disch := omega) only [mpl_hi, dk_up_ne, dk_up_same]
      have g59 : H 59 0 = -1 := by rw [← hH]; simp (disch := omega) only [mpl_hi, dk_up_same]
      have w38 : ∀ k, k = 6 ∨ k = 7 → H 38 k = 0 := fun k y => by
        rw [e1 _ _ (by omega) (by omega)]
        unfold ms_end
        rw [dk_up_ne _ _ (by omega), dk_up_ne _ _ (by omega), w1 38 k (by omega) (by omega)]
        rcases y with rfl | rfl <;> simp (disch := omega) only [wk_open, wk_clear, dk_up_ne, dk_up_same]
      have cp2 : cPl H p ns := cPl.fr FN3 (fun i k y y2 => by
        rw [e1 i k (by omega) (by omega)]
        unfold ms_end
        rw [dk_up_ne _ _ (by omega), dk_up_ne _ _ (by omega), c4 i k (by omega) (by omega)])
      have mp2 : mPl H p ns := fun k hk => by
        have := k2 k hk
        rw [← hH]
        simp (disch := omega) only [mpl_hi, dk_up_ne]
        exact this
      have h41 : h4 41 0 = nI 0 := by
        rw [w1 41 0 (by omega) (by omega)]
        simp (disch := omega) only [wk_open, dk_up_ne, dk_up_same]; rfl
      have g42 : ∀ s, s < 3 → H 42 s = nI (rp s) ∧ rp s < 24 := fun s hs => ⟨by rw [e2 _ _ (by omega) (by omega) (by omega) (by omega) (by omega) (by omega)]; exact (s3 s hs).1, (s3 s hs).2⟩
      have g28 : H 45 28 = nI 0 := by rw [e2 _ _ (by omega) (by omega) (by omega) (by omega) (by omega) (by omega)]; exact d28
      refine ⟨ns, nc, nj, no, jt, fun j hj => ⟨_, _, _, T2 j hj⟩, b2, ⟨by rw [g04, g6], ?_, ⟨rp, g42⟩, fun _ k hk => ?_, 0, fun i => i, w38 6 (by omega), by omega, fun i hi => absurd hi (by omega), fun _ => g28, fun y => absurd (g6.symm.trans y) (by decide)⟩, ⟨fun y => absurd (g6.symm.trans y) (by decide), fun _ => ?_⟩, FN⟩
      · rw [w38 7 (by omega), e2 45 27 (by omega) (by omega) (by omega) (by omega) (by omega) (by omega), d27]
      · obtain ⟨x1, x2, x3, x4⟩ := cp2 k hk
        obtain ⟨y1, y2, y3, y4⟩ := mp2 k hk
        exact ⟨x1.trans y1.symm, x2.trans y2.symm, x3.trans y3.symm, x4.trans y4.symm⟩
      · obtain ⟨lim, l1, l2, l3⟩ : ∃ lim, clim H = nI lim ∧ 1 ≤ lim ∧ lim ≤ 64 := by
          obtain ⟨lm, z1, z2, z3⟩ := b2.2.2.2.2.2.2.2.2
          unfold clim
          by_cases q : H 14 8 = -1
          · rw [if_pos q, b2.2.2.2.2.2.2.1]; exact ⟨lm, z3, z1, z2⟩
          · rw [if_neg q]; exact ⟨64, rfl, by omega, by omega⟩
        refine ⟨fun s => en (jt s), mkq hi jt nR en, p, (1, fun _ => l, fun _ => 0, rp, 0, fun _ _ => 0), fun i => i, fun i => i, lim, ⟨cq2, mq2, cp2, mp2⟩, ⟨aw, asu, ⟨h1, fun k hk => ?_⟩⟩, ⟨?_, fun k hk => ?_, g42, w38 6 (by omega), fun i o hi => absurd hi (Nat.not_lt_zero i), fun i hi => absurd hi (Nat.not_lt_zero i), ?_⟩, ⟨g26.trans (show (0 : Int32) = dpI 1 by decide), fun k hk => ?_, g28, fun i o hi => absurd hi (Nat.not_lt_zero i)⟩, ⟨Nat.one_pos, l2⟩, l1, l2, l3⟩
        · have hk : k < 1 := hk
          have e0 : k = 0 := by omega
          subst e0
          exact ⟨hL.symm, Nat.zero_le _, fun y => absurd y (Nat.lt_irrefl 1), fun y => absurd y (Nat.lt_irrefl 0)⟩
        · show H 38 8 = dpI (paD (fun _ => l) (fun _ => 0) 1)
          rw [e1 _ _ (by omega) (by omega)]
          unfold ms_end
          rw [dk_up_ne _ _ (by omega), dk_up_same, lfd_pa (l := fun _ => l) (x := fun _ => 0) 1 (fun k hk => ?_)]
          have e0 : k = 0 := by omega
          subst e0
          exact ⟨h41, w2.1, Nat.zero_le _, w2.2.1⟩
        · have hk : k < 1 := hk
          have e0 : k = 0 := by omega
          subst e0
          have g : ∀ i j, 39 ≤ i → i ≤ 41 → H i j = h4 i j := fun i j y y2 => by
            rw [e1 _ _ (by omega) (by omega)]
            unfold ms_end
            rw [dk_up_ne _ _ (by omega), dk_up_ne _ _ (by omega)]
          exact ⟨w2.fr (g _ _ (by omega) (by omega)) (fun i _ => g _ _ (by omega) (by omega)), by rw [g _ _ (by omega) (by omega)]; exact h41⟩
        · unfold rkF
          rcases b2.2.2.2.2.2.2.2.1 with y | ⟨o, y1, y2⟩
          · exact Or.inl ⟨b2.2.2.2.2.1.trans y, fun i hi => absurd hi (Nat.not_lt_zero i)⟩
          · exact Or.inr ⟨o, y1, b2.2.2.2.2.1.trans y2, fun i hi => absurd hi (Nat.not_lt_zero i), fun i hi => absurd hi (Nat.not_lt_zero i), fun u v _ hv => absurd hv (Nat.not_lt_zero v)⟩
        · have hk : k < 1 := hk
          have e0 : k = 0 := by omega
          subst e0
          exact g59
