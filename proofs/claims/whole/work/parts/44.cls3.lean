/-! ===== QueryDesk: a step, run ===== -/
/-- a step of the class is a read of the machine -/
theorem aC_post {hi : Nat → Nat → Int32} {hf : Nat → Nat → UInt32} {sr : Nat → Option Nat} {z : (Nat → Nat → Int64) × (Nat → Nat → UInt64)} {q : aQ} {p : aP} {ns nc nj no : Nat} {st : Nat → Nat} (hQ : cQ hi sr q ns nc nj no st) (hp : cPl hi p ns) (hW : aW q p ns nc nj) (hsur : aSur p ns) {m : aM} {R rk : Nat → Nat} (hI : mI q p ns m) (hA : aC hi no R rk m) (hr : rdP m) (ha : ma m < 64) {r' : Option Value} {h' : dk_H}
    (hP : ms_Po (wk_read hi (mD m - 1) (po p (mD m - 1)) ((ml m (mD m - 1)).getD (mx m (mD m - 1)) 0) (mx m (mD m - 1))) hf sr z st (rdR p m) R (mD m - 1) (po p (mD m - 1)) ns nc nj no (ma m) (lvL q p (rdR p m) (mD m - 1 + 1)) r' h') :
    r' = none ∧ ∃ hi' R' rk', h' = (hi', hf, dk_RF sr, z) ∧ cf2 hi hi' ∧ hi' 38 7 = hi 38 7 + 1 ∧ aC hi' no R' rk' (rdM q p ns nc nj m) := by
  have hns := hQ.1.1.2.1
  have hno := hQ.2.1.2.1
  have hnj := hQ.1.2.2.1.2.1
  have hD := hI.1
  have h0 := hr.1
  obtain ⟨d, hd⟩ : ∃ d, mD m = d + 1 := ⟨mD m - 1, by omega⟩
  have hd1 : mD m - 1 = d := by omega
  have hIr := hI.rd (nc := nc) hW hnj hr
  have hrtop := rdR_top p m
  have hrlt := rdR_lt hI hr
  rw [hd1] at hP hrtop hrlt
  obtain ⟨a1, a2, a3, a4, a5, a6, a7⟩ := hA
  have hdn : d < ns := by omega
  obtain ⟨hpo, hinj, -⟩ := hW d hdn
  have h24 : qn q (po p d) ≤ 24 := (hQ.1.1.2.2 _ hpo).2.2.2
  generalize hx0 : (ml m d).getD (mx m d) 0 = x0 at *
  generalize hh3 : wk_read hi d (po p d) x0 (mx m d) = h3 at *
  have n3 : ∀ i j, i ≠ 42 ∧ i ≠ 41 ∧ (i ≠ 38 ∨ j ≠ 7) → h3 i j = hi i j := fun i j h => by rw [← hh3]; exact wk_read_ne h
  have c3 : cf2 hi h3 := fun i j h => n3 i j (by omega)
  have r42 : ∀ s, s < 3 → h3 42 s = nI (rdR p m s) ∧ rdR p m s < 24 := by
    intro s hs
    by_cases e : s = po p d
    · rw [e, hrtop]
      refine ⟨?_, by omega⟩
      rw [← hh3, wk_read, dk_up_ne _ _ (Or.inl (by decide)), dk_up_ne _ _ (Or.inl (by decide)), dk_up_same]
    · have e2 : rdR p m s = mr m s := by unfold rdR; rw [hd1, if_neg e]
      rw [e2]
      refine ⟨?_, (a3 s hs).2⟩
      rw [← hh3, wk_read, dk_up_ne _ _ (Or.inl (by decide)), dk_up_ne _ _ (Or.inl (by decide)), dk_up_ne _ _ (Or.inr e)]
      exact (a3 s hs).1
  have r41 : ∀ k, k < mD m → h3 41 k = nI (rdX m k) := by
    intro k hk
    unfold rdX
    rw [hd1, ← hh3, wk_read, dk_up_ne _ _ (Or.inl (by decide))]
    by_cases e : k = d
    · subst e; rw [dk_up_same, if_pos rfl]
    · rw [dk_up_ne _ _ (Or.inr e), dk_up_ne _ _ (Or.inl (by decide)), if_neg e]
      exact (a2 k hk).2
  have r37 : h3 38 7 = hi 38 7 + 1 := by rw [← hh3, wk_read, dk_up_same]
  have rL : ∀ k, k < mD m → wk_L h3 k (ml m k) := fun k hk => (a2 k hk).1.fr (n3 _ _ (by omega)) (fun i _ => n3 _ _ (by omega))
  have hrp : ∀ i, i ≤ d → rdR p m (po p i) < qn q (po p i) := by
    intro i hi9
    rcases Nat.lt_or_eq_of_le hi9 with y | y
    · rw [rdR_low hW hD h0 (by omega)]
      exact hI.lt (by omega) ((hI.2 i (by omega)).2.2.1 (by omega))
    · rw [y]; exact hrlt
  have hQ3 : cQ h3 sr q ns nc nj no st := hQ.fr (fun i j h => n3 i j (by omega))
  have hp3 : cPl h3 p ns := hp.fr (fun i j g1 g2 => n3 i j (by omega))
  have hpass := cPass hQ3 hp3 hW hdn hrp
  have xle : ∀ k, k < mD m → rdX m k ≤ (ml m k).length := by
    intro k hk
    unfold rdX
    rw [hd1]
    split
    · rename_i e; subst e; have := hr.2; rw [hd1] at this; exact this
    · exact (hI.2 k hk).2.1
  have lfd0 : ∀ h4 : Nat → Nat → Int32, (∀ k, k < mD m → h4 41 k = h3 41 k ∧ h4 40 k = h3 40 k) → lfd (h4 41) (h4 40) (d + 1) = paD (ml m) (rdX m) (mD m) := by
    intro h4 hh
    rw [← hd]
    exact lfd_pa (mD m) (fun k hk => ⟨by rw [(hh k hk).1]; exact r41 k hk, by rw [(hh k hk).2]; exact (rL k hk).1, xle k hk, (rL k hk).2.1⟩)
  obtain ⟨rfl, h4, d4, rfl, hc⟩ := hP
  refine ⟨rfl, ?_⟩
  have ne4 : ∀ i j, i ≠ 38 ∨ j ≠ 8 → ms_end h4 d4 i j = h4 i j := fun i j h => by unfold ms_end; exact dk_up_ne _ _ h
  have e8 : ms_end h4 d4 38 8 = dpI (lfd (h4 41) (h4 40) d4) := by unfold ms_end; exact dk_up_same _ _ _ _
  rcases hc with ⟨g1, g2, g3⟩ | ⟨g1, g2, g3, k, g4, g5, g6, g7⟩ | ⟨g1, g2, g3, g4, g5⟩
  · subst g2 g3
    have hrd : rdM q p ns nc nj m = (mD m, ml m, rdX m, rdR p m, ma m, mF m) := by
      unfold rdM
      rw [hd1, if_neg (by rw [bP_f (fun y => g1 (hpass.mpr y))]; decide)]
    refine ⟨_, R, rk, rfl, fun i j h => by rw [ne4 i j (by omega)]; exact c3 i j h, by rw [ne4 _ _ (by omega)]; exact r37, ?_⟩
    rw [hrd]
    refine ⟨?_, fun k hk => ⟨(rL k hk).fr (ne4 _ _ (by omega)) (fun i _ => ne4 _ _ (by omega)), by rw [ne4 _ _ (by omega)]; exact r41 k hk⟩, fun s hs => ⟨by rw [ne4 _ _ (by omega)]; exact (r42 s hs).1, (r42 s hs).2⟩, by rw [ne4 _ _ (by omega), n3 _ _ (by omega)]; exact a4, fun i o y1 y2 => by rw [ne4 _ _ (by omega), n3 _ _ (by omega)]; exact a5 i o y1 y2, fun i y1 => ⟨by rw [ne4 _ _ (by omega), n3 _ _ (by omega)]; exact (a6 i y1).1, (a6 i y1).2⟩, ?_⟩
    · rw [e8, lfd0 _ (fun _ _ => ⟨rfl, rfl⟩)]
    · unfold rkF
      rw [ne4 _ _ (by omega), n3 _ _ (by omega), ne4 _ _ (by omega), n3 _ _ (by omega)]
      exact a7
  · subst g3 g7
    have hps := hpass.mp g1
    have hrd : rdM q p ns nc nj m = (mD m, ml m, rdX m, rdR p m, ma m + 1, fun i o => if i = ma m then gvv q (rdR p m) o else mF m i o) := by
      unfold rdM
      rw [hd1, if_pos (bP_t hps), if_pos (by omega)]
    have n4 : ∀ i j, i ≠ 43 ∧ i ≠ 44 ∧ (i ≠ 38 ∨ j ≠ 6) → ka_f h3 st (rdR p m) (ma m) no k i j = h3 i j := fun i j h => ka_f_ne _ _ _ _ _ _ h
    have hall : ∀ s, s < ns → rdR p m s < qn q s := fun s hs => by
      obtain ⟨i, i1, i2⟩ := hsur s hs
      rw [← i2]; exact hrp i (by omega)
    have eov : ∀ o, o < no → ov h3 st (rdR p m) o = gvv q (rdR p m) o := by
      intro o ho
      obtain ⟨⟨b1, b2⟩, b3, b4⟩ := hQ3.2.2.2.2.2 o ho
      unfold ov rdv gvv
      rw [b3, b4, cl_nI (by omega), cl_nI (by omega)]
      exact hQ3.2.2.1 _ _ _ b1 b2 (hall _ b1)
    have e43 : ∀ i o, i < ma m + 1 → o < no → ka_w h3 st (rdR p m) (ma m) no 43 (i * 4 + o) = (if i = ma m then gvv q (rdR p m) o else mF m i o) := by
      intro i o y1 y2
      rw [ka_w_43]
      by_cases e : i = ma m
      · rw [if_pos (by omega), if_pos e, show i * 4 + o - ma m * 4 = o by omega]; exact eov o y2
      · rw [if_neg (by omega), if_neg e, n3 _ _ (by omega)]; exact a5 i o (by omega) y2
    have e14 : ∀ j, ka_w h3 st (rdR p m) (ma m) no 14 j = hi 14 j := fun j => by rw [ka_w_ne (by decide), n3 _ _ (by omega)]
    refine ⟨_, insR R k (ma m), insK rk k (ma m), rfl, fun i j h => by rw [ne4 i j (by omega), n4 i j (by omega)]; exact c3 i j h, by rw [ne4 _ _ (by omega), n4 _ _ (by omega)]; exact r37, ?_⟩
    rw [hrd]
    refine ⟨?_, fun k hk => ⟨(rL k hk).fr ((ne4 _ _ (by omega)).trans (n4 _ _ (by omega))) (fun i _ => (ne4 _ _ (by omega)).trans (n4 _ _ (by omega))), by rw [ne4 _ _ (by omega), n4 _ _ (by omega)]; exact r41 k hk⟩, fun s hs => ⟨by rw [ne4 _ _ (by omega), n4 _ _ (by omega)]; exact (r42 s hs).1, (r42 s hs).2⟩, ?_, fun i o y1 y2 => ?_, fun i y1 => ?_, ?_⟩
    · rw [e8, lfd0 _ (fun k _ => ⟨n4 _ _ (by omega), n4 _ _ (by omega)⟩)]
    · rw [ne4 _ _ (by omega)]; unfold ka_f; exact dk_up_same _ _ _ _
    · rw [ne4 _ _ (by omega), ka_f_43]; exact e43 i o y1 y2
    · have y2 : i < ma m + 1 := y1
      rw [ne4 _ _ (by omega), ka_f_44 _ _ _ g4 (by omega)]
      unfold insR
      by_cases e1 : i < k
      · rw [if_pos e1, if_pos e1, n3 _ _ (by omega)]; exact a6 i (by omega)
      · rw [if_neg e1, if_neg e1]
        by_cases e2 : i = k
        · rw [if_pos e2, if_pos e2]; exact ⟨rfl, ha⟩
        · rw [if_neg e2, if_neg e2, n3 _ _ (by omega)]; exact a6 (i - 1) (by omega)
    · unfold rkF
      rw [ne4 _ _ (by omega), n4 _ _ (by omega), n3 _ _ (by omega), ne4 _ _ (by omega), n4 _ _ (by omega), n3 _ _ (by omega)]
      rcases a7 with ⟨b1, b2⟩ | ⟨o, b1, b2, b3⟩
      · left
        refine ⟨b1, fun i y1 => ?_⟩
        have y2 : i < ma m + 1 := y1
        have hk : k = ma m := by
          rcases Nat.lt_or_eq_of_le g4 with y | y
          · have h9 := (g6 k (Nat.le_refl _) y).1
            rw [e14] at h9
            exact absurd b1 h9
          · exact y
        unfold insR
        by_cases e1 : i < k
        · rw [if_pos e1]; exact b2 i (by omega)
        · rw [if_neg e1, if_pos (by omega)]; omega
      · right
        refine ⟨o, b1, b2, b3.ins (fun x hx => if_neg (by omega)) g4 ?_ (fun i y1 y2 => ?_)⟩
        · rcases g5 with y | y
          · exact Or.inl y
          · by_cases e0 : k = 0
            · exact Or.inl e0
            · right
              have hR := b3.1 (k - 1) (by omega)
              apply Bool.eq_false_iff.mpr
              intro h9
              refine y ⟨by rw [e14, b2]; exact nI_ne_m1 (by omega), ?_⟩
              rw [e14, e14, b2, cl_nI (by omega), e43 _ _ (by omega) b1, e43 _ _ (by omega) b1]
              exact h9
        · have h9 := (g6 i y1 y2).2
          have hR := b3.1 i y2
          rw [e14, e14, b2, cl_nI (by omega), e43 _ _ (by omega) b1, e43 _ _ (by omega) b1] at h9
          exact h9
  · subst g3
    have hps := hpass.mp g1
    have hrd : rdM q p ns nc nj m = (mD m + 1, (fun k => if k = mD m then lvL q p (rdR p m) (mD m) else ml m k), (fun k => if k = mD m then 0 else rdX m k), rdR p m, ma m, mF m) := by
      unfold rdM
      rw [hd1, if_pos (bP_t hps), if_neg (by omega)]
    have wo : ∀ i j, (i ≠ 38 ∨ j ≠ 8) → (i ≠ 41 ∨ j ≠ d + 1) → (i ≠ 40 ∨ j ≠ d + 1) → wk_open h3 (d + 1) i j = h3 i j := fun i j y1 y2 y3 => by
      unfold wk_open
      rw [dk_up_ne _ _ y3, dk_up_ne _ _ y2, dk_up_ne _ _ y1]
    have n4 : ∀ i j, i ≠ 39 ∧ i ≠ 40 → (i ≠ 38 ∨ j ≠ 8) → (i ≠ 41 ∨ j ≠ d + 1) → h4 i j = h3 i j := fun i j y1 y2 y3 => by rw [g4.cell y1, wo i j y2 y3 (by omega)]
    have l41 : h4 41 (d + 1) = 0 := by
      rw [g4.cell (by decide), wk_open, dk_up_ne _ _ (Or.inl (by decide)), dk_up_same]
    have lw : ∀ k, k < mD m → h4 40 k = h3 40 k ∧ h4 41 k = h3 41 k ∧ ∀ i, i < 24 → h4 39 (k * 24 + i) = h3 39 (k * 24 + i) := fun k hk =>
      ⟨by rw [g4 40 k (by omega) (by omega), wo _ _ (by omega) (by omega) (by omega)], n4 _ _ (by omega) (by omega) (by omega), fun i hi9 => by rw [g4 39 _ (by omega) (by omega), wo _ _ (by omega) (by omega) (by omega)]⟩
    refine ⟨_, R, rk, rfl, fun i j h => by rw [ne4 i j (by omega), n4 i j (by omega) (by omega) (by omega)]; exact c3 i j h, by rw [ne4 _ _ (by omega), n4 _ _ (by omega) (by omega) (by omega)]; exact r37, ?_⟩
    rw [hrd]
    have g5' : wk_L h4 (mD m) (lvL q p (rdR p m) (mD m)) := by rw [hd]; exact g5
    refine ⟨?_, fun k hk => ?_, fun s hs => ⟨by rw [ne4 _ _ (by omega), n4 _ _ (by omega) (by omega) (by omega)]; exact (r42 s hs).1, (r42 s hs).2⟩, by rw [ne4 _ _ (by omega), n4 _ _ (by omega) (by omega) (by omega), n3 _ _ (by omega)]; exact a4, fun i o y1 y2 => by rw [ne4 _ _ (by omega), n4 _ _ (by omega) (by omega) (by omega), n3 _ _ (by omega)]; exact a5 i o y1 y2, fun i y1 => ⟨by rw [ne4 _ _ (by omega), n4 _ _ (by omega) (by omega) (by omega), n3 _ _ (by omega)]; exact (a6 i y1).1, (a6 i y1).2⟩, ?_⟩
    · rw [e8]
      congr 1
      show lfd (h4 41) (h4 40) (d + 2) = paD (fun k => if k = mD m then lvL q p (rdR p m) (mD m) else ml m k) (fun k => if k = mD m then 0 else rdX m k) (mD m + 1)
      rw [hd]
      refine lfd_pa (d + 2) (fun k hk => ?_)
      by_cases e : k = d + 1
      · subst e
        simp only [if_true]
        rw [hd] at g5'
        exact ⟨l41, g5'.1, Nat.zero_le _, g5'.2.1⟩
      · simp only [if_neg e]
        obtain ⟨y1, y2, y3⟩ := lw k (by omega)
        exact ⟨by rw [y2]; exact r41 k (by omega), by rw [y1]; exact (rL k (by omega)).1, xle k (by omega), (rL k (by omega)).2.1⟩
    · have hk' : k < mD m + 1 := hk
      show wk_L (ms_end h4 (d + 2)) k (if k = mD m then lvL q p (rdR p m) (mD m) else ml m k) ∧ ms_end h4 (d + 2) 41 k = nI (if k = mD m then 0 else rdX m k)
      by_cases e : k = mD m
      · simp only [if_pos e]
        rw [e]
        refine ⟨g5'.fr (ne4 _ _ (by omega)) (fun i _ => ne4 _ _ (by omega)), ?_⟩
        rw [ne4 _ _ (by omega), hd]
        exact l41
      · simp only [if_neg e]
        obtain ⟨y1, y2, y3⟩ := lw k (by omega)
        refine ⟨(rL k (by omega)).fr ((ne4 _ _ (by omega)).trans y1) (fun i hi9 => (ne4 _ _ (by omega)).trans (y3 i hi9)), ?_⟩
        rw [ne4 _ _ (by omega), y2]
        exact r41 k (by omega)
    · unfold rkF
      rw [ne4 _ _ (by omega), n4 _ _ (by omega) (by omega) (by omega), n3 _ _ (by omega), ne4 _ _ (by omega), n4 _ _ (by omega) (by omega) (by omega), n3 _ _ (by omega)]
      exact a7
