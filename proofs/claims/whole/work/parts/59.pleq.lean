/-! ===== planning: class and model alike ===== -/
def pS (h : Nat → Nat → Int32) (f : Nat → Nat → UInt32) (g : gG) (st : Nat → Nat) (nc nj : Nat) : Prop :=
  (nc ≤ 4 ∧ nj ≤ 3) ∧ (∀ i, i < nc → ∃ c, (gsrc g i < 3 ∧ c < 4 ∧ st (gsrc g i) < 14) ∧ h (17 + i) 0 = nI (gsrc g i) ∧ h (17 + i) 1 = nI c ∧ h (17 + i) 2 = gop g i ∧ f 31 i = gsh g i ∧ h (st (gsrc g i) + 3) (c * 2) = gx g 0 i ∧ h (st (gsrc g i) + 3) (c * 2 + 1) = gx g 1 i) ∧
  ∀ j, j < nj → (∀ e, e < 2 → ∃ c, (gje g j e < 3 ∧ c < 4 ∧ st (gje g j e) < 14) ∧ h (22 + j) (2 * e) = nI (gje g j e) ∧ h (22 + j) (2 * e + 1) = nI c ∧ h (st (gje g j e) + 3) (c * 2) = gjx g j e 0 ∧ h (st (gje g j e) + 3) (c * 2 + 1) = gjx g j e 1) ∧ f 32 j = gjs g j 0 ∧ f 33 j = gjs g j 1
theorem pS.fr {h h' : Nat → Nat → Int32} {f f' : Nat → Nat → UInt32} {g : gG} {st : Nat → Nat} {nc nj : Nat} (S : pS h f g st nc nj) (e : ∀ i j, i < 34 → h' i j = h i j) (e2 : ∀ i j, i ≠ 30 → f' i j = f i j) : pS h' f' g st nc nj := by
  obtain ⟨b, c, d⟩ := S
  refine ⟨b, fun i hi => ?_, fun j hj => ⟨fun x hx => ?_, ?_, ?_⟩⟩
  · obtain ⟨c, k, r⟩ := c i hi
    refine ⟨c, k, ?_⟩
    rw [e _ _ (by omega), e _ _ (by omega), e _ _ (by omega), e2 _ _ (by omega), e _ _ (by omega), e _ _ (by omega)]; exact r
  · obtain ⟨c, k, r⟩ := (d j hj).1 x hx
    refine ⟨c, k, ?_⟩
    rw [e _ _ (by omega), e _ _ (by omega), e _ _ (by omega), e _ _ (by omega)]; exact r
  · rw [e2 _ _ (by omega)]; exact (d j hj).2.1
  · rw [e2 _ _ (by omega)]; exact (d j hj).2.2
theorem pl_fC_eq {h : Nat → Nat → Int32} {f : Nat → Nat → UInt32} {g : gG} {st : Nat → Nat} {nc nj : Nat} (S : pS h f g st nc nj) {k s : Nat} (hk : h 34 k = nI s) (hs : s < 3) (b : pl_B) : ∀ i, i ≤ nc → pl_fC h f k (st s) (gnR g s) i b = gC g s i b
  | 0, _ => rfl
  | i + 1, hi => by
    obtain ⟨c, ⟨k1, k2, k3⟩, r0, r1, r2, r3, r4, r5⟩ := S.2.1 i (by omega)
    rw [pl_fC, gC, pl_fC_eq S hk hs b i (by omega), r0, hk, r1, r2, r3, nI_clamp (by omega)]
    by_cases q : gsrc g i = s
    · rw [q] at r4 r5
      rw [if_pos (by rw [q]), if_pos q, r4, r5]
    · rw [if_neg (fun y => q ((nI_eq (by omega) (by omega)).mp y)), if_neg q]
theorem pl_bef_eq {h : Nat → Nat → Int32} {od : Nat → Nat} {k x : Nat} (ho : ∀ i, i < k → h 34 i = nI (od i) ∧ od i < 3) (hx : x < 3) : pl_bef h (nI x) k = bfo od k x := by
  unfold pl_bef bfo
  rw [Bool.eq_iff_iff, List.any_eq_true, List.any_eq_true]
  refine ⟨fun ⟨i, h1, h2⟩ => ⟨i, h1, ?_⟩, fun ⟨i, h1, h2⟩ => ⟨i, h1, ?_⟩⟩
  · have h3 := of_decide_eq_true h2
    have h4 := ho i (List.mem_range.mp h1)
    rw [h4.1, nI_eq (by omega) (by omega)] at h3
    exact decide_eq_true h3
  · have h3 := of_decide_eq_true h2
    have h4 := ho i (List.mem_range.mp h1)
    exact decide_eq_true (by rw [h4.1, h3])
theorem pl_ties_eq {h : Nat → Nat → Int32} {f : Nat → Nat → UInt32} {g : gG} {st : Nat → Nat} {nc nj : Nat} (S : pS h f g st nc nj) {k : Nat} {od : Nat → Nat} (ho : ∀ i, i ≤ k → h 34 i = nI (od i) ∧ od i < 3) {j : Nat} (hj : j < nj) : pl_ties h (22 + j) k = gT g (bfo od k) (od k) j := by
  obtain ⟨c0, ⟨k1, k2, k3⟩, r0, r1, _⟩ := (S.2.2 j hj).1 0 (by decide)
  obtain ⟨c1, ⟨l1, l2, l3⟩, t0, t1, _⟩ := (S.2.2 j hj).1 1 (by decide)
  have r0 : h (22 + j) 0 = nI (gje g j 0) := r0
  have t0 : h (22 + j) 2 = nI (gje g j 1) := t0
  have hs := (ho k (Nat.le_refl k)).2
  unfold pl_ties gT gE
  rw [r0, t0, (ho k (Nat.le_refl k)).1]
  have e1 : decide (nI (gje g j 0) = nI (od k) ∨ nI (gje g j 1) = nI (od k)) = decide (gje g j 0 = od k ∨ gje g j 1 = od k) := by
    refine decide_eq_decide.mpr ?_
    rw [nI_eq (by omega) (by omega), nI_eq (by omega) (by omega)]
  rw [e1]
  by_cases q : gje g j 0 = od k
  · rw [if_pos (by rw [q]), if_pos q, pl_bef_eq (od := od) (fun i hi => ho i (by omega)) l1]
  · rw [if_neg (fun y => q ((nI_eq (by omega) (by omega)).mp y)), if_neg q, pl_bef_eq (od := od) (fun i hi => ho i (by omega)) k1]
theorem pl_js_eq {h : Nat → Nat → Int32} {f : Nat → Nat → UInt32} {g : gG} {st : Nat → Nat} {nc nj : Nat} (S : pS h f g st nc nj) {k s : Nat} (hk : h 34 k = nI s) (hs : s < 3) {j : Nat} (hj : j < nj) : pl_js h f j k = gjs g j (gE g s j) := by
  obtain ⟨c0, ⟨k1, k2, k3⟩, r0, r1, _⟩ := (S.2.2 j hj).1 0 (by decide)
  have r0 : h (22 + j) 0 = nI (gje g j 0) := r0
  unfold pl_js gE
  rw [r0, hk]
  by_cases q : gje g j 0 = s
  · rw [if_pos (by rw [q]), if_pos q]; exact (S.2.2 j hj).2.1
  · rw [if_neg (fun y => q ((nI_eq (by omega) (by omega)).mp y)), if_neg q]; exact (S.2.2 j hj).2.2
theorem gT_1 {g : gG} {bef : Nat → Bool} {s j : Nat} (h : gT g bef s j = true) : gje g j (gE g s j) = s := by
  unfold gT at h
  rw [Bool.and_eq_true] at h
  have h1 := of_decide_eq_true h.1
  unfold gE
  by_cases q : gje g j 0 = s
  · rw [if_pos q]; exact q
  · rw [if_neg q]
    rcases h1 with y | y
    · exact absurd y q
    · exact y
theorem pl_fJ_eq {h : Nat → Nat → Int32} {f : Nat → Nat → UInt32} {g : gG} {st : Nat → Nat} {nc nj : Nat} (S : pS h f g st nc nj) {k : Nat} {od : Nat → Nat} (ho : ∀ i, i ≤ k → h 34 i = nI (od i) ∧ od i < 3) (b : pl_B) : ∀ j, j ≤ nj → pl_fJ h f k (st (od k)) (gnR g (od k)) j b = gJ g (bfo od k) (od k) j b
  | 0, _ => rfl
  | j + 1, hj => by
    obtain ⟨ho1, ho2⟩ := ho k (Nat.le_refl k)
    rw [pl_fJ, gJ, pl_fJ_eq S ho b j (by omega), pl_ties_eq S ho (by omega)]
    by_cases q : gT g (bfo od k) (od k) j = true
    · rw [if_pos q, if_pos q, pl_js_eq S ho1 ho2 (by omega)]
      have e := gT_1 q
      obtain ⟨c, ⟨k1, k2, k3⟩, r0, r1, r2, r3⟩ := (S.2.2 j (by omega)).1 (gE g (od k) j) (gE_2 _ _ _)
      have ec : pl_jc h (22 + j) k = nI c := by
        obtain ⟨c0, ⟨p1, p2, p3⟩, s0, s1, _⟩ := (S.2.2 j (by omega)).1 0 (by decide)
        have s0 : h (22 + j) 0 = nI (gje g j 0) := s0
        unfold pl_jc
        rw [s0, ho1]
        by_cases q2 : gje g j 0 = od k
        · rw [if_pos (by rw [q2])]
          have : gE g (od k) j = 0 := if_pos q2
          rw [this] at r1; exact r1
        · rw [if_neg (fun y => q2 ((nI_eq (by omega) (by omega)).mp y))]
          have : gE g (od k) j = 1 := if_neg q2
          rw [this] at r1; exact r1
      rw [e] at r2 r3
      rw [ec, nI_clamp (by omega), r2, r3]
    · rw [if_neg q, if_neg q]
theorem pl_best_eq {h : Nat → Nat → Int32} {f : Nat → Nat → UInt32} {g : gG} {st : Nat → Nat} {nc nj : Nat} (S : pS h f g st nc nj) {k : Nat} {od : Nat → Nat} (ho : ∀ i, i ≤ k → h 34 i = nI (od i) ∧ od i < 3) : pl_best h f k (st (od k)) (gnR g (od k)) nc nj = gB g (bfo od k) nc nj (od k) := by
  unfold pl_best gB
  rw [pl_fC_eq S (ho k (Nat.le_refl k)).1 (ho k (Nat.le_refl k)).2 _ nc (Nat.le_refl _), pl_fJ_eq S ho _ nj (Nat.le_refl _)]
theorem pl_nC_eq {h : Nat → Nat → Int32} {f : Nat → Nat → UInt32} {g : gG} {st : Nat → Nat} {nc nj : Nat} (S : pS h f g st nc nj) {k s : Nat} (hk : h 34 k = nI s) (hs : s < 3) (b : UInt32) : ∀ i, i ≤ nc → pl_nC h f k i b = gNC g s i b
  | 0, _ => rfl
  | i + 1, hi => by
    obtain ⟨c, ⟨k1, k2, k3⟩, r0, r1, r2, r3, r4, r5⟩ := S.2.1 i (by omega)
    rw [pl_nC, gNC, pl_nC_eq S hk hs b i (by omega), r0, hk, r3]
    by_cases q : gsrc g i = s
    · rw [if_pos (by rw [q]), if_pos q]
    · rw [if_neg (fun y => q ((nI_eq (by omega) (by omega)).mp y)), if_neg q]
theorem pl_nJ_eq {h : Nat → Nat → Int32} {f : Nat → Nat → UInt32} {g : gG} {st : Nat → Nat} {nc nj : Nat} (S : pS h f g st nc nj) {k : Nat} {od : Nat → Nat} (ho : ∀ i, i ≤ k → h 34 i = nI (od i) ∧ od i < 3) (b : UInt32) : ∀ j, j ≤ nj → pl_nJ h f k j b = gNJ g (bfo od k) (od k) j b
  | 0, _ => rfl
  | j + 1, hj => by
    obtain ⟨ho1, ho2⟩ := ho k (Nat.le_refl k)
    rw [pl_nJ, gNJ, pl_nJ_eq S ho b j (by omega), pl_ties_eq S ho (by omega), pl_js_eq S ho1 ho2 (by omega)]
theorem pl_cnt_eq {h : Nat → Nat → Int32} {f : Nat → Nat → UInt32} {g : gG} {st : Nat → Nat} {nc nj : Nat} (S : pS h f g st nc nj) {k : Nat} {od : Nat → Nat} (ho : ∀ i, i ≤ k → h 34 i = nI (od i) ∧ od i < 3) (c : UInt32) : pl_cnt h f k (gnR g (od k)) nc nj c = gN g (bfo od k) nc nj (od k) c := by
  unfold pl_cnt gN
  rw [pl_nC_eq S (ho k (Nat.le_refl k)).1 (ho k (Nat.le_refl k)).2 _ nc (Nat.le_refl _), pl_nJ_eq S ho _ nj (Nat.le_refl _)]
theorem pl_try_eq {h : Nat → Nat → Int32} {f : Nat → Nat → UInt32} {g : gG} {st : Nat → Nat} {nc nj : Nat} (S : pS h f g st nc nj) {od : Nat → Nat} : ∀ k, (∀ i, i < k → od i < 3) → (∀ i, i < k → (pl_try h f od st (gnR g) nc nj k).1 34 i = nI (od i) ∧ (pl_try h f od st (gnR g) nc nj k).1 35 i = (gB g (bfo od i) nc nj (od i)).2.1 ∧ (pl_try h f od st (gnR g) nc nj k).1 36 i = (gB g (bfo od i) nc nj (od i)).2.2.1 ∧ (pl_try h f od st (gnR g) nc nj k).1 37 i = (gB g (bfo od i) nc nj (od i)).2.2.2) ∧ (pl_try h f od st (gnR g) nc nj k).2.2 = gcc g nc nj od k
  | 0, _ => ⟨fun i hi => absurd hi (by omega), rfl⟩
  | k + 1, ho => by
    obtain ⟨i1, i2⟩ := pl_try_eq S k (fun i hi => ho i (by omega))
    obtain ⟨f1, f2⟩ := pl_try_fr (hi := h) (hf := f) (od := od) (st := st) (nR := gnR g) (nc := nc) (nj := nj) k
    have S1 : pS (dk_up (pl_try h f od st (gnR g) nc nj k).1 34 k (nI (od k))) (pl_try h f od st (gnR g) nc nj k).2.1 g st nc nj := S.fr (fun i j y => by rw [dk_up_ne _ _ (by omega)]; exact f1 i j (Or.inl y)) f2
    have o1 : ∀ i, i ≤ k → (dk_up (pl_try h f od st (gnR g) nc nj k).1 34 k (nI (od k))) 34 i = nI (od i) ∧ od i < 3 := fun i hi => by
      refine ⟨?_, ho i (by omega)⟩
      by_cases q : i = k
      · rw [q, dk_up_same]
      · rw [dk_up_ne _ _ (by omega)]; exact (i1 i (by omega)).1
    have eb := pl_best_eq S1 o1
    generalize hp : pl_try h f od st (gnR g) nc nj k = P at *
    have e0 : pl_try h f od st (gnR g) nc nj (k + 1) = (pl_hi (dk_up P.1 34 k (nI (od k))) k (gB g (bfo od k) nc nj (od k)), pl_hf P.2.1 (gB g (bfo od k) nc nj (od k)), pl_cnt (pl_hi (dk_up P.1 34 k (nI (od k))) k (gB g (bfo od k) nc nj (od k))) (pl_hf P.2.1 (gB g (bfo od k) nc nj (od k))) k (gnR g (od k)) nc nj P.2.2.1, FP.fadd P.2.2.2 (FP.fmul P.2.2.1 (gB g (bfo od k) nc nj (od k)).1)) := by
      show (let p := pl_try h f od st (gnR g) nc nj k
            let h1 := dk_up p.1 34 k (nI (od k))
            let b := pl_best h1 p.2.1 k (st (od k)) (gnR g (od k)) nc nj
            (pl_hi h1 k b, pl_hf p.2.1 b, pl_cnt (pl_hi h1 k b) (pl_hf p.2.1 b) k (gnR g (od k)) nc nj p.2.2.1, FP.fadd p.2.2.2 (FP.fmul p.2.2.1 b.1))) = _
      rw [hp]
      show (pl_hi (dk_up P.1 34 k (nI (od k))) k (pl_best (dk_up P.1 34 k (nI (od k))) P.2.1 k (st (od k)) (gnR g (od k)) nc nj), _) = _
      rw [eb]
    rw [e0]
    refine ⟨fun i hi => ?_, ?_⟩
    · show pl_hi (dk_up P.1 34 k (nI (od k))) k (gB g (bfo od k) nc nj (od k)) 34 i = nI (od i) ∧ pl_hi (dk_up P.1 34 k (nI (od k))) k (gB g (bfo od k) nc nj (od k)) 35 i = _ ∧ pl_hi (dk_up P.1 34 k (nI (od k))) k (gB g (bfo od k) nc nj (od k)) 36 i = _ ∧ pl_hi (dk_up P.1 34 k (nI (od k))) k (gB g (bfo od k) nc nj (od k)) 37 i = _
      by_cases q : i = k
      · rw [q]
        refine ⟨?_, ?_, ?_, ?_⟩ <;> simp (disch := omega) only [pl_hi, dk_up_ne, dk_up_same]
      · have := i1 i (by omega)
        refine ⟨?_, ?_, ?_, ?_⟩ <;> simp (disch := omega) only [pl_hi, dk_up_ne]
        · exact this.1
        · exact this.2.1
        · exact this.2.2.1
        · exact this.2.2.2
    · have S2 : pS (pl_hi (dk_up P.1 34 k (nI (od k))) k (gB g (bfo od k) nc nj (od k))) (pl_hf P.2.1 (gB g (bfo od k) nc nj (od k))) g st nc nj := S1.fr (fun i j y => by simp (disch := omega) only [pl_hi, dk_up_ne]) (fun i j y => by simp (disch := omega) only [pl_hf, dk_up_ne])
      have ec := pl_cnt_eq S2 (od := od) (k := k) (fun i hi => by
        refine ⟨?_, ho i (by omega)⟩
        have := (o1 i hi).1
        simp (disch := omega) only [pl_hi, dk_up_ne] at this ⊢
        exact this) P.2.2.1
      show (pl_cnt (pl_hi (dk_up P.1 34 k (nI (od k))) k (gB g (bfo od k) nc nj (od k))) (pl_hf P.2.1 (gB g (bfo od k) nc nj (od k))) k (gnR g (od k)) nc nj P.2.2.1, FP.fadd P.2.2.2 (FP.fmul P.2.2.1 (gB g (bfo od k) nc nj (od k)).1)) = gcc g nc nj od (k + 1)
      rw [ec, gcc, i2]
/-- the cheapest order, by strict comparison -/
def aCh (g : gG) (ns nc nj : Nat) (O : Nat → Nat → Nat) : Nat → Nat × UInt32
  | 0 => (0, (gcc g nc nj (O 0) ns).2)
  | i + 1 => if 0 ≤ Op.cmpValue (FP.fcmp (gcc g nc nj (O (i + 1)) ns).2 (aCh g ns nc nj O i).2) .g then aCh g ns nc nj O i else (i + 1, (gcc g nc nj (O (i + 1)) ns).2)
theorem pl_ch_eq {h : Nat → Nat → Int32} {f : Nat → Nat → UInt32} {g : gG} {st : Nat → Nat} {ns nc nj : Nat} (S : pS h f g st nc nj) : ∀ m, (∀ num, num ≤ m → ∀ k, k < ns → pl_od ns num k < 3) → (pl_ch h f st (gnR g) ns nc nj m).2.2 = aCh g ns nc nj (pl_od ns) m
  | 0, ho => by
    show (0, (pl_try h f (pl_od ns 0) st (gnR g) nc nj ns).2.2.2) = (0, (gcc g nc nj (pl_od ns 0) ns).2)
    rw [(pl_try_eq S ns (ho 0 (by omega))).2]
  | m + 1, ho => by
    have ih := pl_ch_eq S m (fun num hn => ho num (by omega))
    obtain ⟨f1, f2, _⟩ := pl_ch_fr (hi := h) (hf := f) (st := st) (nR := gnR g) (ns := ns) (nc := nc) (nj := nj) m
    have S1 : pS (pl_ch h f st (gnR g) ns nc nj m).1 (pl_ch h f st (gnR g) ns nc nj m).2.1 g st nc nj := S.fr (fun i j y => f1 i j (Or.inl y)) f2
    have e := (pl_try_eq S1 (od := pl_od ns (m + 1)) ns (ho (m + 1) (by omega))).2
    show (if 0 ≤ Op.cmpValue (FP.fcmp (pl_try (pl_ch h f st (gnR g) ns nc nj m).1 (pl_ch h f st (gnR g) ns nc nj m).2.1 (pl_od ns (m + 1)) st (gnR g) nc nj ns).2.2.2 (pl_ch h f st (gnR g) ns nc nj m).2.2.2) .g then (pl_ch h f st (gnR g) ns nc nj m).2.2.1 else m + 1, if 0 ≤ Op.cmpValue (FP.fcmp (pl_try (pl_ch h f st (gnR g) ns nc nj m).1 (pl_ch h f st (gnR g) ns nc nj m).2.1 (pl_od ns (m + 1)) st (gnR g) nc nj ns).2.2.2 (pl_ch h f st (gnR g) ns nc nj m).2.2.2) .g then (pl_ch h f st (gnR g) ns nc nj m).2.2.2 else (pl_try (pl_ch h f st (gnR g) ns nc nj m).1 (pl_ch h f st (gnR g) ns nc nj m).2.1 (pl_od ns (m + 1)) st (gnR g) nc nj ns).2.2.2) = _
    rw [e, ih, aCh]
    by_cases q : 0 ≤ Op.cmpValue (FP.fcmp (gcc g nc nj (pl_od ns (m + 1)) ns).2 (aCh g ns nc nj (pl_od ns) m).2) .g
    · rw [if_pos q, if_pos q, if_pos q]
    · rw [if_neg q, if_neg q, if_neg q]
theorem mch_eq (g : gG) (ns nc nj : Nat) (hi : Nat → Nat → Int32) : ∀ m, (mch g ns nc nj hi m).2 = aCh g ns nc nj (mo ns) m
  | 0 => rfl
  | m + 1 => by
    show (if 0 ≤ Op.cmpValue (FP.fcmp (gcc g nc nj (mo ns (m + 1)) ns).2 (mch g ns nc nj hi m).2.2) .g then (mch g ns nc nj hi m).2.1 else m + 1, if 0 ≤ Op.cmpValue (FP.fcmp (gcc g nc nj (mo ns (m + 1)) ns).2 (mch g ns nc nj hi m).2.2) .g then (mch g ns nc nj hi m).2.2 else (gcc g nc nj (mo ns (m + 1)) ns).2) = _
    rw [mch_eq g ns nc nj hi m, aCh]
    by_cases q : 0 ≤ Op.cmpValue (FP.fcmp (gcc g nc nj (mo ns (m + 1)) ns).2 (aCh g ns nc nj (mo ns) m).2) .g
    · rw [if_pos q, if_pos q, if_pos q]
    · rw [if_neg q, if_neg q, if_neg q]
theorem bfo_congr {od od' : Nat → Nat} {k : Nat} (h : ∀ i, i < k → od' i = od i) : bfo od' k = bfo od k := by
  funext x
  unfold bfo
  rw [Bool.eq_iff_iff, List.any_eq_true, List.any_eq_true]
  exact ⟨fun ⟨i, h1, h2⟩ => ⟨i, h1, by rw [← h i (List.mem_range.mp h1)]; exact h2⟩, fun ⟨i, h1, h2⟩ => ⟨i, h1, by rw [h i (List.mem_range.mp h1)]; exact h2⟩⟩
theorem gcc_congr {g : gG} {nc nj : Nat} {od od' : Nat → Nat} : ∀ k, (∀ i, i < k → od' i = od i) → gcc g nc nj od' k = gcc g nc nj od k
  | 0, _ => rfl
  | k + 1, h => by
    rw [gcc, gcc, gcc_congr k (fun i hi => h i (by omega)), h k (by omega), bfo_congr (fun i hi => h i (by omega))]
theorem fnl_iff (x y : UInt32) : 0 ≤ Op.cmpValue (FP.fcmp x y) .g ↔ ¬ FP.fcmp x y = some .lt := by
  rcases e : FP.fcmp x y with _ | o
  · exact ⟨fun _ y => (nomatch y), fun _ => by decide⟩
  · cases o
    · exact ⟨fun h => absurd h (by decide), fun h => absurd rfl h⟩
    · exact ⟨fun _ y => (nomatch y), fun _ => by decide⟩
    · exact ⟨fun _ y => (nomatch y), fun _ => by decide⟩
theorem fcmp_sw (x y : UInt32) : FP.fcmp y x = (FP.fcmp x y).map Ordering.swap := FP.Core.fcmp_swap x y
theorem fnl_self (x : UInt32) : 0 ≤ Op.cmpValue (FP.fcmp x x) .g := by
  rw [fnl_iff]
  intro h
  have := fcmp_sw x x
  rw [h] at this
  exact nomatch this
theorem fnl_asym {x y : UInt32} (h : ¬ 0 ≤ Op.cmpValue (FP.fcmp x y) .g) : 0 ≤ Op.cmpValue (FP.fcmp y x) .g := by
  rw [fnl_iff] at h ⊢
  have h : FP.fcmp x y = some .lt := Decidable.byContradiction h
  rw [fcmp_sw, h]
  exact fun y => nomatch y
theorem aCh_le (g : gG) (ns nc nj : Nat) (O : Nat → Nat → Nat) : ∀ m, (aCh g ns nc nj O m).1 ≤ m ∧ (aCh g ns nc nj O m).2 = (gcc g nc nj (O (aCh g ns nc nj O m).1) ns).2
  | 0 => ⟨Nat.le_refl _, rfl⟩
  | m + 1 => by
    have ih := aCh_le g ns nc nj O m
    rw [aCh]
    by_cases q : 0 ≤ Op.cmpValue (FP.fcmp (gcc g nc nj (O (m + 1)) ns).2 (aCh g ns nc nj O m).2) .g
    · rw [if_pos q]; exact ⟨by omega, ih.2⟩
    · rw [if_neg q]; exact ⟨Nat.le_refl _, rfl⟩
theorem aCh_congr (g : gG) (ns nc nj : Nat) {O O' : Nat → Nat → Nat} : ∀ m, (∀ num, num ≤ m → ∀ k, k < ns → O' num k = O num k) → aCh g ns nc nj O' m = aCh g ns nc nj O m
  | 0, h => by
    show (0, (gcc g nc nj (O' 0) ns).2) = (0, (gcc g nc nj (O 0) ns).2)
    rw [gcc_congr ns (h 0 (by omega))]
  | m + 1, h => by
    rw [aCh, aCh, aCh_congr g ns nc nj m (fun num hn => h num (by omega)), gcc_congr ns (h (m + 1) (by omega))]
theorem od_eq3 : ∀ num, num ≤ 5 → ∀ k, k < 3 → pl_od 3 num k = mo 3 num k := by decide +kernel
theorem od_1 : pl_od 1 0 0 = 0 ∧ ∀ num, num ≤ 5 → mo 1 num 0 = 0 := by decide +kernel
theorem od_2 : ∀ k, k < 2 → mo 2 0 k = pl_od 2 0 k ∧ mo 2 1 k = pl_od 2 0 k ∧ mo 2 2 k = pl_od 2 1 k ∧ mo 2 3 k = pl_od 2 1 k ∧ mo 2 4 k = pl_od 2 0 k ∧ mo 2 5 k = pl_od 2 1 k := by decide +kernel
theorem od_best (g : gG) (nc nj : Nat) {ns : Nat} (h1 : 1 ≤ ns) (h3 : ns ≤ 3) : ∀ k, k < ns → mo ns (aCh g ns nc nj (mo ns) 5).1 k = pl_od ns (aCh g ns nc nj (pl_od ns) (pl_oc ns - 1)).1 k := by
  rcases (by omega : ns = 1 ∨ ns = 2 ∨ ns = 3) with rfl | rfl | rfl
  · intro k hk
    have := (aCh_le g 1 nc nj (mo 1) 5).1
    have e := (aCh_le g 1 nc nj (pl_od 1) (pl_oc 1 - 1)).1
    have e2 : pl_oc 1 - 1 = 0 := by decide
    rw [e2] at e ⊢
    have e3 : (aCh g 1 nc nj (pl_od 1) 0).1 = 0 := by omega
    rw [show k = 0 by omega, e3, od_1.1, od_1.2 _ this]
  · have e2 : pl_oc 2 - 1 = 1 := by decide
    rw [e2]
    have a0 : gcc g nc nj (mo 2 0) 2 = gcc g nc nj (pl_od 2 0) 2 := gcc_congr 2 (fun k hk => (od_2 k hk).1)
    have a1 : gcc g nc nj (mo 2 1) 2 = gcc g nc nj (pl_od 2 0) 2 := gcc_congr 2 (fun k hk => (od_2 k hk).2.1)
    have a2 : gcc g nc nj (mo 2 2) 2 = gcc g nc nj (pl_od 2 1) 2 := gcc_congr 2 (fun k hk => (od_2 k hk).2.2.1)
    have a3 : gcc g nc nj (mo 2 3) 2 = gcc g nc nj (pl_od 2 1) 2 := gcc_congr 2 (fun k hk => (od_2 k hk).2.2.2.1)
    have a4 : gcc g nc nj (mo 2 4) 2 = gcc g nc nj (pl_od 2 0) 2 := gcc_congr 2 (fun k hk => (od_2 k hk).2.2.2.2.1)
    have a5 : gcc g nc nj (mo 2 5) 2 = gcc g nc nj (pl_od 2 1) 2 := gcc_congr 2 (fun k hk => (od_2 k hk).2.2.2.2.2)
    have c0 : aCh g 2 nc nj (mo 2) 0 = (0, (gcc g nc nj (pl_od 2 0) 2).2) := by rw [aCh, a0]
    have c1 : aCh g 2 nc nj (mo 2) 1 = (0, (gcc g nc nj (pl_od 2 0) 2).2) := by rw [aCh, c0, a1, if_pos (fnl_self _)]
    have d0 : aCh g 2 nc nj (pl_od 2) 0 = (0, (gcc g nc nj (pl_od 2 0) 2).2) := by rw [aCh]
    by_cases q : 0 ≤ Op.cmpValue (FP.fcmp (gcc g nc nj (pl_od 2 1) 2).2 (gcc g nc nj (pl_od 2 0) 2).2) .g
    · have c2 : aCh g 2 nc nj (mo 2) 2 = (0, (gcc g nc nj (pl_od 2 0) 2).2) := by rw [aCh, c1, a2, if_pos q]
      have c3 : aCh g 2 nc nj (mo 2) 3 = (0, (gcc g nc nj (pl_od 2 0) 2).2) := by rw [aCh, c2, a3, if_pos q]
      have c4 : aCh g 2 nc nj (mo 2) 4 = (0, (gcc g nc nj (pl_od 2 0) 2).2) := by rw [aCh, c3, a4, if_pos (fnl_self _)]
      have c5 : aCh g 2 nc nj (mo 2) 5 = (0, (gcc g nc nj (pl_od 2 0) 2).2) := by rw [aCh, c4, a5, if_pos q]
      have d1 : aCh g 2 nc nj (pl_od 2) 1 = (0, (gcc g nc nj (pl_od 2 0) 2).2) := by rw [aCh, d0, if_pos q]
      rw [c5, d1]
      exact fun k hk => (od_2 k hk).1
    · have c2 : aCh g 2 nc nj (mo 2) 2 = (2, (gcc g nc nj (pl_od 2 1) 2).2) := by rw [aCh, c1, a2, if_neg q]
      have c3 : aCh g 2 nc nj (mo 2) 3 = (2, (gcc g nc nj (pl_od 2 1) 2).2) := by rw [aCh, c2, a3, if_pos (fnl_self _)]
      have c4 : aCh g 2 nc nj (mo 2) 4 = (2, (gcc g nc nj (pl_od 2 1) 2).2) := by rw [aCh, c3, a4, if_pos (fnl_asym q)]
      have c5 : aCh g 2 nc nj (mo 2) 5 = (2, (gcc g nc nj (pl_od 2 1) 2).2) := by rw [aCh, c4, a5, if_pos (fnl_self _)]
      have d1 : aCh g 2 nc nj (pl_od 2) 1 = (1, (gcc g nc nj (pl_od 2 1) 2).2) := by rw [aCh, d0, if_neg q]
      rw [c5, d1]
      exact fun k hk => (od_2 k hk).2.2.1
  · intro k hk
    have e2 : pl_oc 3 - 1 = 5 := by decide
    rw [e2, ← aCh_congr g 3 nc nj (O := mo 3) (O' := pl_od 3) 5 od_eq3]
    have := (aCh_le g 3 nc nj (pl_od 3) 5).1
    exact (od_eq3 _ this k hk).symm
