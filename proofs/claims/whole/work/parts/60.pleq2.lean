/-! ===== planning keeps the relation ===== -/
def mkq (hi : Nat → Nat → Int32) (jt nR : Nat → Nat) (en : Nat → Nat → Nat) : aQ :=
  (fun s c p => hi 49 (240 * jt s + 4 * en (jt s) p + c), fun i => cl (hi 52 (4 * i)), fun i => cl (hi 52 (4 * i + 1)), fun i => cl (hi 52 (4 * i + 2)), fun i => hi 52 (4 * i + 3), fun j e => cl (hi 53 (4 * j + 2 * e)), fun j e => cl (hi 53 (4 * j + 2 * e + 1)), fun s => nR (jt s), fun i b => cl (hi 54 (2 * i + b)))
theorem mk_Q {hi : Nat → Nat → Int32} {sr : Nat → Option Nat} {nR md : Nat → Nat} {en : Nat → Nat → Nat} (T : rTT hi nR md en) {ns nc nj no : Nat} {jt : Nat → Nat} (b : rQ hi sr ns nc nj no jt) : cQ hi sr (mkq hi jt nR en) ns nc nj no (fun s => 2 + 4 * jt s) ∧ mQ hi (mkq hi jt nR en) ns nc nj no jt (fun s => en (jt s)) := by
  obtain ⟨⟨a1, a2, a3, a4⟩, ⟨b1, b2, b3, b4⟩, ⟨c1, c2, c3, c4⟩, ⟨d1, d2, d3, d4⟩, e1, e2, e3, e4, e5⟩ := b
  have hc : ∀ i, i < nc → (cl (hi 52 (4 * i)) < ns ∧ cl (hi 52 (4 * i + 1)) < 4 ∧ cl (hi 52 (4 * i + 2)) < 4) ∧ hi 52 (4 * i) = nI (cl (hi 52 (4 * i))) ∧ hi 52 (4 * i + 1) = nI (cl (hi 52 (4 * i + 1))) ∧ hi 52 (4 * i + 2) = nI (cl (hi 52 (4 * i + 2))) := fun i h => by
    obtain ⟨_, s, c, o, ⟨g1, g2, g3⟩, g4, g5, g6⟩ := b4 i h
    rw [g4, g5, g6, cl_nI (by omega), cl_nI (by omega), cl_nI (by omega)]
    exact ⟨⟨g1, g2, g3⟩, rfl, rfl, rfl⟩
  have hj : ∀ j, j < nj → (cl (hi 53 (4 * j)) < ns ∧ cl (hi 53 (4 * j + 1)) < 4 ∧ cl (hi 53 (4 * j + 2)) < ns ∧ cl (hi 53 (4 * j + 3)) < 4 ∧ cl (hi 53 (4 * j)) ≠ cl (hi 53 (4 * j + 2))) ∧ hi 53 (4 * j) = nI (cl (hi 53 (4 * j))) ∧ hi 53 (4 * j + 1) = nI (cl (hi 53 (4 * j + 1))) ∧ hi 53 (4 * j + 2) = nI (cl (hi 53 (4 * j + 2))) ∧ hi 53 (4 * j + 3) = nI (cl (hi 53 (4 * j + 3))) := fun j h => by
    obtain ⟨_, s, c, o, c', ⟨g1, g2, g3, g7, g8⟩, g4, g5, g6, g9⟩ := c4 j h
    rw [g4, g5, g6, g9, cl_nI (by omega), cl_nI (by omega), cl_nI (by omega), cl_nI (by omega)]
    exact ⟨⟨g1, g2, g3, g7, g8⟩, rfl, rfl, rfl, rfl⟩
  have ho : ∀ i, i < no → (cl (hi 54 (2 * i)) < ns ∧ cl (hi 54 (2 * i + 1)) < 4) ∧ hi 54 (2 * i) = nI (cl (hi 54 (2 * i))) ∧ hi 54 (2 * i + 1) = nI (cl (hi 54 (2 * i + 1))) := fun i h => by
    obtain ⟨_, s, c, ⟨g1, g2⟩, g4, g5⟩ := d4 i h
    rw [g4, g5, cl_nI (by omega), cl_nI (by omega)]
    exact ⟨⟨g1, g2⟩, rfl, rfl⟩
  refine ⟨⟨⟨⟨a1, a3, fun s hs => ⟨(a4 s hs).1, dk_T1 (a4 s hs).2.2.1, (T _ (a4 s hs).2.2.1).2.1.1, (T _ (a4 s hs).2.2.1).2.2.1.2.2.2⟩⟩, ⟨b1, b3, fun i h => ?_⟩, ⟨c1, c3, fun j h => ?_⟩, T.ix⟩, ⟨d1, d3, fun i h => ?_, ?_⟩, fun s c p h1 h2 h3 => (T _ (a4 s h1).2.2.1).2.2.2.2.1 p c h3 h2, fun i h => ?_, fun j h => ?_, fun i h => ?_⟩, ⟨⟨a2, a3, fun k hk => ⟨(a4 k hk).2.1, (a4 k hk).2.2.1, (a4 k hk).2.2.2⟩⟩, fun s hs => (T _ (a4 s hs).2.2.1).2.2.1, fun s c p h1 h2 h3 => rfl, ⟨b2, b3, fun i h => ?_⟩, ⟨c2, c3, fun j h => ⟨?_, fun e he => ?_⟩⟩, d2, d3, fun i h => ?_⟩⟩
  · obtain ⟨⟨g1, g2, g3⟩, g4, g5, g6⟩ := hc i h
    have := (b4 i h).1
    exact ⟨_, _, _, g1, g2, g3, (this 0 (by omega)).trans g4, (this 1 (by omega)).trans g5, (this 2 (by omega)).trans g6⟩
  · obtain ⟨g1, g2, g3, g4, g5⟩ := hj j h
    have := (c4 j h).1
    exact ⟨_, _, _, _, g1, (this 0 (by omega)).trans g2, (this 1 (by omega)).trans g3, (this 2 (by omega)).trans g4, (this 3 (by omega)).trans g5⟩
  · obtain ⟨⟨g1, g2⟩, g3, g4⟩ := ho i h
    have := (d4 i h).1
    exact ⟨_, _, g1, g2, (this 0 (by omega)).trans g3, (this 1 (by omega)).trans g4⟩
  · rw [e1]; exact e4
  · obtain ⟨g1, g4, g5, g6⟩ := hc i h
    have := (b4 i h).1
    exact ⟨g1, (this 0 (by omega)).trans g4, (this 1 (by omega)).trans g5, (this 2 (by omega)).trans g6, this 3 (by omega)⟩
  · obtain ⟨⟨f1, f2, f3, f4, f5⟩, g2, g3, g4, g5⟩ := hj j h
    have := (c4 j h).1
    exact ⟨f5, ⟨f1, f2, f3, f4⟩, (this 0 (by omega)).trans g2, (this 1 (by omega)).trans g3, (this 2 (by omega)).trans g4, (this 3 (by omega)).trans g5⟩
  · obtain ⟨g1, g3, g4⟩ := ho i h
    have := (d4 i h).1
    exact ⟨g1, (this 0 (by omega)).trans g3, (this 1 (by omega)).trans g4⟩
  · obtain ⟨g1, g4, g5, g6⟩ := hc i h
    exact ⟨g1, g4, g5, g6, rfl⟩
  · exact (hj j h).1.2.2.2.2
  · obtain ⟨⟨f1, f2, f3, f4, f5⟩, g2, g3, g4, g5⟩ := hj j h
    rcases (by omega : e = 0 ∨ e = 1) with rfl | rfl
    · exact ⟨⟨f1, f2⟩, g2, g3⟩
    · exact ⟨⟨f3, f4⟩, g4, g5⟩
  · obtain ⟨g1, g3, g4⟩ := ho i h
    exact ⟨g1, g3, g4⟩
theorem any_congr2 {f f' : Nat → Bool} : ∀ n, (∀ i, i < n → f' i = f i) → (List.range n).any f' = (List.range n).any f := fun n h => by
  rw [Bool.eq_iff_iff, List.any_eq_true, List.any_eq_true]
  exact ⟨fun ⟨i, h1, h2⟩ => ⟨i, h1, by rw [← h i (List.mem_range.mp h1)]; exact h2⟩, fun ⟨i, h1, h2⟩ => ⟨i, h1, by rw [h i (List.mem_range.mp h1)]; exact h2⟩⟩
theorem dvc_congr {f f' : Nat → Int32} : ∀ n, (∀ p, p < n → f' p = f p) → dvc f' n = dvc f n
  | 0, _ => rfl
  | n + 1, h => by
    rw [dvc, dvc, dvc_congr n (fun p hp => h p (by omega))]
    have : sbI f' n = sbI f n := by
      unfold sbI
      rw [any_congr2 n (f := fun q => decide (f q = f n)) (f' := fun q => decide (f' q = f' n)) (fun i hi => by show decide (f' i = f' n) = decide (f i = f n); rw [h i (by omega), h n (by omega)])]
    rw [this]
theorem mnc_congr {f f' : Nat → Int32} : ∀ n, (∀ p, p ≤ n → f' p = f p) → mnc f' n = mnc f n ∧ mxc f' n = mxc f n
  | 0, h => ⟨h 0 (by omega), h 0 (by omega)⟩
  | n + 1, h => by
    obtain ⟨i1, i2⟩ := mnc_congr n (fun p hp => h p (by omega))
    rw [mnc, mnc, mxc, mxc, i1, i2, h (n + 1) (by omega)]
    exact ⟨rfl, rfl⟩
theorem sh1_congr {f f' : Nat → Int32} {n : Nat} (h : ∀ p, p < n → f' p = f p) : sh1 f' n = sh1 f n := by
  unfold sh1
  rw [dvc_congr n h]
theorem shO_congr {f f' : Nat → Int32} {n : Nat} (o : Nat) (x : Int32) (h : ∀ p, p < n → f' p = f p) : shO o x f' n = shO o x f n := by
  unfold shO
  by_cases e : n = 0
  · rw [if_pos e, if_pos e]
  · obtain ⟨i1, i2⟩ := mnc_congr (n - 1) (fun p hp => h p (by omega))
    rw [sh1_congr h, i1, i2]
theorem shO_0 (f : Nat → Int32) (n : Nat) : shO 0 0 f n = sh1 f n := by
  unfold shO
  by_cases e : n = 0
  · rw [if_pos e, sh1, if_pos e]
  · rw [if_neg e, if_pos rfl]
theorem ms_C_at {hi : Nat → Nat → Int32} {hf : Nat → Nat → UInt32} {st nR : Nat → Nat} : ∀ m i, i < m → ms_C hi hf st nR m 31 i = ms_c hi st nR i
  | 0, i, h => absurd h (by omega)
  | m + 1, i, h => by
    rw [ms_C]
    by_cases q : i = m
    · rw [q, dk_up_same]
    · rw [dk_up_ne _ _ (by omega)]; exact ms_C_at m i (by omega)
theorem ms_J_31 {hi : Nat → Nat → Int32} {hf : Nat → Nat → UInt32} {st nR : Nat → Nat} : ∀ m i, ms_J hi hf st nR m 31 i = hf 31 i
  | 0, i => rfl
  | m + 1, i => by
    rw [ms_J, dk_up_ne _ _ (by omega), dk_up_ne _ _ (by omega)]; exact ms_J_31 m i
theorem ms_J_at {hi : Nat → Nat → Int32} {hf : Nat → Nat → UInt32} {st nR : Nat → Nat} : ∀ m i, i < m → ms_J hi hf st nR m 32 i = ms_j hi st nR (22 + i) 0 1 ∧ ms_J hi hf st nR m 33 i = ms_j hi st nR (22 + i) 2 3
  | 0, i, h => absurd h (by omega)
  | m + 1, i, h => by
    rw [ms_J]
    by_cases q : i = m
    · rw [q, dk_up_same, dk_up_ne _ _ (by omega), dk_up_same]; exact ⟨rfl, rfl⟩
    · rw [dk_up_ne _ _ (by omega), dk_up_ne _ _ (by omega), dk_up_ne _ _ (by omega), dk_up_ne _ _ (by omega)]; exact ms_J_at m i (by omega)
theorem mk_S {hi : Nat → Nat → Int32} {sr : Nat → Option Nat} {nR md : Nat → Nat} {en : Nat → Nat → Nat} (T : rTT hi nR md en) {ns nc nj no : Nat} {jt : Nat → Nat} {q : aQ} {en' : Nat → Nat → Nat} (cq : cQ hi sr q ns nc nj no (fun s => 2 + 4 * jt s)) (mq : mQ hi q ns nc nj no jt en') (hf : Nat → Nat → UInt32) : pS hi (ms_F hi hf (fun s => 2 + 4 * jt s) (qn q) nc nj) (gq hi q jt en') (fun s => 2 + 4 * jt s) nc nj := by
  obtain ⟨⟨⟨x1, x2, x3⟩, ⟨y1, y2, y3⟩, ⟨z1, z2, z3⟩, _⟩, _, cv, cc, cj, _⟩ := cq
  obtain ⟨⟨m1, m2, m3⟩, _, mvv, _⟩ := mq
  have ix : ∀ s c k, s < ns → c < 4 → k < 2 → hi (2 + 4 * jt s + 3) (c * 2 + k) = hi 50 (8 * jt s + 4 * k + c) := fun s c k h1 h2 h3 => ((T _ (m3 s h1).2.1).2.2.2.2.2 c k h2 h3).1
  have vv : ∀ s c, s < ns → c < 4 → ∀ p, p < qn q s → tb_c hi (2 + 4 * jt s) c p = mv hi (jt s) c (en' s) p := fun s c h1 h2 p h3 => (cv s c p h1 h2 h3).trans (mvv s c p h1 h2 h3).symm
  refine ⟨⟨y2, z2⟩, fun i h => ?_, fun j h => ⟨fun e he => ?_, ?_, ?_⟩⟩
  · obtain ⟨⟨g1, g2, g3⟩, r0, r1, r2, r3⟩ := cc i h
    have h3 := (m3 _ g1).2.1
    refine ⟨qc q i, ⟨(by show qs q i < 3; omega), g2, (by show 2 + 4 * jt (qs q i) < 14; omega)⟩, r0, r1, r2, ?_, ?_, ?_⟩
    · show ms_J hi (ms_C hi hf (fun s => 2 + 4 * jt s) (qn q) nc) (fun s => 2 + 4 * jt s) (qn q) nj 31 i = _
      rw [ms_J_31, ms_C_at nc i h]
      unfold ms_c
      rw [r0, r1, r2, r3, cl_nI (by omega), cl_nI (by omega), cl_nI (by omega)]
      exact shO_congr (qo q i) (qx q i) (vv _ _ g1 g2)
    · have := ix (qs q i) (qc q i) 0 g1 g2 (by omega)
      exact this
    · exact ix (qs q i) (qc q i) 1 g1 g2 (by omega)
  · obtain ⟨_, ⟨g1, g2, g3, g4⟩, r0, r1, r2, r3⟩ := cj j h
    rcases (by omega : e = 0 ∨ e = 1) with rfl | rfl
    · have h3 := (m3 _ g1).2.1
      exact ⟨qk q j 0, ⟨(by show qe q j 0 < 3; omega), g2, (by show 2 + 4 * jt (qe q j 0) < 14; omega)⟩, r0, r1, ix (qe q j 0) (qk q j 0) 0 g1 g2 (by omega), ix (qe q j 0) (qk q j 0) 1 g1 g2 (by omega)⟩
    · have h3 := (m3 _ g3).2.1
      exact ⟨qk q j 1, ⟨(by show qe q j 1 < 3; omega), g4, (by show 2 + 4 * jt (qe q j 1) < 14; omega)⟩, r2, r3, ix (qe q j 1) (qk q j 1) 0 g3 g4 (by omega), ix (qe q j 1) (qk q j 1) 1 g3 g4 (by omega)⟩
  · obtain ⟨_, ⟨g1, g2, g3, g4⟩, r0, r1, r2, r3⟩ := cj j h
    show ms_J hi (ms_C hi hf (fun s => 2 + 4 * jt s) (qn q) nc) (fun s => 2 + 4 * jt s) (qn q) nj 32 j = shO 0 0 (mv hi (jt (qe q j 0)) (qk q j 0) (en' (qe q j 0))) (qn q (qe q j 0))
    rw [(ms_J_at nj j h).1, shO_0]
    unfold ms_j
    rw [r0, r1, cl_nI (by omega), cl_nI (by omega)]
    exact sh1_congr (vv _ _ g1 g2)
  · obtain ⟨_, ⟨g1, g2, g3, g4⟩, r0, r1, r2, r3⟩ := cj j h
    show ms_J hi (ms_C hi hf (fun s => 2 + 4 * jt s) (qn q) nc) (fun s => 2 + 4 * jt s) (qn q) nj 33 j = shO 0 0 (mv hi (jt (qe q j 1)) (qk q j 1) (en' (qe q j 1))) (qn q (qe q j 1))
    rw [(ms_J_at nj j h).2, shO_0]
    unfold ms_j
    rw [r2, r3, cl_nI (by omega), cl_nI (by omega)]
    exact sh1_congr (vv _ _ g3 g4)
theorem pl_cand_or (b : pl_B) (r : UInt32) (w c j : Int32) : pl_cand b r w c j = b ∨ pl_cand b r w c j = (r, w, c, j) := by
  unfold pl_cand
  split
  · exact Or.inl rfl
  · exact Or.inr rfl
theorem pl_cond_or (b : pl_B) (m : UInt32) (o x0 x1 c j : Int32) : pl_cond b m o x0 x1 c j = b ∨ ((pl_cond b m o x0 x1 c j).2.2.1 = c ∧ (pl_cond b m o x0 x1 c j).2.2.2 = j) := by
  have h1 : (if o = 0 ∧ ¬ x0 = 0 then pl_cand b (FP.fadd FP.fconst1 m) 1 c j else b) = b ∨ (if o = 0 ∧ ¬ x0 = 0 then pl_cand b (FP.fadd FP.fconst1 m) 1 c j else b).2.2 = (c, j) := by
    split
    · rcases pl_cand_or b (FP.fadd FP.fconst1 m) 1 c j with e | e
      · exact Or.inl e
      · rw [e]; exact Or.inr rfl
    · exact Or.inl rfl
  show (if ¬ o = 3 ∧ ¬ x1 = 0 then pl_cand (if o = 0 ∧ ¬ x0 = 0 then pl_cand b (FP.fadd FP.fconst1 m) 1 c j else b) (FP.fadd FP.fconst2 m) 2 c j else (if o = 0 ∧ ¬ x0 = 0 then pl_cand b (FP.fadd FP.fconst1 m) 1 c j else b)) = b ∨ ((if ¬ o = 3 ∧ ¬ x1 = 0 then pl_cand (if o = 0 ∧ ¬ x0 = 0 then pl_cand b (FP.fadd FP.fconst1 m) 1 c j else b) (FP.fadd FP.fconst2 m) 2 c j else (if o = 0 ∧ ¬ x0 = 0 then pl_cand b (FP.fadd FP.fconst1 m) 1 c j else b)).2.2.1 = c ∧ (if ¬ o = 3 ∧ ¬ x1 = 0 then pl_cand (if o = 0 ∧ ¬ x0 = 0 then pl_cand b (FP.fadd FP.fconst1 m) 1 c j else b) (FP.fadd FP.fconst2 m) 2 c j else (if o = 0 ∧ ¬ x0 = 0 then pl_cand b (FP.fadd FP.fconst1 m) 1 c j else b)).2.2.2 = j)
  generalize (if o = 0 ∧ ¬ x0 = 0 then pl_cand b (FP.fadd FP.fconst1 m) 1 c j else b) = b1 at h1 ⊢
  by_cases q : ¬ o = 3 ∧ ¬ x1 = 0
  · rw [if_pos q]
    rcases pl_cand_or b1 (FP.fadd FP.fconst2 m) 2 c j with e | e
    · rw [e]
      rcases h1 with h | h
      · exact Or.inl h
      · right; rw [h]; exact ⟨rfl, rfl⟩
    · rw [e]; exact Or.inr ⟨rfl, rfl⟩
  · rw [if_neg q]
    rcases h1 with h | h
    · exact Or.inl h
    · right; rw [h]; exact ⟨rfl, rfl⟩
def gSh (g : gG) (bef : Nat → Bool) (s nc nj : Nat) (b : pl_B) : Prop := (∃ i, i < nc ∧ b.2.2.1 = nI i ∧ b.2.2.2 = -1 ∧ gsrc g i = s) ∨ (∃ j, j < nj ∧ b.2.2.1 = -1 ∧ b.2.2.2 = nI j ∧ gT g bef s j = true) ∨ (b.2.2.1 = -1 ∧ b.2.2.2 = -1 ∧ b.2.1 = 0)
theorem gC_sh (g : gG) (bef : Nat → Bool) (s nc nj : Nat) {b : pl_B} (hb : gSh g bef s nc nj b) : ∀ i, i ≤ nc → gSh g bef s nc nj (gC g s i b)
  | 0, _ => hb
  | i + 1, hi => by
    have ih := gC_sh g bef s nc nj hb i (by omega)
    rw [gC]
    by_cases q : gsrc g i = s
    · rw [if_pos q]
      rcases pl_cond_or (gC g s i b) (FP.fmul (FP.i2f (nI (gnR g s))) (gsh g i)) (gop g i) (gx g 0 i) (gx g 1 i) (nI i) (-1) with e | e
      · rw [e]; exact ih
      · exact Or.inl ⟨i, by omega, e.1, e.2, q⟩
    · rw [if_neg q]; exact ih
theorem gJ_sh (g : gG) (bef : Nat → Bool) (s nc nj : Nat) {b : pl_B} (hb : gSh g bef s nc nj b) : ∀ j, j ≤ nj → gSh g bef s nc nj (gJ g bef s j b)
  | 0, _ => hb
  | j + 1, hj => by
    have ih := gJ_sh g bef s nc nj hb j (by omega)
    rw [gJ]
    by_cases q : gT g bef s j = true
    · rw [if_pos q]
      rcases pl_cond_or (gJ g bef s j b) (FP.fmul (FP.i2f (nI (gnR g s))) (gjs g j (gE g s j))) 0 (gjx g j (gE g s j) 0) (gjx g j (gE g s j) 1) (-1) (nI j) with e | e
      · rw [e]; exact ih
      · exact Or.inr (Or.inl ⟨j, by omega, e.1, e.2, q⟩)
    · rw [if_neg q]; exact ih
theorem gB_sh (g : gG) (bef : Nat → Bool) (s nc nj : Nat) : gSh g bef s nc nj (gB g bef nc nj s) := gJ_sh g bef s nc nj (gC_sh g bef s nc nj (Or.inr (Or.inr ⟨rfl, rfl, rfl⟩)) nc (Nat.le_refl _)) nj (Nat.le_refl _)
theorem od_inj : ∀ ns, ns < 4 → ∀ num, num < pl_oc ns → ∀ k, k < ns → ∀ i, i < k → ¬ pl_od ns num i = pl_od ns num k := by decide +kernel
theorem od_sur : ∀ ns, ns < 4 → ∀ num, num < pl_oc ns → ∀ s, s < ns → ∃ k, k < ns ∧ pl_od ns num k = s := by decide +kernel
/-- the plan as the abstract one has it -/
def pP (g : gG) (nc nj : Nat) (od : Nat → Nat) : aP := (od, fun k => (gB g (bfo od k) nc nj (od k)).2.1, fun k => (gB g (bfo od k) nc nj (od k)).2.2.1, fun k => (gB g (bfo od k) nc nj (od k)).2.2.2)
theorem mph_at (g : gG) (nc nj : Nat) (od : Nat → Nat) (hi : Nat → Nat → Int32) : ∀ k i, i < k → mph g nc nj od hi k 55 i = nI (od i) ∧ mph g nc nj od hi k 56 i = (gB g (bfo od i) nc nj (od i)).2.1 ∧ mph g nc nj od hi k 57 i = (gB g (bfo od i) nc nj (od i)).2.2.1 ∧ mph g nc nj od hi k 58 i = (gB g (bfo od i) nc nj (od i)).2.2.2
  | 0, i, h => absurd h (by omega)
  | k + 1, i, h => by
    rw [mph]
    by_cases q : i = k
    · rw [q]
      refine ⟨?_, ?_, ?_, ?_⟩ <;> simp (disch := omega) only [dk_up_ne, dk_up_same]
    · have ih := mph_at g nc nj od hi k i (by omega)
      refine ⟨?_, ?_, ?_, ?_⟩ <;> simp (disch := omega) only [dk_up_ne, md_nw]
      · exact ih.1
      · exact ih.2.1
      · exact ih.2.2.1
      · exact ih.2.2.2
theorem pn_eq {hi : Nat → Nat → Int32} {sr : Nat → Option Nat} {ns nc nj no : Nat} {jt : Nat → Nat} (b : rQ hi sr ns nc nj no jt) (s : hi 0 4 = hi 45 6) : mpl_ok hi = pn_ok hi := by
  unfold mpl_ok pn_ok
  rw [s, b.1.1, b.1.2.1, b.2.2.2.1.1, b.2.2.2.1.2.1]
  cases decide (¬ nI ns = 0) <;> cases decide (¬ nI no = 0) <;> cases decide (hi 45 6 = 0) <;> rfl
