/-! ===== the relation between class and model ===== -/
def tD (j i k : Nat) : Prop := (2 + 4 * j ≤ i ∧ i < 6 + 4 * j) ∨ (i = 46 ∧ k = j) ∨ (i = 47 ∧ k = j) ∨ (i = 48 ∧ 60 * j ≤ k ∧ k < 60 * j + 60) ∨ (i = 49 ∧ 240 * j ≤ k ∧ k < 240 * j + 240) ∨ (i = 50 ∧ 8 * j ≤ k ∧ k < 8 * j + 8)
def rT (hi : Nat → Nat → Int32) (j n md : Nat) (en : Nat → Nat) : Prop :=
  (hi (2 + 4 * j) 3 = hi 46 j ∧ 0 ≤ hi 46 j ∧ hi 46 j ≤ 4) ∧ (hi (2 + 4 * j) 4 = nI n ∧ hi (2 + 4 * j) 5 = nI md ∧ hi 47 j = nI md ∧ md ≤ 60) ∧ mE hi j n en ∧
  (∀ p, p < n → en p < md ∧ hi (2 + 4 * j + 1) p = nI (en p)) ∧ (∀ p c, p < n → c < 4 → hi (2 + 4 * j + 2) (p * 4 + c) = hi 49 (240 * j + 4 * en p + c)) ∧
  ∀ c k, c < 4 → k < 2 → hi (2 + 4 * j + 3) (c * 2 + k) = hi 50 (8 * j + 4 * k + c) ∧ (hi 50 (8 * j + 4 * k + c) = 0 ∨ hi 50 (8 * j + 4 * k + c) = 1)
def qD (i k : Nat) : Prop := i = 14 ∨ (17 ≤ i ∧ i < 30) ∨ (i = 45 ∧ 7 ≤ k ∧ k ≤ 17) ∨ i = 46 ∨ (51 ≤ i ∧ i ≤ 54)
def rQ (hi : Nat → Nat → Int32) (sr : Nat → Option Nat) (ns nc nj no : Nat) (jt : Nat → Nat) : Prop :=
  (hi 14 4 = nI ns ∧ hi 45 7 = nI ns ∧ ns ≤ 3 ∧ ∀ s, s < ns → sr s = some (2 + 4 * jt s) ∧ hi 51 s = nI (jt s) ∧ jt s < 3 ∧ 0 < hi 46 (jt s)) ∧
  (hi 14 5 = nI nc ∧ hi 45 9 = nI nc ∧ nc ≤ 4 ∧ ∀ i, i < nc → (∀ k, k < 4 → hi (17 + i) k = hi 52 (4 * i + k)) ∧ ∃ s c o, (s < ns ∧ c < 4 ∧ o < 4) ∧ hi 52 (4 * i) = nI s ∧ hi 52 (4 * i + 1) = nI c ∧ hi 52 (4 * i + 2) = nI o) ∧
  (hi 14 6 = nI nj ∧ hi 45 11 = nI nj ∧ nj ≤ 3 ∧ ∀ j, j < nj → (∀ k, k < 4 → hi (22 + j) k = hi 53 (4 * j + k)) ∧ ∃ a ca b cb, (a < ns ∧ ca < 4 ∧ b < ns ∧ cb < 4 ∧ a ≠ b) ∧ hi 53 (4 * j) = nI a ∧ hi 53 (4 * j + 1) = nI ca ∧ hi 53 (4 * j + 2) = nI b ∧ hi 53 (4 * j + 3) = nI cb) ∧
  (hi 14 7 = nI no ∧ hi 45 13 = nI no ∧ no ≤ 4 ∧ ∀ i, i < no → (∀ k, k < 2 → hi (26 + i) k = hi 54 (2 * i + k)) ∧ ∃ s c, (s < ns ∧ c < 4) ∧ hi 54 (2 * i) = nI s ∧ hi 54 (2 * i + 1) = nI c) ∧
  (hi 14 8 = hi 45 15 ∧ hi 14 9 = hi 45 16 ∧ hi 14 10 = hi 45 17 ∧ (hi 45 15 = -1 ∨ ∃ o, o < no ∧ hi 45 15 = nI o) ∧ ∃ lm, 1 ≤ lm ∧ lm ≤ 64 ∧ hi 45 17 = nI lm)
def sD (i k : Nat) : Prop := (i = 0 ∧ k = 4) ∨ (34 ≤ i ∧ i ≤ 44) ∨ (i = 45 ∧ (k = 6 ∨ k = 17 ∨ 26 ≤ k)) ∨ (55 ≤ i ∧ i ≤ 58) ∨ i = 60
def rA (hi : Nat → Nat → Int32) (no a : Nat) (R : Nat → Nat) : Prop := hi 38 6 = nI a ∧ a ≤ 64 ∧ (∀ i, i < a → hi 44 i = nI (R i) ∧ R i < 64) ∧ (¬ hi 45 6 = 2 → hi 45 28 = nI a) ∧ (hi 45 6 = 2 → hi 45 28 = (if nI a < hi 45 17 then nI a else hi 45 17) ∧ ∀ i o, i < a → o < no → hi 60 (4 * i + o) = hi 43 (R i * 4 + o))
def rS (hi : Nat → Nat → Int32) (ns no : Nat) : Prop :=
  hi 0 4 = hi 45 6 ∧ hi 38 7 = hi 45 27 ∧ (∃ rp : Nat → Nat, ∀ s, s < 3 → hi 42 s = nI (rp s) ∧ rp s < 24) ∧
  (¬ hi 45 6 = 0 → ∀ k, k < ns → hi 34 k = hi 55 k ∧ hi 35 k = hi 56 k ∧ hi 36 k = hi 57 k ∧ hi 37 k = hi 58 k) ∧ ∃ a R, rA hi no a R
def rM (hi : Nat → Nat → Int32) (sr : Nat → Option Nat) (ns nc nj no : Nat) (jt : Nat → Nat) : Prop :=
  (hi 45 6 = 0 → hi 45 27 = 0 ∧ hi 45 28 = 0) ∧ (hi 45 6 = 1 → ∃ (en : Nat → Nat → Nat) (q : aQ) (p : aP) (M : aM) (R rk : Nat → Nat) (lim : Nat), (cQ hi sr q ns nc nj no (fun s => 2 + 4 * jt s) ∧ mQ hi q ns nc nj no jt en ∧ cPl hi p ns ∧ mPl hi p ns) ∧ (aW q p ns nc nj ∧ aSur p ns ∧ mI q p ns M) ∧ aC hi no R rk M ∧ bM hi p en no M ∧ (0 < mD M ∧ ma M < lim) ∧ clim hi = nI lim ∧ 1 ≤ lim ∧ lim ≤ 64)
def rR (hi : Nat → Nat → Int32) (hf : Nat → Nat → UInt32) (sr : Nat → Option Nat) : Prop :=
  ∃ (ns nc nj no : Nat) (jt : Nat → Nat), (∀ j, j < 3 → ∃ n md en, rT hi j n md en) ∧ rQ hi sr ns nc nj no jt ∧ rS hi ns no ∧ rM hi sr ns nc nj no jt ∧ qF hf
theorem mE.fr {hi hi' : Nat → Nat → Int32} {j n : Nat} {en : Nat → Nat} (h : mE hi j n en) (e : ∀ k, 60 * j ≤ k → k < 60 * j + 60 → hi' 48 k = hi 48 k) : mE hi' j n en := by
  obtain ⟨m1, m2, m3, m4⟩ := h
  exact ⟨m1, m2, fun r hr => by rw [e (60 * j + r) (by omega) (by omega)]; exact m3 r hr, m4⟩
theorem rT.fr {hi hi' : Nat → Nat → Int32} {j n md : Nat} {en : Nat → Nat} (h : rT hi j n md en) (e : ∀ i k, tD j i k → hi' i k = hi i k) : rT hi' j n md en := by
  obtain ⟨⟨a1, a2, a3⟩, ⟨b1, b2, b3, b4⟩, m, c1, c2, c3⟩ := h
  have e0 : ∀ i k, 2 + 4 * j ≤ i → i < 6 + 4 * j → hi' i k = hi i k := fun i k x y => e _ _ (by unfold tD; omega)
  have e46 : hi' 46 j = hi 46 j := e _ _ (by unfold tD; omega)
  have e47 : hi' 47 j = hi 47 j := e _ _ (by unfold tD; omega)
  have e48 : ∀ k, 60 * j ≤ k → k < 60 * j + 60 → hi' 48 k = hi 48 k := fun k x y => e _ _ (by unfold tD; omega)
  have e49 : ∀ k, 240 * j ≤ k → k < 240 * j + 240 → hi' 49 k = hi 49 k := fun k x y => e _ _ (by unfold tD; omega)
  have e50 : ∀ k, 8 * j ≤ k → k < 8 * j + 8 → hi' 50 k = hi 50 k := fun k x y => e _ _ (by unfold tD; omega)
  refine ⟨⟨by rw [e0 _ _ (by omega) (by omega), e46]; exact a1, by rw [e46]; exact a2, by rw [e46]; exact a3⟩, ⟨by rw [e0 _ _ (by omega) (by omega)]; exact b1, by rw [e0 _ _ (by omega) (by omega)]; exact b2, by rw [e47]; exact b3, b4⟩, m.fr e48, fun p hp => ⟨(c1 p hp).1, by rw [e0 _ _ (by omega) (by omega)]; exact (c1 p hp).2⟩, fun p c hp hc => ?_, fun c k hc hk => ?_⟩
  · have := m.2.1 p hp
    rw [e0 _ _ (by omega) (by omega), e49 _ (by omega) (by omega)]; exact c2 p c hp hc
  · rw [e0 _ _ (by omega) (by omega), e50 _ (by omega) (by omega)]; exact c3 c k hc hk
theorem rQ.fr {hi hi' : Nat → Nat → Int32} {sr : Nat → Option Nat} {ns nc nj no : Nat} {jt : Nat → Nat} (h : rQ hi sr ns nc nj no jt) (e : ∀ i k, qD i k → hi' i k = hi i k) : rQ hi' sr ns nc nj no jt := by
  obtain ⟨⟨a1, a2, a3, a4⟩, ⟨b1, b2, b3, b4⟩, ⟨c1, c2, c3, c4⟩, ⟨d1, d2, d3, d4⟩, e1, e2, e3, e4, e5⟩ := h
  have g14 : ∀ k, hi' 14 k = hi 14 k := fun k => e _ _ (by unfold qD; omega)
  have g17 : ∀ i k, 17 ≤ i → i < 30 → hi' i k = hi i k := fun i k x y => e _ _ (by unfold qD; omega)
  have g45 : ∀ k, 7 ≤ k → k ≤ 17 → hi' 45 k = hi 45 k := fun k x y => e _ _ (by unfold qD; omega)
  have g46 : ∀ k, hi' 46 k = hi 46 k := fun k => e _ _ (by unfold qD; omega)
  have g51 : ∀ k, hi' 51 k = hi 51 k := fun k => e _ _ (by unfold qD; omega)
  have g52 : ∀ k, hi' 52 k = hi 52 k := fun k => e _ _ (by unfold qD; omega)
  have g53 : ∀ k, hi' 53 k = hi 53 k := fun k => e _ _ (by unfold qD; omega)
  have g54 : ∀ k, hi' 54 k = hi 54 k := fun k => e _ _ (by unfold qD; omega)
  refine ⟨⟨by rw [g14]; exact a1, by rw [g45 _ (by omega) (by omega)]; exact a2, a3, fun s hs => by rw [g51, g46]; exact a4 s hs⟩, ⟨by rw [g14]; exact b1, by rw [g45 _ (by omega) (by omega)]; exact b2, b3, fun i hi => ?_⟩, ⟨by rw [g14]; exact c1, by rw [g45 _ (by omega) (by omega)]; exact c2, c3, fun i hi => ?_⟩, ⟨by rw [g14]; exact d1, by rw [g45 _ (by omega) (by omega)]; exact d2, d3, fun i hi => ?_⟩, by rw [g14, g45 _ (by omega) (by omega)]; exact e1, by rw [g14, g45 _ (by omega) (by omega)]; exact e2, by rw [g14, g45 _ (by omega) (by omega)]; exact e3, by rw [g45 _ (by omega) (by omega)]; exact e4, by rw [g45 _ (by omega) (by omega)]; exact e5⟩
  · refine ⟨fun k hk => by rw [g17 _ _ (by omega) (by omega), g52]; exact (b4 i hi).1 k hk, ?_⟩
    simp only [g52]; exact (b4 i hi).2
  · refine ⟨fun k hk => by rw [g17 _ _ (by omega) (by omega), g53]; exact (c4 i hi).1 k hk, ?_⟩
    simp only [g53]; exact (c4 i hi).2
  · refine ⟨fun k hk => by rw [g17 _ _ (by omega) (by omega), g54]; exact (d4 i hi).1 k hk, ?_⟩
    simp only [g54]; exact (d4 i hi).2
theorem rA.fr {hi hi' : Nat → Nat → Int32} {no a : Nat} {R : Nat → Nat} (h : rA hi no a R) (e : ∀ i k, sD i k → hi' i k = hi i k) : rA hi' no a R := by
  obtain ⟨a1, a2, a3, a4, a5⟩ := h
  have g38 : ∀ i k, 34 ≤ i → i ≤ 44 → hi' i k = hi i k := fun i k x y => e _ _ (by unfold sD; omega)
  have g60 : ∀ k, hi' 60 k = hi 60 k := fun k => e _ _ (by unfold sD; omega)
  have g6 : hi' 45 6 = hi 45 6 := e _ _ (by unfold sD; omega)
  have g17 : hi' 45 17 = hi 45 17 := e _ _ (by unfold sD; omega)
  have g28 : hi' 45 28 = hi 45 28 := e _ _ (by unfold sD; omega)
  refine ⟨by rw [g38 _ _ (by omega) (by omega)]; exact a1, a2, fun i hi => by rw [g38 _ _ (by omega) (by omega)]; exact a3 i hi, by rw [g6, g28]; exact a4, by rw [g6, g28, g17]; exact fun x => ⟨(a5 x).1, fun i o h1 h2 => by rw [g60, g38 _ _ (by omega) (by omega)]; exact (a5 x).2 i o h1 h2⟩⟩
theorem rS.fr {hi hi' : Nat → Nat → Int32} {ns no : Nat} (h : rS hi ns no) (e : ∀ i k, sD i k → hi' i k = hi i k) : rS hi' ns no := by
  obtain ⟨a1, a2, ⟨rp, a3⟩, a4, a, R, a5⟩ := h
  have g38 : ∀ i k, 34 ≤ i → i ≤ 44 → hi' i k = hi i k := fun i k x y => e _ _ (by unfold sD; omega)
  have g55 : ∀ i k, 55 ≤ i → i ≤ 58 → hi' i k = hi i k := fun i k x y => e _ _ (by unfold sD; omega)
  have g6 : hi' 45 6 = hi 45 6 := e _ _ (by unfold sD; omega)
  have g27 : hi' 45 27 = hi 45 27 := e _ _ (by unfold sD; omega)
  have g0 : hi' 0 4 = hi 0 4 := e _ _ (by unfold sD; omega)
  refine ⟨by rw [g0, g6]; exact a1, by rw [g38 _ _ (by omega) (by omega), g27]; exact a2, ⟨rp, fun s hs => by rw [g38 _ _ (by omega) (by omega)]; exact a3 s hs⟩, by rw [g6]; exact fun x k hk => by rw [g38 34 _ (by omega) (by omega), g38 35 _ (by omega) (by omega), g38 36 _ (by omega) (by omega), g38 37 _ (by omega) (by omega), g55 55 _ (by omega) (by omega), g55 56 _ (by omega) (by omega), g55 57 _ (by omega) (by omega), g55 58 _ (by omega) (by omega)]; exact a4 x k hk, a, R, a5.fr e⟩
/-- a change of a table: a question under way ends -/
theorem rS.chg {hi hi' : Nat → Nat → Int32} {ns no : Nat} (h : rS hi ns no) (e : ∀ i k, sD i k → ¬ (i = 0 ∧ k = 4) → ¬ (i = 45 ∧ k = 6) → hi' i k = hi i k) (e0 : hi' 0 4 = if hi 0 4 = 1 then 3 else hi 0 4) (e6 : hi' 45 6 = if hi 45 6 = 1 then 3 else hi 45 6) : rS hi' ns no ∧ ¬ hi' 45 6 = 1 := by
  obtain ⟨a1, a2, ⟨rp, a3⟩, a4, a, R, b1, b2, b3, b4, b5⟩ := h
  have g38 : ∀ i k, 34 ≤ i → i ≤ 44 → hi' i k = hi i k := fun i k x y => e _ _ (by unfold sD; omega) (by omega) (by omega)
  have g55 : ∀ i k, 55 ≤ i → i ≤ 58 → hi' i k = hi i k := fun i k x y => e _ _ (by unfold sD; omega) (by omega) (by omega)
  have g60 : ∀ k, hi' 60 k = hi 60 k := fun k => e _ _ (by unfold sD; omega) (by omega) (by omega)
  have g27 : hi' 45 27 = hi 45 27 := e _ _ (by unfold sD; omega) (by omega) (by omega)
  have g17 : hi' 45 17 = hi 45 17 := e _ _ (by unfold sD; omega) (by omega) (by omega)
  have g28 : hi' 45 28 = hi 45 28 := e _ _ (by unfold sD; omega) (by omega) (by omega)
  have s0 : hi' 45 6 = 0 → hi 45 6 = 0 := fun x => by
    rw [e6] at x
    by_cases q : hi 45 6 = 1
    · rw [if_pos q] at x; exact absurd x (by decide)
    · rw [if_neg q] at x; exact x
  have s2 : hi' 45 6 = 2 ↔ hi 45 6 = 2 := by
    rw [e6]
    by_cases q : hi 45 6 = 1
    · rw [if_pos q, q]; decide
    · rw [if_neg q]
  have s1 : ¬ hi' 45 6 = 1 := by
    rw [e6]
    by_cases q : hi 45 6 = 1
    · rw [if_pos q]; decide
    · rw [if_neg q]; exact q
  have s3 : ¬ hi' 45 6 = 0 → ¬ hi 45 6 = 0 := fun x y => x (by rw [e6, y]; decide)
  refine ⟨⟨by rw [e0, e6, a1], by rw [g38 _ _ (by omega) (by omega), g27]; exact a2, ⟨rp, fun s hs => by rw [g38 _ _ (by omega) (by omega)]; exact a3 s hs⟩, fun x k hk => by rw [g38 34 _ (by omega) (by omega), g38 35 _ (by omega) (by omega), g38 36 _ (by omega) (by omega), g38 37 _ (by omega) (by omega), g55 55 _ (by omega) (by omega), g55 56 _ (by omega) (by omega), g55 57 _ (by omega) (by omega), g55 58 _ (by omega) (by omega)]; exact a4 (s3 x) k hk, a, R, by rw [g38 _ _ (by omega) (by omega)]; exact b1, b2, fun i hi => by rw [g38 _ _ (by omega) (by omega)]; exact b3 i hi, by rw [s2, g28]; exact b4, by rw [s2, g28, g17]; exact fun x => ⟨(b5 x).1, fun i o h1 h2 => by rw [g60, g38 _ _ (by omega) (by omega)]; exact (b5 x).2 i o h1 h2⟩⟩, s1⟩
theorem aC.fr {hi hi' : Nat → Nat → Int32} {no : Nat} {R rk : Nat → Nat} {m : aM} (h : aC hi no R rk m) (e : ∀ i k, (38 ≤ i ∧ i ≤ 44) ∨ i = 14 → hi' i k = hi i k) : aC hi' no R rk m := by
  have g : ∀ i k, 38 ≤ i → i ≤ 44 → hi' i k = hi i k := fun i k x y => e _ _ (Or.inl ⟨x, y⟩)
  have g14 : ∀ k, hi' 14 k = hi 14 k := fun k => e _ _ (Or.inr rfl)
  obtain ⟨a1, a2, a3, a4, a5, a6, a7⟩ := h
  refine ⟨by rw [g _ _ (by omega) (by omega)]; exact a1, fun k hk => ⟨(a2 k hk).1.fr (g _ _ (by omega) (by omega)) (fun i _ => g _ _ (by omega) (by omega)), by rw [g _ _ (by omega) (by omega)]; exact (a2 k hk).2⟩, fun s hs => by rw [g _ _ (by omega) (by omega)]; exact a3 s hs, by rw [g _ _ (by omega) (by omega)]; exact a4, fun i o h1 h2 => by rw [g _ _ (by omega) (by omega)]; exact a5 i o h1 h2, fun i h1 => by rw [g _ _ (by omega) (by omega)]; exact a6 i h1, ?_⟩
  unfold rkF
  rw [g14, g14]; exact a7
theorem bM.fr {hi hi' : Nat → Nat → Int32} {p : aP} {en : Nat → Nat → Nat} {no : Nat} {m : aM} (h : bM hi p en no m) (e : ∀ i k, (i = 45 ∧ 26 ≤ k) ∨ i = 59 ∨ i = 60 → hi' i k = hi i k) : bM hi' p en no m := by
  obtain ⟨a1, a2, a3, a4⟩ := h
  exact ⟨by rw [e _ _ (by omega)]; exact a1, fun k hk => by rw [e _ _ (by omega)]; exact a2 k hk, by rw [e _ _ (by omega)]; exact a3, fun i o h1 h2 => by rw [e _ _ (by omega)]; exact a4 i o h1 h2⟩
theorem rM.f0 {hi : Nat → Nat → Int32} {sr : Nat → Option Nat} {ns nc nj no : Nat} {jt : Nat → Nat} (h : rM hi sr ns nc nj no jt) (x : Int32) : rM (dk_up hi 45 0 x) sr ns nc nj no jt := by
  have e : ∀ i k, ¬ (i = 45 ∧ k = 0) → dk_up hi 45 0 x i k = hi i k := fun i k y => dk_up_ne _ _ (by omega)
  refine ⟨fun y => ?_, fun h6 => ?_⟩
  · rw [e _ _ (by omega)] at y ⊢
    rw [e _ _ (by omega)]; exact h.1 y
  rw [e _ _ (by omega)] at h6
  obtain ⟨en, q, p, M, R, rk, lim, ⟨a1, a2, a3, a4⟩, b, c1, c2, d, f1, f2⟩ := h.2 h6
  have e2 : mf2 hi (dk_up hi 45 0 x) := fun i j y => e _ _ (by omega)
  refine ⟨en, q, p, M, R, rk, lim, ⟨a1.fr (fun i j y => e _ _ (by omega)), a2.fr e2, a3.fr (fun i j y y' => e _ _ (by omega)), a4.fr e2⟩, b, c1.fr (fun i k y => e _ _ (by omega)), c2.fr (fun i k y => e _ _ (by omega)), d, ?_, f2⟩
  unfold clim
  rw [e _ _ (by omega), e _ _ (by omega)]; exact f1
theorem rR.f0 {hi : Nat → Nat → Int32} {hf : Nat → Nat → UInt32} {sr : Nat → Option Nat} (h : rR hi hf sr) (x : Int32) : rR (dk_up hi 45 0 x) hf sr := by
  have e : ∀ i k, ¬ (i = 45 ∧ k = 0) → dk_up hi 45 0 x i k = hi i k := fun i k y => dk_up_ne _ _ (by omega)
  obtain ⟨ns, nc, nj, no, jt, a, b, c, d, f⟩ := h
  refine ⟨ns, nc, nj, no, jt, fun j hj => ?_, b.fr (fun i k y => e _ _ (by unfold qD at y; omega)), c.fr (fun i k y => e _ _ (by unfold sD at y; omega)), d.f0 x, f⟩
  obtain ⟨n, md, en, g⟩ := a j hj
  exact ⟨n, md, en, g.fr (fun i k y => e _ _ (by unfold tD at y; omega))⟩
theorem rT_fun {hi : Nat → Nat → Int32} (h : ∀ j, j < 3 → ∃ n md en, rT hi j n md en) : ∃ (nR md : Nat → Nat) (en : Nat → Nat → Nat), ∀ j, j < 3 → rT hi j (nR j) (md j) (en j) := by
  obtain ⟨n0, m0, e0, h0⟩ := h 0 (by decide)
  obtain ⟨n1, m1, e1, h1⟩ := h 1 (by decide)
  obtain ⟨n2, m2, e2, h2⟩ := h 2 (by decide)
  refine ⟨fun j => if j = 0 then n0 else if j = 1 then n1 else n2, fun j => if j = 0 then m0 else if j = 1 then m1 else m2, fun j => if j = 0 then e0 else if j = 1 then e1 else e2, fun j hj => ?_⟩
  rcases (by omega : j = 0 ∨ j = 1 ∨ j = 2) with rfl | rfl | rfl
  · exact h0
  · exact h1
  · exact h2
