/-! ===== QueryDeskModel: finish, give, step ===== -/
/-- R: the answers in their order; rk: the place of each -/
def RS (key : Nat → Int32) (fl : Int32) (a : Nat) (R rk : Nat → Nat) : Prop :=
  (∀ i, i < a → R i < a ∧ rk (R i) = i) ∧ (∀ x, x < a → rk x < a ∧ R (rk x) = x) ∧ ∀ u v, u < v → v < a → wk_b fl (key (R v)) (key (R u)) = false ∧ (R v < R u → wk_b fl (key (R u)) (key (R v)) = true)
def BI (key : Nat → Int32) (fl : Int32) (a : Nat) (R h : Nat → Nat) : Prop :=
  (∀ i, i < a → h i < a) ∧ (∀ i j, i < j → j < a → ¬ h i = h j) ∧ ∀ i j, i < j → j < a → h j < h i → wk_b fl (key (R (h j))) (key (R (h i))) = true
theorem RS.BI {key : Nat → Int32} {fl : Int32} {a : Nat} {R rk : Nat → Nat} (h : RS key fl a R rk) : BI key fl a R rk := by
  obtain ⟨h1, h2, h3⟩ := h
  refine ⟨fun i hi => (h2 i hi).1, fun i j hij hj e => ?_, fun i j hij hj e => ?_⟩
  · have e1 := (h2 i (by omega)).2
    have e2 := (h2 j hj).2
    rw [e] at e1
    omega
  · have e1 := (h2 i (by omega)).2
    have e2 := (h2 j hj).2
    exact (h3 _ _ e (h2 i (by omega)).1).2 (by rw [e1, e2]; exact hij)
def hsw (h : Nat → Nat) (k : Nat) : Nat → Nat := fun i => if i = k then h (k + 1) else if i = k + 1 then h k else h i
def pot (h : Nat → Nat) : Nat → Nat
  | 0 => 0
  | n + 1 => pot h n + n * h n
theorem pot_le (h : Nat → Nat) (a : Nat) (hh : ∀ i, i < a → h i < a) : ∀ n, n ≤ a → pot h n ≤ n * (a * a)
  | 0, _ => Nat.zero_le _
  | n + 1, hn => by
    have h1 := pot_le h a hh n (by omega)
    have h2 := hh n (by omega)
    have h3 : n * h n ≤ a * a := Nat.mul_le_mul (by omega) (by omega)
    show pot h n + n * h n ≤ _
    rw [Nat.succ_mul]
    omega
theorem pot_sw0 (h : Nat → Nat) (k : Nat) : ∀ n, n ≤ k → pot (hsw h k) n = pot h n
  | 0, _ => rfl
  | n + 1, hn => by
    show pot (hsw h k) n + n * hsw h k n = pot h n + n * h n
    rw [pot_sw0 h k n (by omega), hsw, if_neg (by omega), if_neg (by omega)]
theorem pot_sw (h : Nat → Nat) (k : Nat) (hlt : h (k + 1) < h k) : ∀ r, pot h (k + 2 + r) < pot (hsw h k) (k + 2 + r)
  | 0 => by
    show pot h k + k * h k + (k + 1) * h (k + 1) < pot (hsw h k) k + k * hsw h k k + (k + 1) * hsw h k (k + 1)
    rw [pot_sw0 h k k (Nat.le_refl _), hsw, if_pos rfl, hsw, if_neg (by omega), if_pos rfl, Nat.succ_mul, Nat.succ_mul]
    omega
  | r + 1 => by
    have := pot_sw h k hlt r
    show pot h (k + 2 + r) + (k + 2 + r) * h (k + 2 + r) < pot (hsw h k) (k + 2 + r) + (k + 2 + r) * hsw h k (k + 2 + r)
    rw [show hsw h k (k + 2 + r) = h (k + 2 + r) by rw [hsw, if_neg (by omega), if_neg (by omega)]]
    omega
theorem BI.sw {key : Nat → Int32} {fl : Int32} {a : Nat} {R h : Nat → Nat} (H : BI key fl a R h) {k : Nat} (hk : k + 1 < a) (hlt : h (k + 1) < h k) : BI key fl a R (hsw h k) := by
  obtain ⟨h1, h2, h3⟩ := H
  have v : ∀ i, i < a → hsw h k i < a := fun i hi => by
    unfold hsw
    split
    · exact h1 _ hk
    · split
      · exact h1 _ (by omega)
      · exact h1 _ hi
  -- places before the swap
  have g : ∀ i, hsw h k i = h (if i = k then k + 1 else if i = k + 1 then k else i) := fun i => by
    unfold hsw
    by_cases e1 : i = k
    · rw [if_pos e1, if_pos e1]
    · rw [if_neg e1, if_neg e1]
      by_cases e2 : i = k + 1
      · rw [if_pos e2, if_pos e2]
      · rw [if_neg e2, if_neg e2]
  have inj : ∀ i j, i < a → j < a → i ≠ j → ¬ h i = h j := fun i j hi hj hn => by
    rcases Nat.lt_or_gt_of_ne hn with q | q
    · exact h2 i j q hj
    · exact fun e => h2 j i q hi e.symm
  refine ⟨v, fun i j hij hj => ?_, fun i j hij hj e => ?_⟩
  · rw [g i, g j]
    refine inj _ _ ?_ ?_ ?_
    · split
      · omega
      · split <;> omega
    · split
      · omega
      · split <;> omega
    · by_cases e1 : i = k <;> by_cases e2 : j = k + 1 <;> by_cases e3 : i = k + 1 <;> by_cases e4 : j = k <;> simp [e1, e2, e3, e4] <;> omega
  · rw [g i, g j] at e ⊢
    by_cases e1 : i = k
    · by_cases e2 : j = k + 1
      · rw [if_pos e1, if_neg (by omega), if_pos e2] at e
        omega
      · rw [if_pos e1, if_neg (by omega), if_neg e2] at e ⊢
        exact h3 _ _ (by omega) hj e
    · by_cases e2 : i = k + 1
      · rw [if_neg e1, if_pos e2, if_neg (by omega), if_neg (by omega)] at e ⊢
        exact h3 _ _ (by omega) hj e
      · by_cases e3 : j = k
        · rw [if_neg e1, if_neg e2, if_pos e3] at e ⊢
          exact h3 _ _ (by omega) hk e
        · by_cases e4 : j = k + 1
          · rw [if_neg e1, if_neg e2, if_neg e3, if_pos e4] at e ⊢
            exact h3 _ _ (by omega) (by omega) e
          · rw [if_neg e1, if_neg e2, if_neg e3, if_neg e4] at e ⊢
            exact h3 _ _ hij hj e
theorem inc_id {h : Nat → Nat} {a : Nat} (h1 : ∀ i, i < a → h i < a) (h2 : ∀ k, k + 1 < a → h k < h (k + 1)) : ∀ i, i < a → h i = i := by
  have lo : ∀ i, i < a → i ≤ h i := by
    intro i
    induction i with
    | zero => intro _; exact Nat.zero_le _
    | succ i ih =>
      intro hi
      have := ih (by omega)
      have := h2 i hi
      omega
  have hiB : ∀ r i, i + r + 1 = a → h i ≤ i := by
    intro r
    induction r with
    | zero =>
      intro i hi
      have := h1 i (by omega)
      omega
    | succ r ih =>
      intro i hi
      have := ih (i + 1) (by omega)
      have := h2 i (by omega)
      omega
  intro i hi
  have a1 := lo i hi
  have a2 := hiB (a - i - 1) i (by omega)
  omega
/-- the answers, h's way -/
def bh (hi : Nat → Nat → Int32) (R : Nat → Nat) (a : Nat) (h : Nat → Nat) : Nat → Nat → Int32 := fun i j => if i = 60 ∧ j < 4 * a then hi 60 (4 * R (h (j / 4)) + j % 4) else hi i j
theorem bh_at (hi : Nat → Nat → Int32) (R : Nat → Nat) {a : Nat} (h : Nat → Nat) {k o : Nat} (hk : k < a) (ho : o < 4) : bh hi R a h 60 (4 * k + o) = hi 60 (4 * R (h k) + o) := by
  unfold bh
  rw [if_pos ⟨rfl, by omega⟩, show (4 * k + o) / 4 = k by omega, show (4 * k + o) % 4 = o by omega]
theorem bh_ne (hi : Nat → Nat → Int32) (R : Nat → Nat) {a : Nat} (h : Nat → Nat) {i j : Nat} (hn : i ≠ 60) : bh hi R a h i j = hi i j := by
  unfold bh
  rw [if_neg (fun q => hn q.1)]
theorem bh_eq {hi : Nat → Nat → Int32} {R : Nat → Nat} {a : Nat} {h h' : Nat → Nat} (hh : ∀ i, i < a → h i = h' i) : bh hi R a h = bh hi R a h' := by
  funext i j
  unfold bh
  by_cases e : i = 60 ∧ j < 4 * a
  · rw [if_pos e, if_pos e, hh _ (by omega)]
  · rw [if_neg e, if_neg e]
theorem bh_0 {hi : Nat → Nat → Int32} {R rk : Nat → Nat} {a : Nat} (hh : ∀ x, x < a → R (rk x) = x) : bh hi R a rk = hi := by
  funext i j
  unfold bh
  by_cases e : i = 60 ∧ j < 4 * a
  · rw [if_pos e, hh _ (by omega), e.1]
    congr 1
    omega
  · rw [if_neg e]
theorem bh_sw {hi : Nat → Nat → Int32} {R h : Nat → Nat} {a k : Nat} (hk : k + 1 < a) : swc (bh hi R a h) k 4 = bh hi R a (hsw h k) := by
  funext i j
  by_cases e : i = 60
  · subst e
    have ed : j = 4 * (j / 4) + j % 4 := by omega
    have hm : j % 4 < 4 := Nat.mod_lt _ (by decide)
    by_cases e1 : 4 * k ≤ j ∧ j < 4 * k + 4
    · have hj : j / 4 = k := by omega
      rw [swc, if_pos ⟨rfl, e1⟩, ed, hj, show 4 * k + j % 4 + 4 = 4 * (k + 1) + j % 4 by omega, bh_at hi R h hk hm, bh_at hi R _ (by omega) hm, hsw, if_pos rfl]
    · by_cases e2 : 4 * k + 4 ≤ j ∧ j < 4 * k + 4 + 4
      · have hj : j / 4 = k + 1 := by omega
        rw [swc, if_neg (fun q => e1 q.2), if_pos ⟨rfl, e2⟩, show j - 4 = 4 * k + j % 4 by omega, bh_at hi R h (by omega) hm]
        have ej : j = 4 * (k + 1) + j % 4 := by omega
        rw [show bh hi R a (hsw h k) 60 j = bh hi R a (hsw h k) 60 (4 * (k + 1) + j % 4) by rw [← ej], bh_at hi R _ hk hm, hsw, if_neg (by omega), if_pos rfl]
      · rw [swc, if_neg (fun q => e1 q.2), if_neg (fun q => e2 q.2)]
        unfold bh
        by_cases e3 : j < 4 * a
        · rw [if_pos ⟨rfl, e3⟩, if_pos ⟨rfl, e3⟩, hsw, if_neg (by omega), if_neg (by omega)]
        · rw [if_neg (fun q => e3 q.2), if_neg (fun q => e3 q.2)]
  · rw [bh_ne hi R _ e, swc, if_neg (fun q => e q.1), if_neg (fun q => e q.1), bh_ne hi R _ e]
def fin_s (h : Nat → Nat → Int32) (R : Nat → Nat) (a : Nat) : Nat → Nat → Int32 := if h 45 15 = -1 then h else bh h R a (fun x => x)
def fin_hi (hi : Nat → Nat → Int32) (R : Nat → Nat) (a : Nat) : Nat → Nat → Int32 := dk_up (fin_s (dk_up hi 45 6 2) R a) 45 28 (if nI a < hi 45 17 then nI a else hi 45 17)
/-- what finish wants -/
def fin_P (hi : Nat → Nat → Int32) (a : Nat) (R rk : Nat → Nat) : Prop := hi 45 15 = -1 ∨ ∃ o, o < 4 ∧ hi 45 15 = nI o ∧ RS (fun x => hi 60 (4 * x + o)) (hi 45 16) a R rk
set_option maxHeartbeats 8000000 in
set_option maxRecDepth 100000 in
theorem c_X8_finish (G : dk_G) (sr : Nat → Option Nat) (hi : Nat → Nat → Int32) (hf : Nat → Nat → UInt32) (z : (Nat → Nat → Int64) × (Nat → Nat → UInt64)) (a : Nat) (ha : hi 45 28 = nI a) (ha' : a ≤ 64) (R rk : Nat → Nat) (hP : fin_P hi a R rk) :
    dk_MF G yX8_finish cX8_finish 3 none 1 25 [.ref 45] (hi, hf, dk_RF sr, z) none (fin_hi hi R a, hf, dk_RF sr, z) := by
  refine dk_met (L := [some (.ref 45), none, none]) pnX8 rfl (Nat.le_of_ble_eq_true rfl) ?_
  intro X C E hNm
  have fin : ∀ h a1 a2, h 45 28 = nI a → h 45 17 = hi 45 17 → fin_s (dk_up hi 45 6 2) R a = h → dk_W X 63 [some (.ref 45), a1, a2] [] 63 (h, hf, dk_RF sr, z) 0 0 := by
    intro h a1 a2 g1 g2 g3
    refine dk_aload_n C dX8_finish_63 rfl rfl ?_
    refine dk_aload_n C dX8_finish_64 rfl rfl ?_
    refine ek_getI C fX8_121 rfl (by decide) rfl dX8_finish_65 ?_
    refine dk_aload_n C dX8_finish_68 rfl rfl ?_
    refine ek_getI C fX8_115 rfl (by decide) rfl dX8_finish_69 ?_
    rw [g1, g2]
    refine dk_icmp_ge C 82 dX8_finish_72 (by decide) (fun c1 => ?_) (fun c1 => ?_)
    · refine dk_aload_n C dX8_finish_82 rfl rfl ?_
      refine ek_getI C fX8_115 rfl (by decide) rfl dX8_finish_83 ?_
      rw [g2]
      refine ek_putI C fX8_121 fwX8_28 rfl (by decide) rfl dX8_finish_86 ?_
      exact dk_vret C E dX8_finish_89 (Nat.zero_le _) (Nat.zero_le _) (⟨rfl, by rw [fin_hi, g3, if_neg (Int32.not_lt.mpr c1)]⟩)
    · refine dk_aload_n C dX8_finish_75 rfl rfl ?_
      refine ek_getI C fX8_121 rfl (by decide) rfl dX8_finish_76 ?_
      rw [g1]
      refine dk_goto C 86 dX8_finish_79 (by decide) ?_
      refine ek_putI C fX8_121 fwX8_28 rfl (by decide) rfl dX8_finish_86 ?_
      exact dk_vret C E dX8_finish_89 (Nat.zero_le _) (Nat.zero_le _) (⟨rfl, by rw [fin_hi, g3, if_pos (Int32.not_le.mp c1)]⟩)
  refine dk_aload_n C dX8_finish_0 rfl rfl ?_
  refine dk_iconst C (2) dX8_finish_1 rfl ?_
  refine ek_putI C fX8_71 fwX8_6 rfl (by decide) rfl dX8_finish_2 ?_
  refine dk_aload_n C dX8_finish_5 rfl rfl ?_
  refine ek_getI C fX8_108 rfl (by decide) rfl dX8_finish_6 ?_
  rw [show dk_up hi 45 6 2 45 15 = hi 45 15 from rfl]
  rcases hP with h15 | ⟨o, ho, h15, hRS⟩
  · rw [h15]
    refine dk_if_lt C 16 dX8_finish_9 (by decide) (fun _ => ?_) (fun hz => absurd (by decide) hz)
    refine dk_iconst C (0) dX8_finish_16 rfl ?_
    refine dk_istore_n C dX8_finish_17 rfl (by decide) rfl ?_
    refine dk_iload_n C dX8_finish_18 rfl rfl ?_
    refine dk_if_eq C 63 dX8_finish_19 (by decide) (fun _ => ?_) (fun hz => absurd (rfl) hz)
    exact fin _ _ _ ha rfl (by rw [fin_s]; exact if_pos h15)
  · rw [h15]
    have n15 : ¬ dk_up hi 45 6 2 45 15 = -1 := by rw [show dk_up hi 45 6 2 45 15 = nI o from h15]; exact nI_ne_m1 (by omega)
    have hBI := hRS.BI
    have hRk : ∀ x, x < a → R (rk x) = x := fun x hx => (hRS.2.1 x hx).2
    have e0 : bh (dk_up hi 45 6 2) R a rk = dk_up hi 45 6 2 := bh_0 hRk
    generalize hH : dk_up hi 45 6 2 = H at *
    have H28 : H 45 28 = nI a := by rw [← hH]; exact ha
    have H15 : H 45 15 = nI o := by rw [← hH]; exact h15
    have hRS2 : RS (fun x => H 60 (4 * x + o)) (H 45 16) a R rk := by rw [← hH]; exact hRS
    have hBI2 : BI (fun x => H 60 (4 * x + o)) (H 45 16) a R rk := by rw [← hH]; exact hBI
    have H17 : H 45 17 = hi 45 17 := by rw [← hH]; rfl
    have swb : ∀ h k, k + 1 < a → sw_b (bh H R a h) k o = wk_b (H 45 16) (H 60 (4 * R (h (k + 1)) + o)) (H 60 (4 * R (h k) + o)) := by
      intro h k hk
      rw [sw_b, bh_ne H R h (by decide), show 4 * k + 4 + o = 4 * (k + 1) + o by omega, bh_at H R h hk ho, bh_at H R h (by omega) ho]
    have sw1 : ∀ h k, BI (fun x => H 60 (4 * x + o)) (H 45 16) a R h → k + 1 < a → sw_b (bh H R a h) k o = true → h (k + 1) < h k := by
      intro h k hb hk hs
      rw [swb h k hk] at hs
      rcases Nat.lt_trichotomy (h k) (h (k + 1)) with q | q | q
      · have := (hRS2.2.2 _ _ q (hb.1 _ hk)).1
        rw [hs] at this
        cases this
      · exact absurd q (hb.2.1 k (k + 1) (by omega) hk)
      · exact q
    have sw0 : ∀ h k, BI (fun x => H 60 (4 * x + o)) (H 45 16) a R h → k + 1 < a → sw_b (bh H R a h) k o = false → h k < h (k + 1) := by
      intro h k hb hk hs
      rw [swb h k hk] at hs
      rcases Nat.lt_trichotomy (h k) (h (k + 1)) with q | q | q
      · exact q
      · exact absurd q (hb.2.1 k (k + 1) (by omega) hk)
      · have := hb.2.2 k (k + 1) (by omega) hk q
        rw [hs] at this
        cases this
    have outer : ∀ M h, BI (fun x => H 60 (4 * x + o)) (H 45 16) a R h → a * (a * a) ≤ pot h a + M → ∀ a1 a2, dk_W X 22 [some (.ref 45), a1, a2] [] 63 (bh H R a h, hf, dk_RF sr, z) 0 0 := by
      intro M
      induction M with
      | zero =>
        intro h hb hM a1 a2
        have inner : ∀ r k, k + r + 1 = a → (∀ k', k' < k → h k' < h (k' + 1)) → dk_W X 26 [some (.ref 45), some (.int 0), some (.int (nI k))] [] 63 (bh H R a h, hf, dk_RF sr, z) 0 0 := by
          intro r
          induction r with
          | zero =>
            intro k hk hs
            refine dk_iload_n C dX8_finish_26 rfl rfl ?_
            refine dk_aload_n C dX8_finish_27 rfl rfl ?_
            refine ek_getI C fX8_121 rfl (by decide) rfl dX8_finish_28 ?_
            rw [bh_ne H R h (by decide), H28]
            refine dk_iconst C (1) dX8_finish_31 rfl ?_
            refine dk_isub C dX8_finish_32 ?_
            rw [show nI a - 1 = nI k by rw [← hk]; exact nIm1 (k := k + 0 + 1) (by omega)]
            refine dk_icmp_ge C 60 dX8_finish_33 (by decide) (fun _ => ?_) (fun hz => absurd (Int32.le_refl _) hz)
            refine dk_goto C 18 dX8_finish_60 (by decide) ?_
            refine dk_iload_n C dX8_finish_18 rfl rfl ?_
            refine dk_if_eq C 63 dX8_finish_19 (by decide) (fun _ => ?_) (fun hz => absurd (rfl) hz)
            refine fin _ _ _ (by rw [bh_ne H R h (by decide)]; exact H28) (by rw [bh_ne H R h (by decide)]; exact H17) ?_
            rw [fin_s, if_neg n15]
            exact bh_eq (fun i hi' => (inc_id hb.1 (fun k' hk' => hs k' (by omega)) i hi').symm)
          | succ r ih =>
            intro k hk hs
            refine dk_iload_n C dX8_finish_26 rfl rfl ?_
            refine dk_aload_n C dX8_finish_27 rfl rfl ?_
            refine ek_getI C fX8_121 rfl (by decide) rfl dX8_finish_28 ?_
            rw [bh_ne H R h (by decide), H28]
            refine dk_iconst C (1) dX8_finish_31 rfl ?_
            refine dk_isub C dX8_finish_32 ?_
            rw [show nI a - 1 = nI (a - 1) from nIm1 (by omega)]
            refine dk_icmp_ge C 60 dX8_finish_33 (by decide) (fun hz => absurd hz (nI_ge (by omega) (by omega))) (fun _ => ?_)
            refine dk_aload_n C dX8_finish_36 rfl rfl ?_
            refine dk_iload_n C dX8_finish_37 rfl rfl ?_
            refine ek_callV C mX8_182 (c_X8_swapped _ _ _ _ _ k o (by rw [bh_ne H R h (by decide)]; exact H15) ho (by omega)) rfl (by decide) rfl rfl (Nat.le_of_ble_eq_true rfl) (by decide) (by decide) (Nat.zero_le _) (Nat.zero_le _) dX8_finish_38 ?_
            refine dk_if_ne C 48 dX8_finish_41 (by decide) (fun c1 => ?_) (fun c1 => ?_)
            · have hlt := sw1 h k hb (by omega) (bI_n1 c1)
              have h9 := pot_sw h k hlt (a - k - 2)
              rw [show k + 2 + (a - k - 2) = a by omega] at h9
              have := pot_le (hsw h k) a (hb.sw (by omega) hlt).1 a (Nat.le_refl _)
              omega
            · have hlt := sw0 h k hb (by omega) (bI_n0 c1)
              rw [if_neg (show ¬ sw_b (bh H R a h) k o = true by rw [bI_n0 c1]; decide)]
              refine dk_iload_n C dX8_finish_44 rfl rfl ?_
              refine dk_if_eq C 52 dX8_finish_45 (by decide) (fun _ => ?_) (fun hz => absurd (rfl) hz)
              refine dk_iconst C (0) dX8_finish_52 rfl ?_
              refine dk_istore_n C dX8_finish_53 rfl (by decide) rfl ?_
              refine dk_iinc C (nI (k + 1)) dX8_finish_54 rfl (nI_1 k) (by decide) rfl ?_
              refine dk_goto C 26 dX8_finish_57 (by decide) ?_
              refine ih (k + 1) (by omega) (fun k' hk' => ?_)
              rcases Nat.lt_or_eq_of_le (Nat.le_of_lt_succ hk') with y | y
              · exact hs k' y
              · rw [y]; exact hlt
        refine dk_iconst C (0) dX8_finish_22 rfl ?_
        refine dk_istore_n C dX8_finish_23 rfl (by decide) rfl ?_
        refine dk_iconst C (0) dX8_finish_24 rfl ?_
        refine dk_istore_n C dX8_finish_25 rfl (by decide) rfl ?_
        rcases Nat.eq_zero_or_pos a with h0 | h0
        · refine dk_iload_n C dX8_finish_26 rfl rfl ?_
          refine dk_aload_n C dX8_finish_27 rfl rfl ?_
          refine ek_getI C fX8_121 rfl (by decide) rfl dX8_finish_28 ?_
          rw [bh_ne H R h (by decide), H28, show nI a = nI 0 by rw [h0]]
          refine dk_iconst C (1) dX8_finish_31 rfl ?_
          refine dk_isub C dX8_finish_32 ?_
          refine dk_icmp_ge C 60 dX8_finish_33 (by decide) (fun _ => ?_) (fun hz => absurd (by decide) hz)
          refine dk_goto C 18 dX8_finish_60 (by decide) ?_
          refine dk_iload_n C dX8_finish_18 rfl rfl ?_
          refine dk_if_eq C 63 dX8_finish_19 (by decide) (fun _ => ?_) (fun hz => absurd (rfl) hz)
          refine fin _ _ _ (by rw [bh_ne H R h (by decide)]; exact H28) (by rw [bh_ne H R h (by decide)]; exact H17) ?_
          rw [fin_s, if_neg n15]
          exact bh_eq (fun i hi' => by omega)
        · exact inner (a - 1) 0 (by omega) (fun k' hk' => by omega)
      | succ M ihM =>
        intro h0 hb0 hM a1 a2
        have inner : ∀ r k h mv, k + r + 1 = a → BI (fun x => H 60 (4 * x + o)) (H 45 16) a R h → ((mv = (0 : Int32) ∧ h = h0 ∧ ∀ k', k' < k → h k' < h (k' + 1)) ∨ (mv = 1 ∧ pot h0 a < pot h a)) → dk_W X 26 [some (.ref 45), some (.int mv), some (.int (nI k))] [] 63 (bh H R a h, hf, dk_RF sr, z) 0 0 := by
          intro r
          induction r with
          | zero =>
            intro k h mv hk hb hs
            refine dk_iload_n C dX8_finish_26 rfl rfl ?_
            refine dk_aload_n C dX8_finish_27 rfl rfl ?_
            refine ek_getI C fX8_121 rfl (by decide) rfl dX8_finish_28 ?_
            rw [bh_ne H R h (by decide), H28]
            refine dk_iconst C (1) dX8_finish_31 rfl ?_
            refine dk_isub C dX8_finish_32 ?_
            rw [show nI a - 1 = nI k by rw [← hk]; exact nIm1 (k := k + 0 + 1) (by omega)]
            refine dk_icmp_ge C 60 dX8_finish_33 (by decide) (fun _ => ?_) (fun hz => absurd (Int32.le_refl _) hz)
            refine dk_goto C 18 dX8_finish_60 (by decide) ?_
            refine dk_iload_n C dX8_finish_18 rfl rfl ?_
            rcases hs with ⟨g1, g2, g3⟩ | ⟨g1, g2⟩
            · subst g1
              refine dk_if_eq C 63 dX8_finish_19 (by decide) (fun _ => ?_) (fun hz => absurd (rfl) hz)
              refine fin _ _ _ (by rw [bh_ne H R h (by decide)]; exact H28) (by rw [bh_ne H R h (by decide)]; exact H17) ?_
              rw [fin_s, if_neg n15]
              exact bh_eq (fun i hi' => (inc_id hb.1 (fun k' hk' => g3 k' (by omega)) i hi').symm)
            · subst g1
              refine dk_if_eq C 63 dX8_finish_19 (by decide) (fun hz => absurd hz (by decide)) (fun _ => ?_)
              exact ihM h hb (by omega) _ _
          | succ r ih =>
            intro k h mv hk hb hs
            refine dk_iload_n C dX8_finish_26 rfl rfl ?_
            refine dk_aload_n C dX8_finish_27 rfl rfl ?_
            refine ek_getI C fX8_121 rfl (by decide) rfl dX8_finish_28 ?_
            rw [bh_ne H R h (by decide), H28]
            refine dk_iconst C (1) dX8_finish_31 rfl ?_
            refine dk_isub C dX8_finish_32 ?_
            rw [show nI a - 1 = nI (a - 1) from nIm1 (by omega)]
            refine dk_icmp_ge C 60 dX8_finish_33 (by decide) (fun hz => absurd hz (nI_ge (by omega) (by omega))) (fun _ => ?_)
            refine dk_aload_n C dX8_finish_36 rfl rfl ?_
            refine dk_iload_n C dX8_finish_37 rfl rfl ?_
            refine ek_callV C mX8_182 (c_X8_swapped _ _ _ _ _ k o (by rw [bh_ne H R h (by decide)]; exact H15) ho (by omega)) rfl (by decide) rfl rfl (Nat.le_of_ble_eq_true rfl) (by decide) (by decide) (Nat.zero_le _) (Nat.zero_le _) dX8_finish_38 ?_
            refine dk_if_ne C 48 dX8_finish_41 (by decide) (fun c1 => ?_) (fun c1 => ?_)
            · have hlt := sw1 h k hb (by omega) (bI_n1 c1)
              rw [if_pos (bI_n1 c1), bh_sw (by omega)]
              have h9 := pot_sw h k hlt (a - k - 2)
              rw [show k + 2 + (a - k - 2) = a by omega] at h9
              refine dk_iconst C (1) dX8_finish_48 rfl ?_
              refine dk_goto C 53 dX8_finish_49 (by decide) ?_
              refine dk_istore_n C dX8_finish_53 rfl (by decide) rfl ?_
              refine dk_iinc C (nI (k + 1)) dX8_finish_54 rfl (nI_1 k) (by decide) rfl ?_
              refine dk_goto C 26 dX8_finish_57 (by decide) ?_
              refine ih (k + 1) (hsw h k) 1 (by omega) (hb.sw (by omega) hlt) (Or.inr ⟨rfl, ?_⟩)
              rcases hs with ⟨g1, g2, g3⟩ | ⟨g1, g2⟩
              · rw [← g2]; exact h9
              · omega
            · have hlt := sw0 h k hb (by omega) (bI_n0 c1)
              rw [if_neg (show ¬ sw_b (bh H R a h) k o = true by rw [bI_n0 c1]; decide)]
              refine dk_iload_n C dX8_finish_44 rfl rfl ?_
              rcases hs with ⟨g1, g2, g3⟩ | ⟨g1, g2⟩
              · subst g1
                refine dk_if_eq C 52 dX8_finish_45 (by decide) (fun _ => ?_) (fun hz => absurd (rfl) hz)
                refine dk_iconst C (0) dX8_finish_52 rfl ?_
                refine dk_istore_n C dX8_finish_53 rfl (by decide) rfl ?_
                refine dk_iinc C (nI (k + 1)) dX8_finish_54 rfl (nI_1 k) (by decide) rfl ?_
                refine dk_goto C 26 dX8_finish_57 (by decide) ?_
                refine ih (k + 1) h 0 (by omega) hb (Or.inl ⟨rfl, g2, fun k' hk' => ?_⟩)
                rcases Nat.lt_or_eq_of_le (Nat.le_of_lt_succ hk') with y | y
                · exact g3 k' y
                · rw [y]; exact hlt
              · subst g1
                refine dk_if_eq C 52 dX8_finish_45 (by decide) (fun hz => absurd hz (by decide)) (fun _ => ?_)
                refine dk_iconst C (1) dX8_finish_48 rfl ?_
                refine dk_goto C 53 dX8_finish_49 (by decide) ?_
                refine dk_istore_n C dX8_finish_53 rfl (by decide) rfl ?_
                refine dk_iinc C (nI (k + 1)) dX8_finish_54 rfl (nI_1 k) (by decide) rfl ?_
                refine dk_goto C 26 dX8_finish_57 (by decide) ?_
                exact ih (k + 1) h 1 (by omega) hb (Or.inr ⟨rfl, g2⟩)
        refine dk_iconst C (0) dX8_finish_22 rfl ?_
        refine dk_istore_n C dX8_finish_23 rfl (by decide) rfl ?_
        refine dk_iconst C (0) dX8_finish_24 rfl ?_
        refine dk_istore_n C dX8_finish_25 rfl (by decide) rfl ?_
        rcases Nat.eq_zero_or_pos a with h9 | h9
        · refine dk_iload_n C dX8_finish_26 rfl rfl ?_
          refine dk_aload_n C dX8_finish_27 rfl rfl ?_
          refine ek_getI C fX8_121 rfl (by decide) rfl dX8_finish_28 ?_
          rw [bh_ne H R h0 (by decide), H28, show nI a = nI 0 by rw [h9]]
          refine dk_iconst C (1) dX8_finish_31 rfl ?_
          refine dk_isub C dX8_finish_32 ?_
          refine dk_icmp_ge C 60 dX8_finish_33 (by decide) (fun _ => ?_) (fun hz => absurd (by decide) hz)
          refine dk_goto C 18 dX8_finish_60 (by decide) ?_
          refine dk_iload_n C dX8_finish_18 rfl rfl ?_
          refine dk_if_eq C 63 dX8_finish_19 (by decide) (fun _ => ?_) (fun hz => absurd (rfl) hz)
          refine fin _ _ _ (by rw [bh_ne H R h0 (by decide)]; exact H28) (by rw [bh_ne H R h0 (by decide)]; exact H17) ?_
          rw [fin_s, if_neg n15]
          exact bh_eq (fun i hi' => by omega)
        · exact inner (a - 1) 0 h0 0 (by omega) hb0 (Or.inl ⟨rfl, rfl, fun k' hk' => by omega⟩)
    refine dk_if_lt C 16 dX8_finish_9 (by decide) (fun hz => absurd hz (nI_pos (by omega))) (fun _ => ?_)
    refine dk_iconst C (1) dX8_finish_12 rfl ?_
    refine dk_goto C 17 dX8_finish_13 (by decide) ?_
    refine dk_istore_n C dX8_finish_17 rfl (by decide) rfl ?_
    refine dk_iload_n C dX8_finish_18 rfl rfl ?_
    refine dk_if_eq C 63 dX8_finish_19 (by decide) (fun hz => absurd hz (by decide)) (fun _ => ?_)
    have hh := outer (a * (a * a)) rk hBI2 (by omega) (some (.int 1)) none
    rw [e0] at hh
    exact hh
