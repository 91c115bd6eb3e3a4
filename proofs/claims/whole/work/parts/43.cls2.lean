/-! ===== QueryDesk: run ===== -/
theorem wkb_asym {fl x y : Int32} (h : wk_b fl x y = true) : wk_b fl y x = false := by
  unfold wk_b at h ⊢
  split at h
  · rename_i e
    rw [if_pos e]
    exact decide_eq_false (fun z => Int32.lt_asymm z (of_decide_eq_true h))
  · rename_i e
    rw [if_neg e]
    exact decide_eq_false (fun z => Int32.lt_asymm z (of_decide_eq_true h))
theorem wkb_ntr {fl x y w : Int32} (h1 : wk_b fl x y = false) (h2 : wk_b fl y w = false) : wk_b fl x w = false := by
  unfold wk_b at h1 h2 ⊢
  by_cases e : fl = 0
  · rw [if_pos e] at h1 h2 ⊢
    have a1 := Int32.not_lt.mp (of_decide_eq_false h1)
    have a2 := Int32.not_lt.mp (of_decide_eq_false h2)
    exact decide_eq_false (Int32.not_lt.mpr (Int32.le_trans a2 a1))
  · rw [if_neg e] at h1 h2 ⊢
    have a1 := Int32.not_lt.mp (of_decide_eq_false h1)
    have a2 := Int32.not_lt.mp (of_decide_eq_false h2)
    exact decide_eq_false (Int32.not_lt.mpr (Int32.le_trans a1 a2))
/-- answer a put in at rank k -/
def insR (R : Nat → Nat) (k a : Nat) : Nat → Nat := fun i => if i < k then R i else if i = k then a else R (i - 1)
def insK (rk : Nat → Nat) (k a : Nat) : Nat → Nat := fun x => if x = a then k else if rk x < k then rk x else rk x + 1
theorem RS.ins {key key' : Nat → Int32} {fl : Int32} {a : Nat} {R rk : Nat → Nat} (h : RS key fl a R rk) (hk : ∀ x, x < a → key' x = key x) {k : Nat} (hka : k ≤ a) (h1 : k = 0 ∨ wk_b fl (key' a) (key' (R (k - 1))) = false) (h2 : ∀ i, k ≤ i → i < a → wk_b fl (key' a) (key' (R i)) = true) : RS key' fl (a + 1) (insR R k a) (insK rk k a) := by
  obtain ⟨r1, r2, r3⟩ := h
  have r3' : ∀ u v, u < v → v < a → wk_b fl (key' (R v)) (key' (R u)) = false ∧ (R v < R u → wk_b fl (key' (R u)) (key' (R v)) = true) := fun u v huv hv => by
    rw [hk _ (r1 v hv).1, hk _ (r1 u (by omega)).1]
    exact r3 u v huv hv
  refine ⟨fun i hi => ?_, fun x hx => ?_, fun u v huv hv => ?_⟩
  · unfold insR insK
    by_cases e1 : i < k
    · rw [if_pos e1]
      obtain ⟨y1, y2⟩ := r1 i (by omega)
      rw [if_neg (by omega), y2, if_pos e1]
      exact ⟨by omega, rfl⟩
    · rw [if_neg e1]
      by_cases e2 : i = k
      · rw [if_pos e2, if_pos rfl]; exact ⟨by omega, e2.symm⟩
      · rw [if_neg e2]
        obtain ⟨y1, y2⟩ := r1 (i - 1) (by omega)
        rw [if_neg (by omega), y2, if_neg (by omega)]
        exact ⟨by omega, by omega⟩
  · unfold insR insK
    by_cases e1 : x = a
    · rw [if_pos e1, if_neg (Nat.lt_irrefl _), if_pos rfl]
      exact ⟨by omega, e1.symm⟩
    · rw [if_neg e1]
      obtain ⟨y1, y2⟩ := r2 x (by omega)
      by_cases e2 : rk x < k
      · rw [if_pos e2, if_pos e2]; exact ⟨by omega, y2⟩
      · rw [if_neg e2, if_neg (by omega), if_neg (by omega), Nat.add_sub_cancel]
        exact ⟨by omega, y2⟩
  · unfold insR
    by_cases e1 : v < k
    · rw [if_pos e1, if_pos (show u < k by omega)]
      exact r3' u v huv (by omega)
    · rw [if_neg e1]
      by_cases e2 : v = k
      · rw [if_pos e2, if_pos (show u < k by omega)]
        have hu := (r1 u (by omega)).1
        refine ⟨?_, fun z => by omega⟩
        rcases h1 with y | y
        · omega
        · by_cases e3 : u = k - 1
          · rw [e3]; exact y
          · exact wkb_ntr y (r3' u (k - 1) (by omega) (by omega)).1
      · rw [if_neg e2]
        by_cases e3 : u < k
        · rw [if_pos e3]
          exact r3' u (v - 1) (by omega) (by omega)
        · rw [if_neg e3]
          by_cases e4 : u = k
          · rw [if_pos e4]
            have h9 := h2 (v - 1) (by omega) (by omega)
            exact ⟨wkb_asym h9, fun _ => h9⟩
          · rw [if_neg e4]
            exact r3' (u - 1) (v - 1) (by omega) (by omega)
/-- the ranks are in order -/
def rkF (hi : Nat → Nat → Int32) (m : aM) (R rk : Nat → Nat) (no : Nat) : Prop := (hi 14 8 = -1 ∧ ∀ i, i < ma m → R i = i) ∨ ∃ o, o < no ∧ hi 14 8 = nI o ∧ RS (fun x => mF m x o) (hi 14 9) (ma m) R rk
def aC (hi : Nat → Nat → Int32) (no : Nat) (R rk : Nat → Nat) (m : aM) : Prop :=
  hi 38 8 = dpI (paD (ml m) (mx m) (mD m)) ∧ (∀ k, k < mD m → wk_L hi k (ml m k) ∧ hi 41 k = nI (mx m k)) ∧ (∀ s, s < 3 → hi 42 s = nI (mr m s) ∧ mr m s < 24) ∧ hi 38 6 = nI (ma m) ∧ (∀ i o, i < ma m → o < no → hi 43 (i * 4 + o) = mF m i o) ∧ (∀ i, i < ma m → hi 44 i = nI (R i) ∧ R i < 64) ∧ rkF hi m R rk no
theorem aC.pa {hi : Nat → Nat → Int32} {no : Nat} {R rk : Nat → Nat} {m : aM} (h : aC hi no R rk m) : aC hi no R rk (paM m) := by
  obtain ⟨a1, a2, a3, a4, a5, a6, a7⟩ := h
  refine ⟨?_, fun k hk => a2 k (Nat.lt_of_lt_of_le hk (paD_le _ _ _)), a3, a4, a5, a6, a7⟩
  rw [a1]
  show dpI (paD (ml m) (mx m) (mD m)) = dpI (paD (ml m) (mx m) (paD (ml m) (mx m) (mD m)))
  rw [paD_fix]
theorem lfd_pa {nx ct : Nat → Int32} {l : Nat → List Nat} {x : Nat → Nat} : ∀ D, (∀ k, k < D → nx k = nI (x k) ∧ ct k = nI (l k).length ∧ x k ≤ (l k).length ∧ (l k).length ≤ 24) → lfd nx ct D = paD l x D
  | 0, _ => rfl
  | D + 1, h => by
    have ih := lfd_pa (nx := nx) (ct := ct) (l := l) (x := x) D (fun k hk => h k (by omega))
    obtain ⟨h1, h2, h3, h4⟩ := h D (by omega)
    unfold lfd paD
    rw [ih, h1, h2]
    by_cases e : x D < (l D).length
    · rw [if_pos e, if_pos (nI_lt e (by omega))]
    · rw [if_neg e, if_neg (fun z => e ((nI_ltI (by omega) (by omega)).mp z))]
theorem wk_L.fr {hi hi' : Nat → Nat → Int32} {k : Nat} {l : List Nat} (h : wk_L hi k l) (h1 : hi' 40 k = hi 40 k) (h2 : ∀ i, i < 24 → hi' 39 (k * 24 + i) = hi 39 (k * 24 + i)) : wk_L hi' k l :=
  ⟨by rw [h1]; exact h.1, h.2.1, fun i hi9 => by rw [h2 i (by have := h.2.1; omega)]; exact h.2.2.1 i hi9, h.2.2.2⟩
/-- what the working off may change of the class -/
def cf2 (hi hi' : Nat → Nat → Int32) : Prop := ∀ i j, ¬ (38 ≤ i ∧ i ≤ 44) → hi' i j = hi i j
theorem cf2.refl (hi : Nat → Nat → Int32) : cf2 hi hi := fun _ _ _ => rfl
theorem cf2.trans {hi h2 h3 : Nat → Nat → Int32} (a : cf2 hi h2) (b : cf2 h2 h3) : cf2 hi h3 := fun i j h => (b i j h).trans (a i j h)
theorem ka_f_44 (hi : Nat → Nat → Int32) (st rp : Nat → Nat) {a no k j : Nat} (hk : k ≤ a) (hj : j ≤ a) : ka_f hi st rp a no k 44 j = if j < k then hi 44 j else if j = k then nI a else hi 44 (j - 1) := by
  unfold ka_f
  rw [dk_up_ne _ _ (Or.inl (by decide))]
  by_cases e : j = k
  · subst e
    rw [dk_up_same, if_neg (Nat.lt_irrefl _), if_pos rfl]
  · rw [dk_up_ne _ _ (Or.inr e), if_neg e]
    simp only [dk_cp, va_cpy, if_true]
    by_cases e2 : j < k
    · rw [if_pos e2, if_neg (by omega), ka_w_ne (by decide)]
    · rw [if_neg e2, if_pos (by omega), ka_w_ne (by decide)]
      congr 1
      omega
theorem ka_w_43 {hi : Nat → Nat → Int32} {st rp : Nat → Nat} {a : Nat} : ∀ n j, ka_w hi st rp a n 43 j = if a * 4 ≤ j ∧ j < a * 4 + n then ov hi st rp (j - a * 4) else hi 43 j
  | 0, j => by rw [if_neg (by omega)]; rfl
  | n + 1, j => by
    show dk_up _ _ _ _ 43 j = _
    by_cases e : j = a * 4 + n
    · subst e
      rw [dk_up_same, if_pos (by omega)]
      congr 1
      omega
    · rw [dk_up_ne _ _ (Or.inr e), ka_w_43 n j]
      by_cases e2 : a * 4 ≤ j ∧ j < a * 4 + n
      · rw [if_pos e2, if_pos (by omega)]
      · rw [if_neg e2, if_neg (by omega)]
theorem ka_f_43 (hi : Nat → Nat → Int32) (st rp : Nat → Nat) (a no k j : Nat) : ka_f hi st rp a no k 43 j = ka_w hi st rp a no 43 j := by
  unfold ka_f
  rw [dk_up_ne _ _ (Or.inl (by decide)), dk_up_ne _ _ (Or.inl (by decide)), dk_cp_ne _ (by decide)]
theorem ka_f_ne (hi : Nat → Nat → Int32) (st rp : Nat → Nat) (a no k : Nat) {i j : Nat} (h : i ≠ 43 ∧ i ≠ 44 ∧ (i ≠ 38 ∨ j ≠ 6)) : ka_f hi st rp a no k i j = hi i j := by
  unfold ka_f
  rw [dk_up_ne _ _ (by omega), dk_up_ne _ _ (by omega), dk_cp_ne _ (by omega), ka_w_ne (by omega)]
