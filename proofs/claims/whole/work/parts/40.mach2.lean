/-! ===== the machine's steps; QueryDeskModel: run ===== -/
/-- levels open, their lists, the next place in each; by source the place read last; answers found, their values -/
abbrev aM : Type := Nat × (Nat → List Nat) × (Nat → Nat) × (Nat → Nat) × Nat × (Nat → Nat → Int32)
abbrev mD (m : aM) : Nat := m.1
abbrev ml (m : aM) : Nat → List Nat := m.2.1
abbrev mx (m : aM) : Nat → Nat := m.2.2.1
abbrev mr (m : aM) : Nat → Nat := m.2.2.2.1
abbrev ma (m : aM) : Nat := m.2.2.2.2.1
abbrev mF (m : aM) : Nat → Nat → Int32 := m.2.2.2.2.2
/-- finished levels left -/
def paD (l : Nat → List Nat) (nx : Nat → Nat) : Nat → Nat
  | 0 => 0
  | d + 1 => if nx d < (l d).length then d + 1 else paD l nx d
def paM (m : aM) : aM := (paD (ml m) (mx m) (mD m), m.2)
theorem paD_le (l : Nat → List Nat) (nx : Nat → Nat) : ∀ d, paD l nx d ≤ d
  | 0 => Nat.le_refl _
  | d + 1 => by
    unfold paD
    split
    · exact Nat.le_refl _
    · exact Nat.le_succ_of_le (paD_le l nx d)
theorem paD_top (l : Nat → List Nat) (nx : Nat → Nat) : ∀ d, 0 < paD l nx d → nx (paD l nx d - 1) < (l (paD l nx d - 1)).length
  | 0, h => absurd h (Nat.lt_irrefl _)
  | d + 1, h => by
    unfold paD at h ⊢
    by_cases e : nx d < (l d).length
    · rw [if_pos e]; exact e
    · rw [if_neg e] at h ⊢; exact paD_top l nx d h
theorem paD_fix (l : Nat → List Nat) (nx : Nat → Nat) : ∀ d, paD l nx (paD l nx d) = paD l nx d
  | 0 => rfl
  | d + 1 => by
    by_cases e : nx d < (l d).length
    · have : paD l nx (d + 1) = d + 1 := by rw [paD, if_pos e]
      rw [this, this]
    · have : paD l nx (d + 1) = paD l nx d := by rw [paD, if_neg e]
      rw [this]; exact paD_fix l nx d
def rdR (p : aP) (m : aM) : Nat → Nat := fun s => if s = po p (mD m - 1) then (ml m (mD m - 1)).getD (mx m (mD m - 1)) 0 else mr m s
def rdX (m : aM) : Nat → Nat := fun k => if k = mD m - 1 then mx m (mD m - 1) + 1 else mx m k
/-- a row read -/
noncomputable def rdM (q : aQ) (p : aP) (ns nc nj : Nat) (m : aM) : aM :=
  if bP (aPS q p (rdR p m) (mD m - 1) nc nj) = true then
    (if mD m = ns then (mD m, ml m, rdX m, rdR p m, ma m + 1, fun i o => if i = ma m then gvv q (rdR p m) o else mF m i o)
     else (mD m + 1, (fun k => if k = mD m then lvL q p (rdR p m) (mD m) else ml m k), (fun k => if k = mD m then 0 else rdX m k), rdR p m, ma m, mF m))
  else (mD m, ml m, rdX m, rdR p m, ma m, mF m)
def dnM (lim : Nat) (m : aM) : Prop := paD (ml m) (mx m) (mD m) = 0 ∨ lim ≤ ma m
noncomputable def arM (q : aQ) (p : aP) (ns nc nj lim : Nat) : Nat → aM → Nat × aM
  | 0, m => (0, m)
  | n + 1, m => if bP (dnM lim m) = true then (0, m) else ((arM q p ns nc nj lim n (rdM q p ns nc nj (paM m))).1 + 1, (arM q p ns nc nj lim n (rdM q p ns nc nj (paM m))).2)
/-- the machine is in order -/
def mI (q : aQ) (p : aP) (ns : Nat) (m : aM) : Prop := mD m ≤ ns ∧ ∀ k, k < mD m → ml m k = lvL q p (mr m) k ∧ mx m k ≤ (ml m k).length ∧ (k + 1 < mD m → 0 < mx m k) ∧ (0 < mx m k → mr m (po p k) = (ml m k).getD (mx m k - 1) 0)
theorem mI.pa {q : aQ} {p : aP} {ns : Nat} {m : aM} (h : mI q p ns m) : mI q p ns (paM m) := by
  have hle := paD_le (ml m) (mx m) (mD m)
  refine ⟨Nat.le_trans hle h.1, fun k hk => ?_⟩
  have hk' : k < paD (ml m) (mx m) (mD m) := hk
  obtain ⟨a1, a2, a3, a4⟩ := h.2 k (by omega)
  exact ⟨a1, a2, fun z => a3 (by have : k + 1 < paD (ml m) (mx m) (mD m) := z; omega), a4⟩
theorem op_L_congr {P P' : Nat → Bool} {srt : Bool} {f f' : Nat → Int32} : ∀ n, (∀ x, x < n → P x = P' x) → (srt = true → ∀ x, x < n → f x = f' x) → op_L P srt f n = op_L P' srt f' n
  | 0, _, _ => rfl
  | n + 1, h1, h2 => by
    have ih := op_L_congr (srt := srt) (f := f) (f' := f') n (fun x hx => h1 x (by omega)) (fun hs x hx => h2 hs x (by omega))
    have hins : ∀ l : List Nat, (∀ x ∈ l, x < n + 1) → srt = true → insL f n l = insL f' n l := by
      intro l
      induction l with
      | nil => intro _ _; rfl
      | cons x l il =>
        intro hx hs
        unfold insL
        rw [h2 hs n (by omega), h2 hs x (hx x List.mem_cons_self), il (fun y hy => hx y (List.mem_cons_of_mem _ hy)) hs]
    unfold op_L op_1
    rw [ih, h1 n (by omega)]
    split
    · split
      · rename_i hs
        exact hins _ (fun x hx => by have := ((op_L_mem _ _ _ _ _).mp hx).1; omega) hs
      · rfl
    · rfl
theorem lvL_rp {q : aQ} {p : aP} {ns nc nj : Nat} (hW : aW q p ns nc nj) (hnj : nj ≤ 3) {rp rp' : Nat → Nat} {k : Nat} (hk : k < ns) (h : ∀ i, i < k → rp' (po p i) = rp (po p i)) : lvL q p rp' k = lvL q p rp k := by
  refine op_L_congr _ (fun x _ => ?_) (fun _ _ _ => rfl)
  unfold lvP
  rcases (hW k hk).2.2 with ⟨i, g1, g2, g3, g4⟩ | ⟨j, g1, g2, g3, g4⟩ | ⟨g1, g2, g3⟩
  · by_cases e : pc9 p k = -1
    · rw [if_pos e, if_pos e, if_pos g3, if_pos g3]
    · rw [if_neg e, if_neg e]
  · rw [if_pos g2, if_pos g2]
    have ej : cl (pj p k) = j := by rw [g3, cl_nI (by omega)]
    obtain ⟨-, t2⟩ := qT_e g4
    rw [bfo, List.any_eq_true] at t2
    obtain ⟨i0, y1, y2⟩ := t2
    have e0 := of_decide_eq_true y2
    rw [ej, ← e0, h i0 (List.mem_range.mp y1)]
  · rw [if_pos g1, if_pos g1, if_pos g2, if_pos g2]
theorem lvL_mem {q : aQ} {p : aP} {rp : Nat → Nat} {k x : Nat} (h : x ∈ lvL q p rp k) : x < qn q (po p k) := ((op_L_mem _ _ _ _ _).mp h).1
theorem getD_mem {l : List Nat} {i : Nat} (h : i < l.length) : l.getD i 0 ∈ l := by
  rw [List.getD_eq_getElem?_getD, List.getElem?_eq_getElem h]
  exact List.getElem_mem _
theorem mI.lt {q : aQ} {p : aP} {ns : Nat} {m : aM} (h : mI q p ns m) {k : Nat} (hk : k < mD m) (hx : 0 < mx m k) : mr m (po p k) < qn q (po p k) := by
  obtain ⟨a1, a2, a3, a4⟩ := h.2 k hk
  rw [a4 hx]
  have := getD_mem (l := ml m k) (i := mx m k - 1) (by omega)
  rw [a1] at this ⊢
  exact lvL_mem this
/-- where a read can be made -/
def rdP (m : aM) : Prop := 0 < mD m ∧ mx m (mD m - 1) < (ml m (mD m - 1)).length
theorem rdR_top (p : aP) (m : aM) : rdR p m (po p (mD m - 1)) = (ml m (mD m - 1)).getD (mx m (mD m - 1)) 0 := if_pos rfl
theorem rdR_low {q : aQ} {p : aP} {ns nc nj : Nat} (hW : aW q p ns nc nj) {m : aM} (hD : mD m ≤ ns) (h0 : 0 < mD m) {i : Nat} (hi : i < mD m - 1) : rdR p m (po p i) = mr m (po p i) := if_neg ((hW (mD m - 1) (by omega)).2.1 i hi)
theorem rdR_lt {q : aQ} {p : aP} {ns : Nat} {m : aM} (h : mI q p ns m) (hr : rdP m) : rdR p m (po p (mD m - 1)) < qn q (po p (mD m - 1)) := by
  rw [rdR_top]
  have := getD_mem hr.2
  rw [(h.2 (mD m - 1) (by have := hr.1; omega)).1] at this ⊢
  exact lvL_mem this
theorem mI.rd {q : aQ} {p : aP} {ns nc nj : Nat} (hW : aW q p ns nc nj) (hnj : nj ≤ 3) {m : aM} (h : mI q p ns m) (hr : rdP m) : mI q p ns (rdM q p ns nc nj m) := by
  have hD := h.1
  have h0 := hr.1
  have low : ∀ k, k < mD m → lvL q p (rdR p m) k = lvL q p (mr m) k := fun k hk => lvL_rp hW hnj (by omega) (fun i hi => rdR_low hW hD h0 (by omega))
  have base : ∀ k, k < mD m → ml m k = lvL q p (rdR p m) k ∧ rdX m k ≤ (ml m k).length ∧ 0 < rdX m k ∧ (rdR p m (po p k) = (ml m k).getD (rdX m k - 1) 0) := by
    intro k hk
    obtain ⟨a1, a2, a3, a4⟩ := h.2 k hk
    refine ⟨by rw [low k hk]; exact a1, ?_, ?_, ?_⟩
    · unfold rdX
      split
      · rename_i e; rw [e]; exact hr.2
      · exact a2
    · unfold rdX
      split
      · omega
      · exact a3 (by omega)
    · by_cases e : k = mD m - 1
      · subst e
        rw [rdR_top, rdX, if_pos rfl]
        rfl
      · rw [rdR_low hW hD h0 (by omega), rdX, if_neg e]
        exact a4 (a3 (by omega))
  unfold rdM
  split
  · split
    · exact ⟨hD, fun k hk => ⟨(base k hk).1, (base k hk).2.1, fun _ => (base k hk).2.2.1, fun _ => (base k hk).2.2.2⟩⟩
    · refine ⟨by show mD m + 1 ≤ ns; omega, fun k hk => ?_⟩
      have hk' : k < mD m + 1 := hk
      show (if k = mD m then lvL q p (rdR p m) (mD m) else ml m k) = lvL q p (rdR p m) k ∧ (if k = mD m then 0 else rdX m k) ≤ (if k = mD m then lvL q p (rdR p m) (mD m) else ml m k).length ∧ (k + 1 < mD m + 1 → 0 < (if k = mD m then 0 else rdX m k)) ∧ (0 < (if k = mD m then 0 else rdX m k) → rdR p m (po p k) = (if k = mD m then lvL q p (rdR p m) (mD m) else ml m k).getD ((if k = mD m then 0 else rdX m k) - 1) 0)
      by_cases e : k = mD m
      · simp only [if_pos e]
        refine ⟨by rw [e], Nat.zero_le _, fun z => by omega, fun z => absurd z (Nat.lt_irrefl _)⟩
      · simp only [if_neg e]
        have hb := base k (by omega)
        exact ⟨hb.1, hb.2.1, fun _ => hb.2.2.1, fun _ => hb.2.2.2⟩
  · exact ⟨hD, fun k hk => ⟨(base k hk).1, (base k hk).2.1, fun _ => (base k hk).2.2.1, fun _ => (base k hk).2.2.2⟩⟩
/-- the model's cells hold the machine -/
def bM (hi : Nat → Nat → Int32) (p : aP) (en : Nat → Nat → Nat) (no : Nat) (m : aM) : Prop :=
  hi 45 26 = dpI (mD m) ∧ (∀ k, k < mD m → hi 59 k = if mx m k = 0 then -1 else nI (en (po p k) (mr m (po p k)))) ∧ hi 45 28 = nI (ma m) ∧ ∀ i o, i < ma m → o < no → hi 60 (4 * i + o) = mF m i o
