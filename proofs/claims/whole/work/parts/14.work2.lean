/-! ===== QueryDesk$Work: opening a source ===== -/
/-- insertion before the first greater one -/
def insL (f : Nat → Int32) (q : Nat) : List Nat → List Nat
  | [] => [q]
  | x :: l => if f q < f x then q :: x :: l else x :: insL f q l
theorem insL_mem (f : Nat → Int32) (q x : Nat) : ∀ l : List Nat, x ∈ insL f q l ↔ x = q ∨ x ∈ l
  | [] => by simp [insL]
  | y :: l => by
    unfold insL
    by_cases h : f q < f y
    · rw [if_pos h]; simp
    · rw [if_neg h, List.mem_cons, insL_mem f q x l, List.mem_cons]
      constructor
      · rintro (h | h | h)
        · exact Or.inr (Or.inl h)
        · exact Or.inl h
        · exact Or.inr (Or.inr h)
      · rintro (h | h | h)
        · exact Or.inr (Or.inl h)
        · exact Or.inl h
        · exact Or.inr (Or.inr h)
theorem insL_length (f : Nat → Int32) (q : Nat) : ∀ l : List Nat, (insL f q l).length = l.length + 1
  | [] => rfl
  | y :: l => by
    unfold insL
    by_cases h : f q < f y
    · rw [if_pos h]; rfl
    · rw [if_neg h, List.length_cons, insL_length f q l]; rfl
theorem insL_sorted (f : Nat → Int32) (q : Nat) : ∀ l : List Nat, l.Pairwise (fun a b => f a ≤ f b) → (insL f q l).Pairwise (fun a b => f a ≤ f b)
  | [], _ => by simp [insL]
  | y :: l, hl => by
    obtain ⟨h1, h2⟩ := List.pairwise_cons.mp hl
    unfold insL
    by_cases h : f q < f y
    · rw [if_pos h]
      refine List.pairwise_cons.mpr ⟨fun x hx => ?_, hl⟩
      rcases List.mem_cons.mp hx with rfl | hx
      · exact Int32.le_of_lt h
      · exact Int32.le_trans (Int32.le_of_lt h) (h1 x hx)
    · rw [if_neg h]
      refine List.pairwise_cons.mpr ⟨fun x hx => ?_, insL_sorted f q l h2⟩
      rcases (insL_mem f q x l).mp hx with rfl | hx
      · exact Int32.not_lt.mp h
      · exact h1 x hx
theorem insL_cut (f : Nat → Int32) (q : Nat) : ∀ (l : List Nat) (k : Nat), l.Pairwise (fun a b => f a ≤ f b) → k ≤ l.length → (k = 0 ∨ f (l.getD (k - 1) 0) ≤ f q) → (∀ i, k ≤ i → i < l.length → f q < f (l.getD i 0)) → l.take k ++ q :: l.drop k = insL f q l
  | [], k, _, hk, _, _ => by
    obtain rfl : k = 0 := by simpa using hk
    rfl
  | x :: l, 0, _, _, _, hg => by
    have h := hg 0 (Nat.le_refl 0) (by simp)
    unfold insL
    rw [if_pos (by simpa using h)]
    rfl
  | x :: l, k + 1, hl, hk, hc, hg => by
    obtain ⟨h1, h2⟩ := List.pairwise_cons.mp hl
    have hx : f x ≤ f q := by
      rcases hc with h | h
      · omega
      · cases k with
        | zero => simpa using h
        | succ k =>
          have hlt : k < l.length := by simp at hk; omega
          refine Int32.le_trans (h1 (l.getD k 0) ?_) (by simpa using h)
          rw [List.getD_eq_getElem?_getD, List.getElem?_eq_getElem hlt]
          exact List.getElem_mem hlt
    unfold insL
    rw [if_neg (Int32.not_lt.mpr hx), ← insL_cut f q l k h2 (by simpa using hk) ?_ ?_]
    · rfl
    · cases k with
      | zero => exact Or.inl rfl
      | succ k => exact hc.elim (fun h => by omega) (fun h => Or.inr (by simpa using h))
    · intro i h3 h4
      simpa using hg (i + 1) (by omega) (by simpa using h4)
theorem getD_app {l m : List Nat} {i : Nat} (h : i < l.length) : (l ++ m).getD i 0 = l.getD i 0 := by
  rw [List.getD_eq_getElem?_getD, List.getD_eq_getElem?_getD, List.getElem?_append_left h]
/-- the places at depth d are l -/
def wk_L (hi : Nat → Nat → Int32) (d : Nat) (l : List Nat) : Prop := hi 40 d = nI l.length ∧ l.length ≤ 24 ∧ (∀ i, i < l.length → hi 39 (d * 24 + i) = nI (l.getD i 0)) ∧ ∀ x ∈ l, x < 24
/-- nothing but the places at depth d has changed -/
def wk_F (hi hi' : Nat → Nat → Int32) (d : Nat) : Prop := ∀ i j, ¬ (i = 40 ∧ j = d) → ¬ (i = 39 ∧ d * 24 ≤ j ∧ j < d * 24 + 24) → hi' i j = hi i j
theorem wk_F.refl (hi : Nat → Nat → Int32) (d : Nat) : wk_F hi hi d := fun _ _ _ _ => rfl
theorem wk_F.trans {hi h2 h3 : Nat → Nat → Int32} {d : Nat} (a : wk_F hi h2 d) (b : wk_F h2 h3 d) : wk_F hi h3 d := fun i j h1 h2 => (b i j h1 h2).trans (a i j h1 h2)
theorem wk_F.cell {hi h2 : Nat → Nat → Int32} {d i j : Nat} (a : wk_F hi h2 d) (h : i ≠ 39 ∧ i ≠ 40) : h2 i j = hi i j := a i j (fun q => h.2 q.1) (fun q => h.1 q.1)
theorem wk_F.col {hi h2 : Nat → Nat → Int32} {d t c : Nat} (a : wk_F hi h2 d) (T : dk_T t) : tb_c h2 t c = tb_c hi t c := by
  funext p
  exact a.cell (by rcases T with rfl | rfl | rfl <;> decide)
theorem wk_add_L {hi : Nat → Nat → Int32} {d p : Nat} {l : List Nat} (h : wk_L hi d l) (hl : l.length < 24) (hp : p < 24) : wk_L (wk_add hi d l.length (nI p)) d (l ++ [p]) ∧ wk_F hi (wk_add hi d l.length (nI p)) d := by
  obtain ⟨h1, h2, h3, h4⟩ := h
  refine ⟨⟨?_, by simp; omega, fun i hi' => ?_, fun x hx => ?_⟩, fun i j n1 n2 => ?_⟩
  · simp [wk_add, dk_up]
  · simp only [List.length_append, List.length_cons, List.length_nil] at hi'
    simp only [wk_add]
    rw [dk_up_ne _ _ (Or.inl (by decide))]
    by_cases e : i = l.length
    · subst e
      rw [dk_up_same]
      simp
    · rw [dk_up_ne _ _ (Or.inr (by omega)), h3 i (by omega), getD_app (by omega)]
  · rcases List.mem_append.mp hx with h | h
    · exact h4 x h
    · rw [List.mem_singleton.mp h]; exact hp
  · simp only [wk_add]
    rw [dk_up_ne _ _ (by omega), dk_up_ne _ _ (by omega)]
theorem getD_mid (l : List Nat) (k q i : Nat) (hk : k ≤ l.length) : (l.take k ++ q :: l.drop k).getD i 0 = if i < k then l.getD i 0 else if i = k then q else l.getD (i - 1) 0 := by
  simp only [List.getD_eq_getElem?_getD]
  by_cases h1 : i < k
  · rw [if_pos h1, List.getElem?_append_left (by simp; omega), List.getElem?_take, if_pos h1]
  · rw [if_neg h1, List.getElem?_append_right (by simp; omega)]
    have e : (l.take k).length = k := by simp; omega
    rw [e]
    by_cases h2 : i = k
    · subst h2; rw [if_pos rfl, Nat.sub_self]; rfl
    · rw [if_neg h2, show i - k = (i - k - 1) + 1 by omega, List.getElem?_cons_succ, List.getElem?_drop]
      congr 2; omega
theorem wk_sink_L {hi : Nat → Nat → Int32} {d p k : Nat} {l : List Nat} (h : wk_L hi d (l ++ [p])) (hk : k ≤ l.length) : wk_L (wk_sink hi (d * 24) l.length k) d (l.take k ++ p :: l.drop k) ∧ wk_F hi (wk_sink hi (d * 24) l.length k) d := by
  obtain ⟨h1, h2, h3, h4⟩ := h
  simp only [List.length_append, List.length_cons, List.length_nil] at h1 h2 h3
  have hlen : (l.take k ++ p :: l.drop k).length = l.length + 1 := by simp; omega
  have hold : ∀ i, i < l.length → hi 39 (d * 24 + i) = nI (l.getD i 0) := fun i hi' => by rw [h3 i (by omega), getD_app hi']
  refine ⟨⟨?_, by rw [hlen]; exact h2, fun i hi' => ?_, fun x hx => ?_⟩, fun i j n1 n2 => ?_⟩
  · rw [hlen, wk_sink, dk_up_ne _ _ (Or.inl (by decide)), dk_cp_ne _ (by decide), h1]
  · rw [hlen] at hi'
    rw [getD_mid _ _ _ _ hk]
    unfold wk_sink
    by_cases e1 : i = k
    · subst e1
      rw [dk_up_same, if_neg (by omega), if_pos rfl, h3 l.length (by omega)]
      simp
    · rw [dk_up_ne _ _ (Or.inr (by omega))]
      simp only [dk_cp, va_cpy, if_true]
      by_cases e2 : i < k
      · rw [if_neg (by omega), if_pos e2, hold i (by omega)]
      · rw [if_pos (by omega), if_neg e2, if_neg e1, show d * 24 + k + (d * 24 + i - (d * 24 + k + 1)) = d * 24 + (i - 1) by omega, hold (i - 1) (by omega)]
  · refine h4 x ?_
    rcases List.mem_append.mp hx with h | h
    · exact List.mem_append_left _ (List.mem_of_mem_take h)
    · rcases List.mem_cons.mp h with rfl | h
      · exact List.mem_append_right _ (List.mem_singleton.mpr rfl)
      · exact List.mem_append_left _ (List.mem_of_mem_drop h)
  · unfold wk_sink
    have e3 : dk_cp hi 39 (d * 24 + k) (d * 24 + k + 1) (l.length - k) i j = hi i j := by
      by_cases e : i = 39
      · subst e
        simp only [dk_cp, va_cpy, if_true]
        rw [if_neg (fun q => n2 ⟨rfl, by omega, by omega⟩)]
      · exact dk_cp_ne hi e
    rw [dk_up_ne _ _ (by omega), e3]
/-- one place more, or not; sorted, or not -/
def op_1 (P : Nat → Bool) (srt : Bool) (f : Nat → Int32) (p : Nat) (l : List Nat) : List Nat := if P p = true then (if srt = true then insL f p l else l ++ [p]) else l
def op_L (P : Nat → Bool) (srt : Bool) (f : Nat → Int32) : Nat → List Nat
  | 0 => []
  | p + 1 => op_1 P srt f p (op_L P srt f p)
theorem op_L_len (P : Nat → Bool) (srt : Bool) (f : Nat → Int32) : ∀ n, (op_L P srt f n).length ≤ n
  | 0 => Nat.le_refl 0
  | n + 1 => by
    have := op_L_len P srt f n
    unfold op_L op_1
    split
    · split
      · rw [insL_length]; omega
      · simp; omega
    · omega
theorem op_L_sorted (P : Nat → Bool) (f : Nat → Int32) : ∀ n, (op_L P true f n).Pairwise (fun a b => f a ≤ f b)
  | 0 => List.Pairwise.nil
  | n + 1 => by
    have := op_L_sorted P f n
    unfold op_L op_1
    rw [if_pos rfl]
    split
    · exact insL_sorted f n _ this
    · exact this
/-- a post about the places at depth d -/
def wk_Po (hi : Nat → Nat → Int32) (hf : Nat → Nat → UInt32) (sr : Nat → Option Nat) (z : (Nat → Nat → Int64) × (Nat → Nat → UInt64)) (d : Nat) (l : List Nat) : Option Value → dk_H → Prop := fun r' h' => r' = none ∧ ∃ hi', wk_F hi hi' d ∧ wk_L hi' d l ∧ h' = (hi', hf, dk_RF sr, z)
set_option maxHeartbeats 4000000 in
set_option maxRecDepth 100000 in
theorem c_X6_openByCondition (G : dk_G) (sr : Nat → Option Nat) (hi : Nat → Nat → Int32) (hf : Nat → Nat → UInt32) (z : (Nat → Nat → Int64) × (Nat → Nat → UInt64)) {t c : Nat} (T : dk_T t) (Q : dk_Q0 c) (bv : Bool) (p d col o : Nat) (l : List Nat) (hcol : hi c 1 = nI col) (hcol' : col < 4) (ho : hi c 2 = nI o) (ho' : o < 4) (hp : p < 24) (hd : hi 38 8 = nI d) (hd' : d < 3) (hl : wk_L hi d l) (hl' : l.length < 24) (hs : bv = true → l.Pairwise (fun a b => tb_c hi t col a ≤ tb_c hi t col b)) :
    dk_M G yX6_openByCondition cX6_openByCondition 5 none { frames := 2, cells := 0, slots := 0, locals := 48 } [.ref 38, .ref t, .ref c, .int (bI bv), .int (nI p)] 63 (hi, hf, dk_RF sr, z) 63 (wk_Po hi hf sr z d (op_1 (fun q => cn_b o (tb_c hi t col q) (hi c 3)) bv (tb_c hi t col) p l)) := by
  refine dk_met (L := [some (.ref 38), some (.ref t), some (.ref c), some (.int (bI bv)), some (.int (nI p))]) pnX6 rfl (Nat.le_of_ble_eq_true rfl) ?_
  intro X C E hNm
  refine dk_aload_n C dX6_openByCondition_0 rfl rfl ?_
  refine dk_aload_n C dX6_openByCondition_1 rfl rfl ?_
  refine dk_iload C dX6_openByCondition_2 rfl ?_
  refine dk_aload_n C dX6_openByCondition_4 rfl rfl ?_
  refine ek_getI C fX6_86 Q.s0 Q.l0 rfl dX6_openByCondition_5 ?_
  rw [hcol]
  refine ek_callV C mX6_126 (c_X5_value _ _ _ _ _ T p col hp hcol') T.s0 T.l0 rfl rfl (Nat.le_of_ble_eq_true rfl) (by decide) (by decide) (Nat.zero_le _) (Nat.zero_le _) dX6_openByCondition_8 ?_
  refine ek_callV C mX6_93 (c_X0_holds _ _ _ _ _ Q (tb_c hi t col p) o ho ho') Q.s0 Q.l0 rfl rfl (Nat.le_of_ble_eq_true rfl) (by decide) (by decide) (Nat.zero_le _) (Nat.zero_le _) dX6_openByCondition_11 ?_
  refine dk_if_eq C 36 dX6_openByCondition_14 (by decide) (fun c1 => ?_) (fun c1 => ?_)
  · exact dk_vret C E dX6_openByCondition_36 (Nat.zero_le _) (Nat.zero_le _) (⟨rfl, hi, wk_F.refl hi d, by rw [op_1, if_neg (by rw [bI_n0 c1]; decide)]; exact hl, rfl⟩)
  · obtain ⟨a1, a2⟩ := wk_add_L hl hl' hp
    refine dk_aload_n C dX6_openByCondition_17 rfl rfl ?_
    refine dk_iload C dX6_openByCondition_18 rfl ?_
    refine ek_callVv C mX6_150 (c_X6_addPlace _ _ _ _ _ d l.length (nI p) hd hd' hl.1 hl') rfl (by decide) rfl rfl (Nat.le_of_ble_eq_true rfl) (by decide) (by decide) (Nat.zero_le _) (Nat.zero_le _) dX6_openByCondition_20 ?_
    refine dk_iload_n C dX6_openByCondition_23 rfl rfl ?_
    refine dk_if_eq C 36 dX6_openByCondition_24 (by decide) (fun c2 => ?_) (fun c2 => ?_)
    · exact dk_vret C E dX6_openByCondition_36 (Nat.zero_le _) (Nat.zero_le _) (⟨rfl, _, a2, by rw [op_1, if_pos (bI_n1 c1), if_neg (by rw [bI_n0 c2]; decide)]; exact a1, rfl⟩)
    · have hbv := bI_n1 c2
      have e1 : wk_add hi d l.length (nI p) c 1 = nI col := by rw [a2.cell (by unfold dk_Q0 at Q; omega), hcol]
      refine dk_aload_n C dX6_openByCondition_27 rfl rfl ?_
      refine dk_aload_n C dX6_openByCondition_28 rfl rfl ?_
      refine dk_aload_n C dX6_openByCondition_29 rfl rfl ?_
      refine ek_getI C fX6_86 Q.s0 Q.l0 rfl dX6_openByCondition_30 ?_
      rw [e1]
      refine dk_callV C mX6_154 (c_X6_sinkLastPlace _ _ (wk_add hi d l.length (nI p)) _ _ T col d l.length (fun i => (l ++ [p]).getD i 0) hcol' (by rw [a2.cell (by decide), hd]) hd' (by rw [a1.1]; simp) hl' (fun i hi' => ⟨a1.2.2.1 i (by simp; omega), a1.2.2.2 _ ?_⟩)) rfl (by decide) rfl rfl (Nat.le_of_ble_eq_true rfl) ⟨by decide, by decide⟩ ⟨Nat.zero_le _, Nat.zero_le _⟩ dX6_openByCondition_33 ?_
      · rw [List.getD_eq_getElem?_getD, List.getElem?_eq_getElem (by simp; omega)]
        exact List.getElem_mem _
      · rintro r h' ⟨rfl, k, hk, hk1, hk2, rfl⟩
        obtain ⟨b1, b2⟩ := wk_sink_L a1 hk
        have ec : tb_c (wk_add hi d l.length (nI p)) t col = tb_c hi t col := a2.col T
        have hlast : (l ++ [p]).getD l.length 0 = p := by simp
        have hbef : ∀ i, i < l.length → (l ++ [p]).getD i 0 = l.getD i 0 := fun i hi' => getD_app hi'
        have e2 := insL_cut (tb_c hi t col) p l k (hs hbv) hk (by
          rcases hk1 with h | h
          · exact Or.inl h
          · by_cases e : k = 0
            · exact Or.inl e
            · rw [ec, hlast, hbef _ (by omega)] at h
              exact Or.inr h) (fun i h1 h2 => by
          have := hk2 i h1 h2
          rw [ec, hlast, hbef _ h2] at this
          exact this)
        exact dk_vret C E dX6_openByCondition_36 (Nat.zero_le _) (Nat.zero_le _) (⟨rfl, _, a2.trans b2, by rw [op_1, if_pos (bI_n1 c1), if_pos hbv, ← e2]; exact b1, rfl⟩)
