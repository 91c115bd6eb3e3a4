/-! ===== the working off as a machine ===== -/
theorem mB_irr (w : Int32) (f : Nat → Int32) (a : Nat) : mB w f a a = false := by
  unfold mB
  rw [if_neg (fun q => q.2 rfl)]
  exact decide_eq_false (by omega)
theorem mB_iff (w : Int32) (f : Nat → Int32) (a b : Nat) : mB w f a b = true ↔ (w = 2 ∧ f a < f b) ∨ ((¬ w = 2 ∨ f a = f b) ∧ a < b) := by
  unfold mB
  by_cases h1 : w = 2
  · by_cases h2 : f a = f b
    · rw [if_neg (fun q => q.2 h2), decide_eq_true_iff]
      constructor
      · exact fun q => Or.inr ⟨Or.inr h2, q⟩
      · rintro (⟨-, q⟩ | ⟨-, q⟩)
        · rw [h2] at q; exact absurd q (Int32.not_lt.mpr (Int32.le_refl _))
        · exact q
    · rw [if_pos ⟨h1, h2⟩, decide_eq_true_iff]
      constructor
      · exact fun q => Or.inl ⟨h1, q⟩
      · rintro (⟨-, q⟩ | ⟨q, -⟩)
        · exact q
        · rcases q with q | q
          · exact absurd h1 q
          · exact absurd q h2
  · rw [if_neg (fun q => h1 q.1), decide_eq_true_iff]
    constructor
    · exact fun q => Or.inr ⟨Or.inl h1, q⟩
    · rintro (⟨q, -⟩ | ⟨-, q⟩)
      · exact absurd q h1
      · exact q
theorem mB_asym {w : Int32} {f : Nat → Int32} {a b : Nat} (h : mB w f a b = true) : mB w f b a = false := by
  apply Bool.eq_false_iff.mpr
  intro h2
  rcases (mB_iff _ _ _ _).mp h with ⟨a1, a2⟩ | ⟨a1, a2⟩ <;> rcases (mB_iff _ _ _ _).mp h2 with ⟨b1, b2⟩ | ⟨b1, b2⟩
  · exact Int32.lt_asymm a2 b2
  · rcases b1 with b1 | b1
    · exact b1 a1
    · rw [b1] at a2; exact (Int32.not_lt.mpr (Int32.le_refl _)) a2
  · rcases a1 with a1 | a1
    · exact a1 b1
    · rw [a1] at b2; exact (Int32.not_lt.mpr (Int32.le_refl _)) b2
  · omega
theorem mB_tot {w : Int32} {f : Nat → Int32} {a b : Nat} (h : a ≠ b) : mB w f a b = true ∨ mB w f b a = true := by
  rw [mB_iff, mB_iff]
  by_cases h1 : w = 2
  · by_cases h2 : f a = f b
    · rcases Nat.lt_or_gt_of_ne h with q | q
      · exact Or.inl (Or.inr ⟨Or.inr h2, q⟩)
      · exact Or.inr (Or.inr ⟨Or.inr h2.symm, q⟩)
    · rcases Int32.lt_or_lt_of_ne h2 with q | q
      · exact Or.inl (Or.inl ⟨h1, q⟩)
      · exact Or.inr (Or.inl ⟨h1, q⟩)
  · rcases Nat.lt_or_gt_of_ne h with q | q
    · exact Or.inl (Or.inr ⟨Or.inl h1, q⟩)
    · exact Or.inr (Or.inr ⟨Or.inl h1, q⟩)
theorem mB_tr {w : Int32} {f : Nat → Int32} {a b c : Nat} (h1 : mB w f a b = true) (h2 : mB w f b c = true) : mB w f a c = true := by
  rw [mB_iff] at h1 h2 ⊢
  rcases h1 with ⟨a1, a2⟩ | ⟨a1, a2⟩ <;> rcases h2 with ⟨b1, b2⟩ | ⟨b1, b2⟩
  · exact Or.inl ⟨a1, Int32.lt_trans a2 b2⟩
  · rcases b1 with b1 | b1
    · exact absurd a1 b1
    · rw [b1] at a2; exact Or.inl ⟨a1, a2⟩
  · rcases a1 with a1 | a1
    · exact absurd b1 a1
    · rw [← a1] at b2; exact Or.inl ⟨b1, b2⟩
  · refine Or.inr ⟨?_, by omega⟩
    rcases a1 with a1 | a1
    · exact Or.inl a1
    · rcases b1 with b1 | b1
      · exact Or.inl b1
      · exact Or.inr (a1.trans b1)
/-- what fwd finds -/
theorem fwd_spec (P : Nat → Bool) (w : Int32) (f : Nat → Int32) (cur : Option Nat) : ∀ n, (∀ x, fwd P (mB w f) cur n = some x → x < n ∧ P x = true ∧ (∀ a, cur = some a → mB w f a x = true) ∧ ∀ y, y < n → P y = true → (∀ a, cur = some a → mB w f a y = true) → y = x ∨ mB w f x y = true) ∧ (fwd P (mB w f) cur n = none → ∀ y, y < n → P y = true → ¬ (∀ a, cur = some a → mB w f a y = true))
  | 0 => ⟨fun x h => (by cases h), fun _ y hy => by omega⟩
  | n + 1 => by
    obtain ⟨h1, h2⟩ := fwd_spec P w f cur n
    unfold fwd
    by_cases hc : P n = true ∧ (∀ a, cur = some a → mB w f a n = true) ∧ (∀ x, fwd P (mB w f) cur n = some x → mB w f n x = true)
    · rw [if_pos hc]
      refine ⟨fun x hx => ?_, fun h => by cases h⟩
      cases hx
      refine ⟨by omega, hc.1, hc.2.1, fun y hy hP hcy => ?_⟩
      rcases Nat.lt_or_eq_of_le (Nat.le_of_lt_succ hy) with q | q
      · right
        cases hv : fwd P (mB w f) cur n with
        | none => exact absurd hcy (h2 hv y q hP)
        | some x =>
          have hnx := hc.2.2 x hv
          rcases (h1 x hv).2.2.2 y q hP hcy with e | e
          · rw [e]; exact hnx
          · exact mB_tr hnx e
      · exact Or.inl q
    · rw [if_neg hc]
      refine ⟨fun x hx => ?_, fun hv y hy hP hcy => ?_⟩
      · obtain ⟨g1, g2, g3, g4⟩ := h1 x hx
        refine ⟨by omega, g2, g3, fun y hy hP hcy => ?_⟩
        rcases Nat.lt_or_eq_of_le (Nat.le_of_lt_succ hy) with q | q
        · exact g4 y q hP hcy
        · subst q
          by_cases e : y = x
          · exact Or.inl e
          · right
            rcases mB_tot (w := w) (f := f) e with z | z
            · exact absurd ⟨hP, hcy, fun x' hx' => by rw [hx] at hx'; cases hx'; exact z⟩ hc
            · exact z
      · rcases Nat.lt_or_eq_of_le (Nat.le_of_lt_succ hy) with q | q
        · exact h2 hv y q hP hcy
        · subst q
          exact hc ⟨hP, hcy, fun x hx => by rw [hv] at hx; cases hx⟩
theorem op_L_mem (P : Nat → Bool) (srt : Bool) (f : Nat → Int32) : ∀ n x, x ∈ op_L P srt f n ↔ x < n ∧ P x = true
  | 0, x => by simp [op_L]
  | n + 1, x => by
    have ih := op_L_mem P srt f n x
    unfold op_L op_1
    by_cases h : P n = true
    · rw [if_pos h]
      have key : (x = n ∨ x ∈ op_L P srt f n) ↔ x < n + 1 ∧ P x = true := by
        rw [ih]
        constructor
        · rintro (q | q)
          · exact ⟨by omega, by rw [q]; exact h⟩
          · exact ⟨by omega, q.2⟩
        · rintro ⟨q1, q2⟩
          rcases Nat.lt_or_eq_of_le (Nat.le_of_lt_succ q1) with z | z
          · exact Or.inr ⟨z, q2⟩
          · exact Or.inl z
      split
      · rw [insL_mem]; exact key
      · rw [List.mem_append, List.mem_singleton, Or.comm]; exact key
    · rw [if_neg h, ih]
      constructor
      · exact fun q => ⟨by omega, q.2⟩
      · rintro ⟨q1, q2⟩
        rcases Nat.lt_or_eq_of_le (Nat.le_of_lt_succ q1) with z | z
        · exact ⟨z, q2⟩
        · rw [z] at q2; exact absurd q2 h
theorem insL_pw {f : Nat → Int32} {q : Nat} : ∀ l : List Nat, (∀ x ∈ l, x < q) → l.Pairwise (fun a b => mB 2 f a b = true) → (insL f q l).Pairwise (fun a b => mB 2 f a b = true)
  | [], _, _ => by unfold insL; exact List.pairwise_singleton _ _
  | x :: l, hx, h => by
    rw [List.pairwise_cons] at h
    have ih := insL_pw l (fun y hy => hx y (List.mem_cons_of_mem _ hy)) h.2
    unfold insL
    split
    · rename_i hlt
      rw [List.pairwise_cons]
      have hqx : mB 2 f q x = true := (mB_iff _ _ _ _).mpr (Or.inl ⟨rfl, hlt⟩)
      refine ⟨fun y hy => ?_, List.pairwise_cons.mpr h⟩
      rcases List.mem_cons.mp hy with e | e
      · rw [e]; exact hqx
      · exact mB_tr hqx (h.1 y e)
    · rename_i hge
      rw [List.pairwise_cons]
      refine ⟨fun y hy => ?_, ih⟩
      rcases (insL_mem f q y l).mp hy with e | e
      · subst e
        rw [mB_iff]
        rcases Int32.lt_or_eq_of_le (Int32.not_lt.mp hge) with z | z
        · exact Or.inl ⟨rfl, z⟩
        · exact Or.inr ⟨Or.inr z, hx x List.mem_cons_self⟩
      · exact h.1 y e
theorem op_L_pw {P : Nat → Bool} {srt : Bool} {f : Nat → Int32} {w : Int32} (hs : srt = true → w = 2) : ∀ n, (srt = false → ∀ a b, a < n → b < n → P a = true → P b = true → (¬ w = 2 ∨ f a = f b)) → (op_L P srt f n).Pairwise (fun a b => mB w f a b = true)
  | 0, _ => List.Pairwise.nil
  | n + 1, hw => by
    have ih := op_L_pw hs n (fun h a b ha hb => hw h a b (by omega) (by omega))
    have hm : ∀ x ∈ op_L P srt f n, x < n ∧ P x = true := fun x hx => (op_L_mem P srt f n x).mp hx
    unfold op_L op_1
    split
    · rename_i hP
      cases srt with
      | true =>
        obtain rfl := hs rfl
        rw [if_pos rfl]
        exact insL_pw _ (fun x hx => (hm x hx).1) ih
      | false =>
        rw [if_neg (by decide), List.pairwise_append]
        refine ⟨ih, List.pairwise_singleton _ _, fun a ha b hb => ?_⟩
        rw [List.mem_singleton.mp hb, mB_iff]
        exact Or.inr ⟨hw rfl a n (by have := (hm a ha).1; omega) (by omega) (hm a ha).2 hP, (hm a ha).1⟩
    · exact ih
/-- the model's next row is the list's next place -/
theorem fw_list {P : Nat → Bool} {w : Int32} {f : Nat → Int32} {n : Nat} {l : List Nat} (hl : l.Pairwise (fun a b => mB w f a b = true)) (hm : ∀ x, x ∈ l ↔ x < n ∧ P x = true) (nx : Nat) (hnx : nx ≤ l.length) :
    fwd P (mB w f) (if nx = 0 then none else some (l.getD (nx - 1) 0)) n = if nx < l.length then some (l.getD nx 0) else none := by
  have hgd : ∀ i (h : i < l.length), l.getD i 0 = l[i] := fun i h => by rw [List.getD_eq_getElem?_getD, List.getElem?_eq_getElem h]; rfl
  have hpw : ∀ i j (hi : i < l.length) (hj : j < l.length), i < j → mB w f l[i] l[j] = true := fun i j hi hj hij => List.pairwise_iff_getElem.mp hl i j hi hj hij
  obtain ⟨s1, s2⟩ := fwd_spec P w f (if nx = 0 then none else some (l.getD (nx - 1) 0)) n
  -- candidates are what comes behind
  have cand : ∀ j (hj : j < l.length), (∀ a, (if nx = 0 then none else some (l.getD (nx - 1) 0)) = some a → mB w f a l[j] = true) ↔ nx ≤ j := by
    intro j hj
    constructor
    · intro h
      by_cases e : nx = 0
      · omega
      · have := h _ (if_neg e)
        rw [hgd (nx - 1) (by omega)] at this
        rcases Nat.lt_trichotomy j (nx - 1) with q | q | q
        · have h9 := hpw j (nx - 1) hj (by omega) q
          rw [mB_asym h9] at this; cases this
        · subst q; rw [mB_irr] at this; cases this
        · omega
    · intro h a ha
      by_cases e : nx = 0
      · rw [if_pos e] at ha; cases ha
      · rw [if_neg e] at ha
        cases ha
        rw [hgd (nx - 1) (by omega)]
        exact hpw _ _ _ hj (by omega)
  by_cases hlt : nx < l.length
  · rw [if_pos hlt, hgd nx hlt]
    have mem := (hm l[nx]).mp (List.getElem_mem hlt)
    have cn := (cand nx hlt).mpr (Nat.le_refl _)
    cases hv : fwd P (mB w f) (if nx = 0 then none else some (l.getD (nx - 1) 0)) n with
    | none => exact absurd cn (s2 hv _ mem.1 mem.2)
    | some x =>
      obtain ⟨g1, g2, g3, g4⟩ := s1 x hv
      obtain ⟨j, hj, ej⟩ := List.getElem_of_mem ((hm x).mpr ⟨g1, g2⟩)
      subst ej
      have hnj := (cand j hj).mp g3
      rcases g4 _ mem.1 mem.2 cn with e | e
      · rw [e]
      · rcases Nat.lt_or_eq_of_le hnj with q | q
        · have h9 := hpw nx j hlt hj q
          rw [mB_asym h9] at e; cases e
        · subst q; rfl
  · rw [if_neg hlt]
    cases hv : fwd P (mB w f) (if nx = 0 then none else some (l.getD (nx - 1) 0)) n with
    | none => rfl
    | some x =>
      obtain ⟨g1, g2, g3, g4⟩ := s1 x hv
      obtain ⟨j, hj, ej⟩ := List.getElem_of_mem ((hm x).mpr ⟨g1, g2⟩)
      subst ej
      have := (cand j hj).mp g3
      omega
theorem lvL_pw {q : aQ} {p : aP} {ns nc nj : Nat} (hW : aW q p ns nc nj) (hnc : nc ≤ 4) (hnj : nj ≤ 3) (rp : Nat → Nat) {k : Nat} (hk : k < ns) : (lvL q p rp k).Pairwise (fun a b => mB (pw p k) (lvF q p k) a b = true) := by
  refine op_L_pw (fun h => (of_decide_eq_true h).2) _ (fun h a b _ _ ha hb => ?_)
  have h2 := of_decide_eq_false h
  rcases (hW k hk).2.2 with ⟨i, g1, g2, g3, g4⟩ | ⟨j, g1, g2, g3, g4⟩ | ⟨g1, g2, g3⟩
  · by_cases e : pw p k = 2
    · exact absurd (show ¬ pc9 p k = -1 ∧ pw p k = 2 from ⟨by rw [g2]; exact nI_ne_m1 (by omega), e⟩) h2
    · exact Or.inl e
  · right
    have nm : ¬ pj p k = -1 := fun z => by
      rw [g3] at z
      exact nI_ne_m1 (n := j) (by omega) z
    unfold lvP at ha hb
    rw [if_pos g2, if_neg nm] at ha hb
    have e1 := of_decide_eq_true ha
    have e2 := of_decide_eq_true hb
    unfold lvF
    rw [if_pos g2]
    exact e1.trans e2.symm
  · exact Or.inl (by rw [g3]; decide)
