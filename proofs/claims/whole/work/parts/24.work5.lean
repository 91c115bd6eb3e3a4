/-! ===== QueryDesk$Work: an answer kept, a step, the beginning ===== -/
/-- the outputs as the class holds them -/
def qO (hi : Nat → Nat → Int32) (ns no : Nat) : Prop := hi 14 7 = nI no ∧ no ≤ 4 ∧ (∀ i, i < no → ∃ s c, s < ns ∧ c < 4 ∧ hi (26 + i) 0 = nI s ∧ hi (26 + i) 1 = nI c) ∧ (hi 14 8 = -1 ∨ ∃ o, o < no ∧ hi 14 8 = nI o)
theorem qO.fr {hi hi' : Nat → Nat → Int32} {ns no : Nat} (h : qO hi ns no) (hh : ∀ i j, i < 30 → hi' i j = hi i j) : qO hi' ns no := by
  obtain ⟨a1, a2, a3, a4⟩ := h
  refine ⟨by rw [hh _ _ (by decide)]; exact a1, a2, fun i hi' => ?_, by rw [hh _ _ (by decide)]; exact a4⟩
  obtain ⟨s, c, y1, y2, y3, y4⟩ := a3 i hi'
  exact ⟨s, c, y1, y2, by rw [hh _ _ (by omega)]; exact y3, by rw [hh _ _ (by omega)]; exact y4⟩
def ov (hi : Nat → Nat → Int32) (st rp : Nat → Nat) (i : Nat) : Int32 := rdv hi st rp (cl (hi (26 + i) 0)) (cl (hi (26 + i) 1))
/-- the outputs' values of the rows read, written as answer a -/
def ka_w (hi : Nat → Nat → Int32) (st rp : Nat → Nat) (a : Nat) : Nat → Nat → Nat → Int32
  | 0 => hi
  | i + 1 => dk_up (ka_w hi st rp a i) 43 (a * 4 + i) (ov hi st rp i)
theorem ka_w_ne {hi : Nat → Nat → Int32} {st rp : Nat → Nat} {a : Nat} {i j : Nat} (h : i ≠ 43) : ∀ k, ka_w hi st rp a k i j = hi i j
  | 0 => rfl
  | k + 1 => by
    show dk_up _ _ _ _ _ _ = _
    rw [dk_up_ne _ _ (Or.inl h), ka_w_ne h k]
def ka_f (hi : Nat → Nat → Int32) (st rp : Nat → Nat) (a no k : Nat) : Nat → Nat → Int32 := dk_up (dk_up (dk_cp (ka_w hi st rp a no) 44 k (k + 1) (a - k)) 44 k (nI a)) 38 6 (nI (a + 1))
/-- whether answer a goes before the one of rank i -/
def ka_b (hi : Nat → Nat → Int32) (R : Nat → Nat) (a i : Nat) : Prop := ¬ hi 14 8 = -1 ∧ wk_b (hi 14 9) (hi 43 (a * 4 + cl (hi 14 8))) (hi 43 (R i * 4 + cl (hi 14 8))) = true
def ka_Po (hi : Nat → Nat → Int32) (hf : Nat → Nat → UInt32) (sr : Nat → Option Nat) (z : (Nat → Nat → Int64) × (Nat → Nat → UInt64)) (st rp R : Nat → Nat) (a no : Nat) : Option Value → dk_H → Prop := fun r' h' => r' = none ∧ ∃ k, k ≤ a ∧ (k = 0 ∨ ¬ ka_b (ka_w hi st rp a no) R a (k - 1)) ∧ (∀ i, k ≤ i → i < a → ka_b (ka_w hi st rp a no) R a i) ∧ h' = (ka_f hi st rp a no k, hf, dk_RF sr, z)
set_option maxHeartbeats 4000000 in
set_option maxRecDepth 100000 in
theorem c_X6_keepAnswer (G : dk_G) (sr : Nat → Option Nat) (hi : Nat → Nat → Int32) (hf : Nat → Nat → UInt32) (z : (Nat → Nat → Int64) × (Nat → Nat → UInt64)) {ns nc nj no : Nat} {st nR : Nat → Nat} (hq : qC hi sr ns nc nj st nR) (ho : qO hi ns no) (rp R : Nat → Nat) (hrp : ∀ s, s < 3 → hi 42 s = nI (rp s) ∧ rp s < 24) (a : Nat) (ha : hi 38 6 = nI a) (ha' : a < 64) (hR : ∀ i, i < a → hi 44 i = nI (R i) ∧ R i < 64) :
    dk_M G yX6_keepAnswer cX6_keepAnswer 5 none { frames := 2, cells := 0, slots := 0, locals := 45 } [.ref 38, .ref 14] 63 (hi, hf, dk_RF sr, z) 63 (ka_Po hi hf sr z st rp R a no) := by
  refine dk_met (L := [some (.ref 38), some (.ref 14), none, none, none]) pnX6 rfl (Nat.le_of_ble_eq_true rfl) ?_
  intro X C E hNm
  have hns := hq.1.2.1
  obtain ⟨o1, o2, o3, o4⟩ := ho
  have fin : ∀ k, k ≤ a → (k = 0 ∨ ¬ ka_b (ka_w hi st rp a no) R a (k - 1)) → (∀ i, k ≤ i → i < a → ka_b (ka_w hi st rp a no) R a i) → dk_W X 110 [some (.ref 38), some (.ref 14), some (.int (nI (a * 4))), some (.int (nI k)), none] [] 63 (dk_cp (ka_w hi st rp a no) 44 k (k + 1) (a - k), hf, dk_RF sr, z) 0 0 := by
    intro k hk h1 h2
    have e1 : dk_cp (ka_w hi st rp a no) 44 k (k + 1) (a - k) 38 6 = nI a := by rw [dk_cp_ne _ (by decide), ka_w_ne (by decide), ha]
    refine dk_aload_n C dX6_keepAnswer_110 rfl rfl ?_
    refine ek_getR C fX6_31 rfl (by decide) rfl 44 rfl dX6_keepAnswer_111 ?_
    refine dk_iload_n C dX6_keepAnswer_114 rfl rfl ?_
    refine dk_aload_n C dX6_keepAnswer_115 rfl rfl ?_
    refine ek_getI C fX6_38 rfl (by decide) rfl dX6_keepAnswer_116 ?_
    rw [e1]
    refine ek_iast C rfl (by decide) (k) (rfl) (by omega) (by decide) dX6_keepAnswer_119 ?_
    refine dk_aload_n C dX6_keepAnswer_120 rfl rfl ?_
    refine dk_dup C dX6_keepAnswer_121 rfl ?_
    refine ek_getI C fX6_38 rfl (by decide) rfl dX6_keepAnswer_122 ?_
    refine dk_iconst C (1) dX6_keepAnswer_125 rfl ?_
    refine dk_iadd C dX6_keepAnswer_126 ?_
    refine ek_putI C fX6_38 fwX6_6 rfl (by decide) rfl dX6_keepAnswer_127 ?_
    rw [dk_up_ne _ _ (Or.inl (by decide)), e1, nI_1]
    exact dk_vret C E dX6_keepAnswer_130 (Nat.zero_le _) (Nat.zero_le _) (⟨rfl, k, hk, h1, h2, rfl⟩)
  have loop2 : ∀ k, k ≤ a → (∀ i, k ≤ i → i < a → ka_b (ka_w hi st rp a no) R a i) → dk_W X 59 [some (.ref 38), some (.ref 14), some (.int (nI (a * 4))), some (.int (nI k)), none] [] 63 (dk_cp (ka_w hi st rp a no) 44 k (k + 1) (a - k), hf, dk_RF sr, z) 0 0 := by
    intro k
    induction k with
    | zero =>
      intro hk h2
      refine dk_iload_n C dX6_keepAnswer_59 rfl rfl ?_
      refine dk_if_le C 110 dX6_keepAnswer_60 (by decide) (fun _ => ?_) (fun hz => absurd (Int32.le_refl _) hz)
      exact fin 0 hk (Or.inl rfl) h2
    | succ k ih =>
      intro hk h2
      have c14 : ∀ j, dk_cp (ka_w hi st rp a no) 44 (k + 1) (k + 1 + 1) (a - (k + 1)) 14 j = ka_w hi st rp a no 14 j := fun j => dk_cp_ne _ (by decide)
      have c43 : ∀ j, dk_cp (ka_w hi st rp a no) 44 (k + 1) (k + 1 + 1) (a - (k + 1)) 43 j = ka_w hi st rp a no 43 j := fun j => dk_cp_ne _ (by decide)
      have e38 : dk_cp (ka_w hi st rp a no) 44 (k + 1) (k + 1 + 1) (a - (k + 1)) 38 6 = nI a := by rw [dk_cp_ne _ (by decide), ka_w_ne (by decide), ha]
      have e44 : dk_cp (ka_w hi st rp a no) 44 (k + 1) (k + 1 + 1) (a - (k + 1)) 44 k = nI (R k) := by rw [dk_cp_at _ (by omega), ka_w_ne (by decide), (hR k (by omega)).1]
      refine dk_iload_n C dX6_keepAnswer_59 rfl rfl ?_
      refine dk_if_le C 110 dX6_keepAnswer_60 (by decide) (fun hz => absurd hz (nI_nle (by omega) (by omega))) (fun _ => ?_)
      refine dk_aload_n C dX6_keepAnswer_63 rfl rfl ?_
      refine ek_callV C mX6_176 (c_X4_isOrdered _ _ _ _ _) rfl (by decide) rfl rfl (Nat.le_of_ble_eq_true rfl) (by decide) (by decide) (Nat.zero_le _) (Nat.zero_le _) dX6_keepAnswer_64 ?_
      rw [c14]
      refine dk_if_eq C 110 dX6_keepAnswer_67 (by decide) (fun c1 => ?_) (fun c1 => ?_)
      · refine fin (k + 1) hk (Or.inr (fun q => q.1 ?_)) h2
        have := bI_n0 c1
        simpa using this
      · have hord : ¬ ka_w hi st rp a no 14 8 = -1 := by simpa using bI_n1 c1
        obtain ⟨o, oo, eo⟩ : ∃ o, o < no ∧ ka_w hi st rp a no 14 8 = nI o := by
          rw [ka_w_ne (by decide)] at hord ⊢
          rcases o4 with h | h
          · exact absurd h hord
          · exact h
        refine dk_aload_n C dX6_keepAnswer_70 rfl rfl ?_
        refine dk_aload_n C dX6_keepAnswer_71 rfl rfl ?_
        refine dk_aload_n C dX6_keepAnswer_72 rfl rfl ?_
        refine ek_getI C fX6_38 rfl (by decide) rfl dX6_keepAnswer_73 ?_
        rw [e38]
        refine dk_aload_n C dX6_keepAnswer_76 rfl rfl ?_
        refine ek_getR C fX6_31 rfl (by decide) rfl 44 rfl dX6_keepAnswer_77 ?_
        refine dk_iload_n C dX6_keepAnswer_80 rfl rfl ?_
        refine dk_iconst C (1) dX6_keepAnswer_81 rfl ?_
        refine dk_isub C dX6_keepAnswer_82 ?_
        refine ek_iald C rfl (by decide) (k) (nIm1 (k := k + 1) (by omega)) (by omega) (by decide) dX6_keepAnswer_83 ?_
        rw [e44]
        refine ek_callV C mX6_180 (c_X6_goesBefore _ _ _ _ _ a (R k) o (by omega) (hR k (by omega)).2 (by rw [c14]; exact eo) (by omega)) rfl (by decide) rfl rfl (Nat.le_of_ble_eq_true rfl) (by decide) (by decide) (Nat.zero_le _) (Nat.zero_le _) dX6_keepAnswer_84 ?_
        rw [c14, c43, c43]
        have ekb : ka_b (ka_w hi st rp a no) R a k ↔ wk_b (ka_w hi st rp a no 14 9) (ka_w hi st rp a no 43 (a * 4 + o)) (ka_w hi st rp a no 43 (R k * 4 + o)) = true := by
          unfold ka_b
          rw [eo, cl_nI (by omega)]
          exact ⟨fun q => q.2, fun q => ⟨by rw [← eo]; exact hord, q⟩⟩
        refine dk_if_eq C 110 dX6_keepAnswer_87 (by decide) (fun c2 => ?_) (fun c2 => ?_)
        · refine fin (k + 1) hk (Or.inr (fun q => ?_)) h2
          have := ekb.mp q
          rw [bI_n0 c2] at this
          exact absurd this (by decide)
        · refine dk_aload_n C dX6_keepAnswer_90 rfl rfl ?_
          refine ek_getR C fX6_31 rfl (by decide) rfl 44 rfl dX6_keepAnswer_91 ?_
          refine dk_iload_n C dX6_keepAnswer_94 rfl rfl ?_
          refine dk_aload_n C dX6_keepAnswer_95 rfl rfl ?_
          refine ek_getR C fX6_31 rfl (by decide) rfl 44 rfl dX6_keepAnswer_96 ?_
          refine dk_iload_n C dX6_keepAnswer_99 rfl rfl ?_
          refine dk_iconst C (1) dX6_keepAnswer_100 rfl ?_
          refine dk_isub C dX6_keepAnswer_101 ?_
          refine ek_iald C rfl (by decide) (k) (nIm1 (k := k + 1) (by omega)) (by omega) (by decide) dX6_keepAnswer_102 ?_
          rw [e44, ← (hR k (by omega)).1, ← ka_w_ne (hi := hi) (st := st) (rp := rp) (a := a) (show 44 ≠ 43 by decide) no]
          refine ek_iast C rfl (by decide) (k + 1) (rfl) (by omega) (by decide) dX6_keepAnswer_103 ?_
          refine dk_iinc C (nI k) dX6_keepAnswer_104 rfl (by rw [litm1]; exact pk_m1 k) (by decide) rfl ?_
          refine dk_goto C 59 dX6_keepAnswer_107 (by decide) ?_
          have e4 : dk_up (dk_cp (ka_w hi st rp a no) 44 (k + 1) (k + 1 + 1) (a - (k + 1))) 44 (k + 1) (ka_w hi st rp a no 44 k) = dk_cp (ka_w hi st rp a no) 44 k (k + 1) (a - k) := by
            rw [show a - k = a - (k + 1) + 1 by omega]
            exact dk_cp_s _ 44 k (a - (k + 1))
          rw [e4]
          refine ih (by omega) (fun i g1 g2 => ?_)
          by_cases e : i = k
          · subst e; exact ekb.mpr (bI_n1 c2)
          · exact h2 i (by omega) g2
  have loop1 : ∀ r i, i + r = no → dk_W X 9 [some (.ref 38), some (.ref 14), some (.int (nI (a * 4))), some (.int (nI i)), none] [] 63 (ka_w hi st rp a i, hf, dk_RF sr, z) 0 0 := by
    intro r
    induction r with
    | zero =>
      intro i hi'
      obtain rfl : i = no := by omega
      have e1 : ka_w hi st rp a i 38 6 = nI a := by rw [ka_w_ne (by decide), ha]
      refine dk_iload_n C dX6_keepAnswer_9 rfl rfl ?_
      refine dk_aload_n C dX6_keepAnswer_10 rfl rfl ?_
      refine ek_getI C fX6_165 rfl (by decide) rfl dX6_keepAnswer_11 ?_
      rw [ka_w_ne (by decide), o1]
      refine dk_icmp_ge C 54 dX6_keepAnswer_14 (by decide) (fun _ => ?_) (fun hz => absurd (Int32.le_refl _) hz)
      refine dk_aload_n C dX6_keepAnswer_54 rfl rfl ?_
      refine ek_getI C fX6_38 rfl (by decide) rfl dX6_keepAnswer_55 ?_
      rw [e1]
      refine dk_istore_n C dX6_keepAnswer_58 rfl (by decide) rfl ?_
      have h9 := loop2 a (Nat.le_refl a) (fun i g1 g2 => by omega)
      rw [Nat.sub_self, dk_cp_0] at h9
      exact h9
    | succ r ih =>
      intro i hi'
      have Q := dk_Q2i (n := i) (by omega)
      obtain ⟨s, c, y1, y2, y3, y4⟩ := o3 i (by omega)
      obtain ⟨p1, T, p3, p4⟩ := hq.1.2.2 s y1
      have tl : st s + 2 < 43 := by unfold dk_T at T; omega
      refine dk_iload_n C dX6_keepAnswer_9 rfl rfl ?_
      refine dk_aload_n C dX6_keepAnswer_10 rfl rfl ?_
      refine ek_getI C fX6_165 rfl (by decide) rfl dX6_keepAnswer_11 ?_
      rw [ka_w_ne (by decide), o1]
      refine dk_icmp_ge C 54 dX6_keepAnswer_14 (by decide) (fun hz => absurd hz (nI_ge (by omega) (by omega))) (fun _ => ?_)
      refine dk_aload_n C dX6_keepAnswer_17 rfl rfl ?_
      refine ek_getR C fX6_168 rfl (by decide) rfl 25 rfl dX6_keepAnswer_18 ?_
      refine dk_iload_n C dX6_keepAnswer_21 rfl rfl ?_
      refine ek_aald C rfl (by decide) (by decide) (i) (rfl) (by omega) (by decide) (26 + i) (dk_RF25 sr (by omega)) dX6_keepAnswer_22 ?_
      refine dk_astore C dX6_keepAnswer_23 (by decide) rfl ?_
      refine dk_aload_n C dX6_keepAnswer_25 rfl rfl ?_
      refine ek_getR C fX6_28 rfl (by decide) rfl 43 rfl dX6_keepAnswer_26 ?_
      refine dk_iload_n C dX6_keepAnswer_29 rfl rfl ?_
      refine dk_iload_n C dX6_keepAnswer_30 rfl rfl ?_
      refine dk_iadd C dX6_keepAnswer_31 ?_
      refine dk_aload_n C dX6_keepAnswer_32 rfl rfl ?_
      refine dk_aload_n C dX6_keepAnswer_33 rfl rfl ?_
      refine dk_aload C dX6_keepAnswer_34 rfl ?_
      refine ek_getI C fX6_172 Q.s0 Q.l0 rfl dX6_keepAnswer_36 ?_
      refine dk_aload C dX6_keepAnswer_39 rfl ?_
      refine ek_getI C fX6_175 Q.s0 Q.l0 rfl dX6_keepAnswer_41 ?_
      rw [ka_w_ne (by omega), ka_w_ne (by omega), y3, y4]
      have ev : tb_c (ka_w hi st rp a i) (st s) c (rp s) = ov hi st rp i := by
        unfold ov rdv
        rw [y3, y4, cl_nI (by omega), cl_nI (by omega)]
        exact ka_w_ne (by omega) i
      refine ek_callV C mX6_89 (c_X6_readValue _ _ _ _ _ s c (rp s) T p1 (by omega) y2 (by rw [ka_w_ne (by decide)]; exact (hrp s (by omega)).1) (hrp s (by omega)).2) rfl (by decide) rfl rfl (Nat.le_of_ble_eq_true rfl) (by decide) (by decide) (Nat.zero_le _) (Nat.zero_le _) dX6_keepAnswer_44 ?_
      rw [ev]
      refine ek_iast C rfl (by decide) (a * 4 + i) (nI_add (a * 4) i) (by omega) (by decide) dX6_keepAnswer_47 ?_
      refine dk_iinc C (nI (i + 1)) dX6_keepAnswer_48 rfl (nI_1 i) (by decide) rfl ?_
      refine dk_goto C 9 dX6_keepAnswer_51 (by decide) ?_
      refine dk_forgetAt 4 ?_
      exact ih (i + 1) (by omega)
  refine dk_aload_n C dX6_keepAnswer_0 rfl rfl ?_
  refine ek_getI C fX6_38 rfl (by decide) rfl dX6_keepAnswer_1 ?_
  refine dk_iconst C (4) dX6_keepAnswer_4 rfl ?_
  refine dk_imul C dX6_keepAnswer_5 ?_
  rw [ha, nI4k]
  refine dk_istore_n C dX6_keepAnswer_6 rfl (by decide) rfl ?_
  refine dk_iconst C (0) dX6_keepAnswer_7 rfl ?_
  refine dk_istore_n C dX6_keepAnswer_8 rfl (by decide) rfl ?_
  exact loop1 no 0 (by omega)
/-- a row read: the place, the next one, the step -/
def wk_read (hi : Nat → Nat → Int32) (d s q nx : Nat) : Nat → Nat → Int32 := dk_up (dk_up (dk_up hi 42 s (nI q)) 41 d (nI (nx + 1))) 38 7 (hi 38 7 + 1)
theorem wk_read_ne {hi : Nat → Nat → Int32} {d s q nx i j : Nat} (h : i ≠ 42 ∧ i ≠ 41 ∧ (i ≠ 38 ∨ j ≠ 7)) : wk_read hi d s q nx i j = hi i j := by
  unfold wk_read
  rw [dk_up_ne _ _ (by omega), dk_up_ne _ _ (by omega), dk_up_ne _ _ (by omega)]
def ms_end (hi : Nat → Nat → Int32) (d : Nat) : Nat → Nat → Int32 := dk_up hi 38 8 (dpI (lfd (hi 41) (hi 40) d))
def ms_Po (h3 : Nat → Nat → Int32) (hf : Nat → Nat → UInt32) (sr : Nat → Option Nat) (z : (Nat → Nat → Int64) × (Nat → Nat → UInt64)) (st rp R : Nat → Nat) (d s ns nc nj no a : Nat) (l : List Nat) : Option Value → dk_H → Prop := fun r' h' => r' = none ∧ ∃ h4 d4, h' = (ms_end h4 d4, hf, dk_RF sr, z) ∧
  ((¬ psA h3 st rp d s nc nj ∧ h4 = h3 ∧ d4 = d + 1) ∨
   (psA h3 st rp d s nc nj ∧ d + 1 = ns ∧ d4 = d + 1 ∧ ∃ k, k ≤ a ∧ (k = 0 ∨ ¬ ka_b (ka_w h3 st rp a no) R a (k - 1)) ∧ (∀ i, k ≤ i → i < a → ka_b (ka_w h3 st rp a no) R a i) ∧ h4 = ka_f h3 st rp a no k) ∨
   (psA h3 st rp d s nc nj ∧ d + 1 < ns ∧ d4 = d + 2 ∧ wk_F (wk_open h3 (d + 1)) h4 (d + 1) ∧ wk_L h4 (d + 1) l))
set_option maxHeartbeats 4000000 in
set_option maxRecDepth 100000 in
theorem c_X6_makeStep (G : dk_G) (sr : Nat → Option Nat) (hi : Nat → Nat → Int32) (hf : Nat → Nat → UInt32) (z : (Nat → Nat → Int64) × (Nat → Nat → UInt64)) {ns nc nj no : Nat} {st nR : Nat → Nat} (hq : qC hi sr ns nc nj st nR) (ho : qO hi ns no) (rp R : Nat → Nat) (d s q nx a : Nat) (hrp : ∀ x, x < 3 → wk_read hi d s q nx 42 x = nI (rp x) ∧ rp x < 24) (ha : hi 38 6 = nI a) (ha' : a < 64) (hR : ∀ i, i < a → hi 44 i = nI (R i) ∧ R i < 64)
    (hd : hi 38 8 = nI d) (hd' : d < ns) (hs : hi 34 d = nI s) (hs' : s < ns) (hnx : hi 41 d = nI nx) (hnx' : nx < 24) (hqq : hi 39 (d * 24 + nx) = nI q) (l : List Nat) (t9 : Nat) (s9 : Nat) (P : Nat → Bool) (srt : Bool) (f : Nat → Int32) (hop : d + 1 < ns → dk_T t9 ∧ hi 34 (d + 1) = nI s9 ∧ s9 < 3 ∧ sr s9 = some t9 ∧ (∃ n9, hi t9 4 = nI n9 ∧ n9 ≤ 24 ∧ l = op_L P srt f n9) ∧ op_W (wk_read hi d s q nx) sr (d + 1) s9 t9 P srt f) :
    dk_M G yX6_makeStep cX6_makeStep 4 none { frames := 4, cells := 0, slots := 0, locals := 98 } [.ref 38, .ref 14, .ref 30] 63 (hi, hf, dk_RF sr, z) 63 (ms_Po (wk_read hi d s q nx) hf sr z st rp R d s ns nc nj no a l) := by
  refine dk_met (L := [some (.ref 38), some (.ref 14), some (.ref 30), none]) pnX6 rfl (Nat.le_of_ble_eq_true rfl) ?_
  intro X C E hNm
  have hns := hq.1.2.1
  have e24 : hi 38 8 * 24 + hi 41 d = nI (d * 24 + nx) := by rw [hd, hnx, nI24]
  have leave : ∀ h4 d4, d4 ≤ 3 → h4 38 8 = dpI d4 → (∀ E9 : ms_Po (wk_read hi d s q nx) hf sr z st rp R d s ns nc nj no a l none (ms_end h4 d4, hf, dk_RF sr, z), dk_W X 103 [some (.ref 38), some (.ref 14), some (.ref 30), some (.int (nI s))] [] 63 (h4, hf, dk_RF sr, z) 0 0) := by
    intro h4 d4 g1 g2 E9
    refine dk_aload_n C dX6_makeStep_103 rfl rfl ?_
    refine ek_callVv C mX6_51 (c_X6_leaveFinishedSources _ _ _ _ _ d4 g2 g1) rfl (by decide) rfl rfl (Nat.le_of_ble_eq_true rfl) (by decide) (by decide) (Nat.zero_le _) (Nat.zero_le _) dX6_makeStep_104 ?_
    exact dk_vret C E dX6_makeStep_107 (Nat.zero_le _) (Nat.zero_le _) (E9)
  refine dk_aload_n C dX6_makeStep_0 rfl rfl ?_
  refine ek_getR C fX6_58 rfl (by decide) rfl 34 rfl dX6_makeStep_1 ?_
  refine dk_aload_n C dX6_makeStep_4 rfl rfl ?_
  refine ek_getI C fX6_34 rfl (by decide) rfl dX6_makeStep_5 ?_
  rw [hd]
  refine ek_iald C rfl (by decide) (d) (rfl) (by omega) (by decide) dX6_makeStep_8 ?_
  rw [hs]
  refine dk_istore_n C dX6_makeStep_9 rfl (by decide) rfl ?_
  refine dk_aload_n C dX6_makeStep_10 rfl rfl ?_
  refine ek_getR C fX6_25 rfl (by decide) rfl 42 rfl dX6_makeStep_11 ?_
  refine dk_iload_n C dX6_makeStep_14 rfl rfl ?_
  refine dk_aload_n C dX6_makeStep_15 rfl rfl ?_
  refine ek_getR C fX6_13 rfl (by decide) rfl 39 rfl dX6_makeStep_16 ?_
  refine dk_aload_n C dX6_makeStep_19 rfl rfl ?_
  refine ek_getI C fX6_34 rfl (by decide) rfl dX6_makeStep_20 ?_
  refine dk_bipush C (24) dX6_makeStep_23 rfl ?_
  refine dk_imul C dX6_makeStep_25 ?_
  refine dk_aload_n C dX6_makeStep_26 rfl rfl ?_
  refine ek_getR C fX6_22 rfl (by decide) rfl 41 rfl dX6_makeStep_27 ?_
  refine dk_aload_n C dX6_makeStep_30 rfl rfl ?_
  refine ek_getI C fX6_34 rfl (by decide) rfl dX6_makeStep_31 ?_
  refine ek_iald C rfl (by decide) (d) (hd) (by omega) (by decide) dX6_makeStep_34 ?_
  refine dk_iadd C dX6_makeStep_35 ?_
  refine ek_iald C rfl (by decide) (d * 24 + nx) (e24) (by omega) (by decide) dX6_makeStep_36 ?_
  refine ek_iast C rfl (by decide) (s) (rfl) (by omega) (by decide) dX6_makeStep_37 ?_
  rw [hqq]
  have f1 : dk_up hi 42 s (nI q) 38 8 = nI d := by rw [dk_up_ne _ _ (Or.inl (by decide)), hd]
  have f2 : dk_up hi 42 s (nI q) 41 d = nI nx := by rw [dk_up_ne _ _ (Or.inl (by decide)), hnx]
  refine dk_aload_n C dX6_makeStep_38 rfl rfl ?_
  refine ek_getR C fX6_22 rfl (by decide) rfl 41 rfl dX6_makeStep_39 ?_
  refine dk_aload_n C dX6_makeStep_42 rfl rfl ?_
  refine ek_getI C fX6_34 rfl (by decide) rfl dX6_makeStep_43 ?_
  refine dk_dup2 C dX6_makeStep_46 rfl rfl ?_
  refine ek_iald C rfl (by decide) (d) (f1) (by omega) (by decide) dX6_makeStep_47 ?_
  refine dk_iconst C (1) dX6_makeStep_48 rfl ?_
  refine dk_iadd C dX6_makeStep_49 ?_
  refine ek_iast C rfl (by decide) (d) (f1) (by omega) (by decide) dX6_makeStep_50 ?_
  rw [f2, nI_1]
  refine dk_aload_n C dX6_makeStep_51 rfl rfl ?_
  refine dk_dup C dX6_makeStep_52 rfl ?_
  refine ek_getI C fX6_41 rfl (by decide) rfl dX6_makeStep_53 ?_
  refine dk_iconst C (1) dX6_makeStep_56 rfl ?_
  refine dk_iadd C dX6_makeStep_57 ?_
  refine ek_putI C fX6_41 fwX6_7 rfl (by decide) rfl dX6_makeStep_58 ?_
  have f3 : dk_up (dk_up hi 42 s (nI q)) 41 d (nI (nx + 1)) 38 7 = hi 38 7 := by rw [dk_up_ne _ _ (Or.inl (by decide)), dk_up_ne _ _ (Or.inl (by decide))]
  rw [f3]
  have eh3 : dk_up (dk_up (dk_up hi 42 s (nI q)) 41 d (nI (nx + 1))) 38 7 (hi 38 7 + 1) = wk_read hi d s q nx := rfl
  rw [eh3]
  have hq3 : qC (wk_read hi d s q nx) sr ns nc nj st nR := hq.fr (fun i j h => wk_read_ne (by omega))
  have ho3 : qO (wk_read hi d s q nx) ns no := ho.fr (fun i j h => wk_read_ne (by omega))
  have d3 : wk_read hi d s q nx 38 8 = nI d := by rw [wk_read_ne (by omega), hd]
  have a3 : wk_read hi d s q nx 38 6 = nI a := by rw [wk_read_ne (by omega), ha]
  have g34 : ∀ j, wk_read hi d s q nx 34 j = hi 34 j := fun j => wk_read_ne (by omega)
  refine dk_aload_n C dX6_makeStep_61 rfl rfl ?_
  refine dk_aload_n C dX6_makeStep_62 rfl rfl ?_
  refine dk_aload_n C dX6_makeStep_63 rfl rfl ?_
  refine ek_callV C mX6_63 (c_X6_passes _ _ _ _ _ hq3 rp hrp d s d3 (by omega) (by rw [g34]; exact hs) hs') rfl (by decide) rfl rfl (Nat.le_of_ble_eq_true rfl) (by decide) (by decide) (Nat.zero_le _) (Nat.zero_le _) dX6_makeStep_64 ?_
  refine dk_if_eq C 103 dX6_makeStep_67 (by decide) (fun c1 => ?_) (fun c1 => ?_)
  · exact leave _ (d + 1) (by omega) (by rw [d3, dpI_s]) ⟨rfl, _, _, rfl, Or.inl ⟨bP_0 (bI_n0 c1), rfl, rfl⟩⟩
  · have hps := bP_1 (bI_n1 c1)
    refine dk_aload_n C dX6_makeStep_70 rfl rfl ?_
    refine ek_getI C fX6_34 rfl (by decide) rfl dX6_makeStep_71 ?_
    refine dk_aload_n C dX6_makeStep_74 rfl rfl ?_
    refine ek_getI C fX6_67 rfl (by decide) rfl dX6_makeStep_75 ?_
    refine dk_iconst C (1) dX6_makeStep_78 rfl ?_
    refine dk_isub C dX6_makeStep_79 ?_
    rw [d3, hq3.1.1, nIm1 (by omega)]
    refine dk_icmp_ne C 91 dX6_makeStep_80 (by decide) (fun c2 => ?_) (fun c2 => ?_)
    · have hlt : d + 1 < ns := by
        have : d ≠ ns - 1 := fun e => c2 (by rw [e])
        omega
      obtain ⟨T9, g1, g2, g3, ⟨n9, g4, g5, g6⟩, g7⟩ := hop hlt
      have t9l : t9 < 38 := by unfold dk_T at T9; omega
      refine dk_aload_n C dX6_makeStep_91 rfl rfl ?_
      refine dk_aload_n C dX6_makeStep_92 rfl rfl ?_
      refine dk_aload_n C dX6_makeStep_93 rfl rfl ?_
      refine dk_aload_n C dX6_makeStep_94 rfl rfl ?_
      refine ek_getI C fX6_34 rfl (by decide) rfl dX6_makeStep_95 ?_
      refine dk_iconst C (1) dX6_makeStep_98 rfl ?_
      refine dk_iadd C dX6_makeStep_99 ?_
      rw [d3, nI_1]
      refine dk_callV C mX6_47 (c_X6_openSource _ _ _ _ _ T9 (d + 1) s9 n9 P srt f (by omega) (by rw [g34]; exact g1) g2 g3 (by rw [wk_read_ne (by omega)]; exact g4) g5 g7) rfl (by decide) rfl rfl (Nat.le_of_ble_eq_true rfl) ⟨by decide, by decide⟩ ⟨Nat.zero_le _, Nat.zero_le _⟩ dX6_makeStep_100 ?_
      rintro r h' ⟨rfl, h4, b1, b2, rfl⟩
      refine leave h4 (d + 2) (by omega) ?_ ⟨rfl, h4, _, rfl, Or.inr (Or.inr ⟨hps, hlt, rfl, b1, by rw [g6]; exact b2⟩)⟩
      rw [b1.cell (by decide), wk_open, dk_up_ne _ _ (Or.inl (by decide)), dk_up_ne _ _ (Or.inl (by decide)), dk_up_same, dpI_s]
    · have he : d + 1 = ns := by
        have : d = ns - 1 := (nI_eq (by omega) (by omega)).mp c2
        omega
      refine dk_aload_n C dX6_makeStep_83 rfl rfl ?_
      refine dk_aload_n C dX6_makeStep_84 rfl rfl ?_
      refine dk_callV C mX6_70 (c_X6_keepAnswer _ _ _ _ _ hq3 ho3 rp R hrp a a3 ha' (fun i h => by rw [wk_read_ne (by omega)]; exact hR i h)) rfl (by decide) rfl rfl (Nat.le_of_ble_eq_true rfl) ⟨by decide, by decide⟩ ⟨Nat.zero_le _, Nat.zero_le _⟩ dX6_makeStep_85 ?_
      rintro r h' ⟨rfl, k, b1, b2, b3, rfl⟩
      refine dk_goto C 103 dX6_makeStep_88 (by decide) ?_
      refine leave _ (d + 1) (by omega) ?_ ⟨rfl, _, _, rfl, Or.inr (Or.inl ⟨hps, he, rfl, k, b1, b2, b3, rfl⟩)⟩
      rw [ka_f, dk_up_ne _ _ (Or.inr (by decide)), dk_up_ne _ _ (Or.inl (by decide)), dk_cp_ne _ (by decide), ka_w_ne (by decide), d3, dpI_s]
/-- the first source opened, or left at once -/
def bg_Po (h0 : Nat → Nat → Int32) (hf : Nat → Nat → UInt32) (sr : Nat → Option Nat) (z : (Nat → Nat → Int64) × (Nat → Nat → UInt64)) (l : List Nat) : Option Value → dk_H → Prop := fun r' h' => r' = none ∧ ∃ h4, wk_F (wk_open (wk_clear h0) 0) h4 0 ∧ wk_L h4 0 l ∧ h' = (ms_end h4 1, hf, dk_RF sr, z)
theorem wk_clear_ne {hi : Nat → Nat → Int32} {i j : Nat} (h : i ≠ 38) : wk_clear hi i j = hi i j := by
  unfold wk_clear
  rw [dk_up_ne _ _ (Or.inl h), dk_up_ne _ _ (Or.inl h), dk_up_ne _ _ (Or.inl h)]
set_option maxHeartbeats 4000000 in
set_option maxRecDepth 100000 in
theorem c_X6_begin (G : dk_G) (sr : Nat → Option Nat) (hi : Nat → Nat → Int32) (hf : Nat → Nat → UInt32) (z : (Nat → Nat → Int64) × (Nat → Nat → UInt64)) {t : Nat} (T : dk_T t) (s n : Nat) (P : Nat → Bool) (srt : Bool) (f : Nat → Int32) (hs : hi 34 0 = nI s) (hs' : s < 3) (hst : sr s = some t) (hn : hi t 4 = nI n) (hn' : n ≤ 24) (hW : op_W (wk_clear hi) sr 0 s t P srt f) :
    dk_M G yX6_begin cX6_begin 3 none { frames := 4, cells := 0, slots := 0, locals := 98 } [.ref 38, .ref 14, .ref 30] 63 (hi, hf, dk_RF sr, z) 63 (bg_Po hi hf sr z (op_L P srt f n)) := by
  refine dk_met (L := [some (.ref 38), some (.ref 14), some (.ref 30)]) pnX6 rfl (Nat.le_of_ble_eq_true rfl) ?_
  intro X C E hNm
  have tl : t < 38 := by unfold dk_T at T; omega
  refine dk_aload_n C dX6_begin_0 rfl rfl ?_
  refine ek_callVv C mX6_44 (c_X6_clear _ _ _ _ _) rfl (by decide) rfl rfl (Nat.le_of_ble_eq_true rfl) (by decide) (by decide) (Nat.zero_le _) (Nat.zero_le _) dX6_begin_1 ?_
  refine dk_aload_n C dX6_begin_4 rfl rfl ?_
  refine dk_aload_n C dX6_begin_5 rfl rfl ?_
  refine dk_aload_n C dX6_begin_6 rfl rfl ?_
  refine dk_iconst C (0) dX6_begin_7 rfl ?_
  refine dk_callV C mX6_47 (c_X6_openSource _ _ (wk_clear hi) _ _ T 0 s n P srt f (by decide) (by rw [wk_clear_ne (by decide)]; exact hs) hs' hst (by rw [wk_clear_ne (by omega)]; exact hn) hn' hW) rfl (by decide) rfl rfl (Nat.le_of_ble_eq_true rfl) ⟨by decide, by decide⟩ ⟨Nat.zero_le _, Nat.zero_le _⟩ dX6_begin_8 ?_
  rintro r h' ⟨rfl, h4, b1, b2, rfl⟩
  refine dk_aload_n C dX6_begin_11 rfl rfl ?_
  refine ek_callVv C mX6_51 (c_X6_leaveFinishedSources _ _ _ _ _ 1 (by rw [b1.cell (by decide), wk_open, dk_up_ne _ _ (Or.inl (by decide)), dk_up_ne _ _ (Or.inl (by decide)), dk_up_same]; rfl) (by decide)) rfl (by decide) rfl rfl (Nat.le_of_ble_eq_true rfl) (by decide) (by decide) (Nat.zero_le _) (Nat.zero_le _) dX6_begin_12 ?_
  exact dk_vret C E dX6_begin_15 (Nat.zero_le _) (Nat.zero_le _) (⟨rfl, h4, b1, b2, rfl⟩)
