/-! ===== QueryDeskModel: passes, swapped, finish ===== -/
def aPC (q : aQ) (p : aP) (rp : Nat → Nat) (k i : Nat) : Prop := qs q i = po p k → cn_b (qo q i) (qV q (po p k) (qc q i) (rp (po p k))) (qx q i) = true
def aPJ (q : aQ) (p : aP) (rp : Nat → Nat) (k j : Nat) : Prop := qT q (bfo (po p) k) (po p k) j = true → qV q (qe q j 0) (qk q j 0) (rp (qe q j 0)) = qV q (qe q j 1) (qk q j 1) (rp (qe q j 1))
/-- whether the row read at level k passes -/
def aPS (q : aQ) (p : aP) (rp : Nat → Nat) (k nc nj : Nat) : Prop := (∀ i, i < nc → aPC q p rp k i) ∧ ∀ j, j < nj → aPJ q p rp k j
theorem qE_sym (q : aQ) (p : aP) (rp : Nat → Nat) (k j : Nat) : (qV q (qe q j (qE q (po p k) j)) (qk q j (qE q (po p k) j)) (rp (qe q j (qE q (po p k) j))) = qV q (qe q j (1 - qE q (po p k) j)) (qk q j (1 - qE q (po p k) j)) (rp (qe q j (1 - qE q (po p k) j)))) ↔ qV q (qe q j 0) (qk q j 0) (rp (qe q j 0)) = qV q (qe q j 1) (qk q j 1) (rp (qe q j 1)) := by
  have := qE_2 q (po p k) j
  rcases (show qE q (po p k) j = 0 ∨ qE q (po p k) j = 1 by omega) with h | h
  · rw [h]
  · rw [h]; exact ⟨fun h => h.symm, fun h => h.symm⟩
theorem bP_iff {a b : Prop} (h : a ↔ b) : bP a = bP b := by rw [propext h]
set_option maxHeartbeats 8000000 in
set_option maxRecDepth 100000 in
theorem c_X8_passes (G : dk_G) (sr : Nat → Option Nat) (hi : Nat → Nat → Int32) (hf : Nat → Nat → UInt32) (z : (Nat → Nat → Int64) × (Nat → Nat → UInt64)) {q : aQ} {p : aP} {ns nc nj no : Nat} {jt : Nat → Nat} {en : Nat → Nat → Nat} (hQ : mQ hi q ns nc nj no jt en) (hp : mPl hi p ns) (hW : aW q p ns nc nj) (rp : Nat → Nat) (k : Nat) (hk : k < ns) (hat : ∀ i, i ≤ k → mAt hi q p en rp i) :
    dk_MF G yX8_passes cX8_passes 8 (some .boolean) 2 46 [.ref 45, .int (nI k)] (hi, hf, dk_RF sr, z) (some (.int (bI (bP (aPS q p rp k nc nj))))) (hi, hf, dk_RF sr, z) := by
  refine dk_met (L := [some (.ref 45), some (.int (nI k)), none, none, none, none, none, none]) pnX8 rfl (Nat.le_of_ble_eq_true rfl) ?_
  intro X C E hNm
  have hQ0 := hQ
  have hG := hQ.G
  obtain ⟨⟨hn, hn3, h1⟩, h2, h3, ⟨h4, h5, h9⟩, ⟨h6, h7, h8⟩, -⟩ := hQ
  obtain ⟨w1, w2, w3⟩ := hW k hk
  obtain ⟨p1, p2, p3, p4⟩ := hp k hk
  obtain ⟨s1, s2, s3⟩ := h1 _ w1
  have hE := h2 _ w1
  obtain ⟨a1, a2⟩ := hat k (Nat.le_refl _)
  have a60 := hE.2.1 _ a2
  have loop3 : ∀ r j B, j + r = nj → bm B (bfo (po p) k) → dk_W X 145 [some (.ref 45), some (.int (nI k)), some (.int (nI (po p k))), some (.int (nI (jt (po p k)))), some (.int (bI (bP ((∀ i, i < nc → aPC q p rp k i) ∧ ∀ j', j' < j → aPJ q p rp k j')))), some (.int (nI B)), some (.int (nI j)), none] [] 63 (hi, hf, dk_RF sr, z) 0 0 := by
    intro r
    induction r with
    | zero =>
      intro j B hj hB
      obtain rfl : j = nj := by omega
      refine dk_iload C dX8_passes_145 rfl ?_
      refine dk_aload_n C dX8_passes_147 rfl rfl ?_
      refine ek_getI C fX8_102 rfl (by decide) rfl dX8_passes_148 ?_
      rw [h6]
      refine dk_icmp_ge C 224 dX8_passes_151 (by decide) (fun _ => ?_) (fun hz => absurd (Int32.le_refl _) hz)
      refine dk_iload C dX8_passes_224 rfl ?_
      exact dk_zret C E (nb (bI_or _)) dX8_passes_226 (Nat.zero_le _) (Nat.zero_le _) (⟨rfl, rfl⟩)
    | succ r ih =>
      intro j B hj hB
      obtain ⟨hne, hh⟩ := h8 j (by omega)
      have e2 := qE_2 q (po p k) j
      have next : ∀ a7 (b : Int32), b = bI (bP ((∀ i, i < nc → aPC q p rp k i) ∧ ∀ j', j' < j + 1 → aPJ q p rp k j')) → dk_W X 216 [some (.ref 45), some (.int (nI k)), some (.int (nI (po p k))), some (.int (nI (jt (po p k)))), some (.int (bI (bP ((∀ i, i < nc → aPC q p rp k i) ∧ ∀ j', j' < j → aPJ q p rp k j')))), some (.int (nI B)), some (.int (nI j)), a7] [.int b] 63 (hi, hf, dk_RF sr, z) 0 0 := by
        intro a7 b hb
        subst hb
        refine dk_istore C dX8_passes_216 (by decide) rfl ?_
        refine dk_iinc C (nI (j + 1)) dX8_passes_218 rfl (nI_1 j) (by decide) rfl ?_
        refine dk_goto C 145 dX8_passes_221 (by decide) ?_
        refine dk_forgetAt 7 ?_
        exact ih (j + 1) B (by omega) hB
      have no : ∀ a7, ¬ ((∀ i, i < nc → aPC q p rp k i) ∧ ∀ j', j' < j + 1 → aPJ q p rp k j') → dk_W X 215 [some (.ref 45), some (.int (nI k)), some (.int (nI (po p k))), some (.int (nI (jt (po p k)))), some (.int (bI (bP ((∀ i, i < nc → aPC q p rp k i) ∧ ∀ j', j' < j → aPJ q p rp k j')))), some (.int (nI B)), some (.int (nI j)), a7] [] 63 (hi, hf, dk_RF sr, z) 0 0 := by
        intro a7 hb
        refine dk_iconst C (0) dX8_passes_215 rfl ?_
        exact next a7 0 (bI_f (bP_f hb))
      have yes : ∀ a7, ((∀ i, i < nc → aPC q p rp k i) ∧ ∀ j', j' < j + 1 → aPJ q p rp k j') → dk_W X 211 [some (.ref 45), some (.int (nI k)), some (.int (nI (po p k))), some (.int (nI (jt (po p k)))), some (.int (bI (bP ((∀ i, i < nc → aPC q p rp k i) ∧ ∀ j', j' < j → aPJ q p rp k j')))), some (.int (nI B)), some (.int (nI j)), a7] [] 63 (hi, hf, dk_RF sr, z) 0 0 := by
        intro a7 hb
        refine dk_iconst C (1) dX8_passes_211 rfl ?_
        refine dk_goto C 216 dX8_passes_212 (by decide) ?_
        exact next a7 1 (bI_t (bP_t hb))
      refine dk_iload C dX8_passes_145 rfl ?_
      refine dk_aload_n C dX8_passes_147 rfl rfl ?_
      refine ek_getI C fX8_102 rfl (by decide) rfl dX8_passes_148 ?_
      rw [h6]
      refine dk_icmp_ge C 224 dX8_passes_151 (by decide) (fun hz => absurd hz (nI_ge (by omega) (by omega))) (fun _ => ?_)
      refine dk_aload_n C dX8_passes_154 rfl rfl ?_
      refine dk_iload C dX8_passes_155 rfl ?_
      refine dk_iload_n C dX8_passes_157 rfl rfl ?_
      refine dk_iload C dX8_passes_158 rfl ?_
      refine ek_callV C mX8_144 (c_X8_sideOf _ _ _ _ _ hG j (po p k) B _ (by omega) (by omega) hB) rfl (by decide) rfl rfl (Nat.le_of_ble_eq_true rfl) (by decide) (by decide) (Nat.zero_le _) (Nat.zero_le _) dX8_passes_160 ?_
      refine dk_istore C dX8_passes_163 (by decide) rfl ?_
      refine dk_iload C dX8_passes_165 rfl ?_
      refine dk_if_eq C 215 dX8_passes_167 (by decide) (fun c1 => ?_) (fun c1 => ?_)
      · exact no _ (fun w => bP_0 (bI_n0 c1) ⟨w.1, fun j' hj' => w.2 j' (by omega)⟩)
      · have hpre := bP_1 (bI_n1 c1)
        have hsucc : aPJ q p rp k j → ((∀ i, i < nc → aPC q p rp k i) ∧ ∀ j', j' < j + 1 → aPJ q p rp k j') := fun w => ⟨hpre.1, fun j' hj' => by
          rcases Nat.lt_or_eq_of_le (Nat.le_of_lt_succ hj') with y | y
          · exact hpre.2 j' y
          · rw [y]; exact w⟩
        refine dk_iload C dX8_passes_170 rfl ?_
        refine dk_if_lt C 211 dX8_passes_172 (by decide) (fun c2 => ?_) (fun c2 => ?_)
        · have ht : ¬ qT q (bfo (po p) k) (po p k) j = true := fun w => by
            rw [gSd, if_pos (show gT (gq hi q jt en) (bfo (po p) k) (po p k) j = true from w)] at c2
            exact nI_pos (by have := gE_2 (gq hi q jt en) (po p k) j; omega) c2
          exact yes _ (hsucc (fun w => absurd w ht))
        · have ht : qT q (bfo (po p) k) (po p k) j = true := Classical.byContradiction fun w => c2 (by rw [gSd, if_neg (show ¬ gT (gq hi q jt en) (bfo (po p) k) (po p k) j = true from w)]; decide)
          have esd : gSd (gq hi q jt en) (bfo (po p) k) (po p k) j = nI (2 * qE q (po p k) j) := by
            rw [gSd, if_pos (show gT (gq hi q jt en) (bfo (po p) k) (po p k) j = true from ht)]; rfl
          obtain ⟨t1, t2⟩ := qT_e ht
          obtain ⟨⟨b1, b2⟩, b3, b4⟩ := hh _ e2
          obtain ⟨i0, i1, i2⟩ : ∃ i0, i0 < k ∧ po p i0 = qe q j (1 - qE q (po p k) j) := by
            rw [bfo, List.any_eq_true] at t2
            obtain ⟨i0, y1, y2⟩ := t2
            exact ⟨i0, List.mem_range.mp y1, of_decide_eq_true y2⟩
          rw [esd]
          refine dk_aload_n C dX8_passes_175 rfl rfl ?_
          refine dk_iload_n C dX8_passes_176 rfl rfl ?_
          refine dk_aload_n C dX8_passes_177 rfl rfl ?_
          refine ek_getR C fX8_50 rfl (by decide) rfl 59 rfl dX8_passes_178 ?_
          refine dk_iload_n C dX8_passes_181 rfl rfl ?_
          refine ek_iald C rfl (by decide) (k) (rfl) (by omega) (by decide) dX8_passes_182 ?_
          rw [a1]
          refine dk_aload_n C dX8_passes_183 rfl rfl ?_
          refine ek_getR C fX8_32 rfl (by decide) rfl 53 rfl dX8_passes_184 ?_
          refine dk_iconst C (4) dX8_passes_187 rfl ?_
          refine dk_iload C dX8_passes_188 rfl ?_
          refine dk_imul C dX8_passes_190 ?_
          refine dk_iload C dX8_passes_191 rfl ?_
          refine dk_iadd C dX8_passes_193 ?_
          refine dk_iconst C (1) dX8_passes_194 rfl ?_
          refine dk_iadd C dX8_passes_195 ?_
          refine ek_iald C rfl (by decide) (4 * j + 2 * qE q (po p k) j + 1) (by rw [m4_k]; exact nI_1 _) (by omega) (by decide) dX8_passes_196 ?_
          rw [b4]
          refine ek_callV C mX8_88 (c_X8_get _ _ _ _ _ (jt (po p k)) _ (qk q j (qE q (po p k) j)) s2 a60 b2) rfl (by decide) rfl rfl (Nat.le_of_ble_eq_true rfl) (by decide) (by decide) (Nat.zero_le _) (Nat.zero_le _) dX8_passes_197 ?_
          rw [h3 _ _ _ w1 b2 a2]
          refine dk_aload_n C dX8_passes_200 rfl rfl ?_
          refine dk_iload C dX8_passes_201 rfl ?_
          refine dk_iload C dX8_passes_203 rfl ?_
          refine ek_callV C mX8_169 (c_X8_wanted _ _ _ _ _ hQ0 hp hW rp j _ i0 (by omega) e2 (by omega) i2.symm (hat i0 (by omega))) rfl (by decide) rfl rfl (Nat.le_of_ble_eq_true rfl) (by decide) (by decide) (Nat.zero_le _) (Nat.zero_le _) dX8_passes_205 ?_
          have key : aPJ q p rp k j ↔ qV q (po p k) (qk q j (qE q (po p k) j)) (rp (po p k)) = qV q (qe q j (1 - qE q (po p k) j)) (qk q j (1 - qE q (po p k) j)) (rp (qe q j (1 - qE q (po p k) j))) := by
            have hs := qE_sym q p rp k j
            rw [t1] at hs
            exact ⟨fun w => hs.mpr (w ht), fun w _ => hs.mp w⟩
          refine dk_icmp_ne C 215 dX8_passes_208 (by decide) (fun c3 => ?_) (fun c3 => ?_)
          · exact no _ (fun w => c3 (key.mp (w.2 j (by omega))))
          · exact yes _ (hsucc (key.mpr c3))
  have loop2 : ∀ r i B, i + r = k → bm B (bfo (po p) i) → dk_W X 116 [some (.ref 45), some (.int (nI k)), some (.int (nI (po p k))), some (.int (nI (jt (po p k)))), some (.int (bI (bP (∀ i, i < nc → aPC q p rp k i)))), some (.int (nI B)), some (.int (nI i)), none] [] 63 (hi, hf, dk_RF sr, z) 0 0 := by
    intro r
    induction r with
    | zero =>
      intro i B hi' hB
      obtain rfl : i = k := by omega
      refine dk_iload C dX8_passes_116 rfl ?_
      refine dk_iload_n C dX8_passes_118 rfl rfl ?_
      refine dk_icmp_ge C 142 dX8_passes_119 (by decide) (fun _ => ?_) (fun hz => absurd (Int32.le_refl _) hz)
      refine dk_iconst C (0) dX8_passes_142 rfl ?_
      refine dk_istore C dX8_passes_143 (by decide) rfl ?_
      rw [bP_iff (show (∀ i', i' < nc → aPC q p rp i i') ↔ ((∀ i', i' < nc → aPC q p rp i i') ∧ ∀ j', j' < 0 → aPJ q p rp i j') from ⟨fun w => ⟨w, fun j' hj' => by omega⟩, fun w => w.1⟩)]
      exact loop3 nj 0 B (by omega) hB
    | succ r ih =>
      intro i B hi' hB
      have hpi := hp i (by omega)
      have hlt := (hW i (by omega)).1
      obtain ⟨b1, b2, b3⟩ := bm_or B hB.1 (po p i) (by omega)
      refine dk_iload C dX8_passes_116 rfl ?_
      refine dk_iload_n C dX8_passes_118 rfl rfl ?_
      refine dk_icmp_ge C 142 dX8_passes_119 (by decide) (fun hz => absurd hz (nI_ge (by omega) (by omega))) (fun _ => ?_)
      refine dk_iload C dX8_passes_122 rfl ?_
      refine dk_iconst C (1) dX8_passes_124 rfl ?_
      refine dk_aload_n C dX8_passes_125 rfl rfl ?_
      refine ek_getR C fX8_38 rfl (by decide) rfl 55 rfl dX8_passes_126 ?_
      refine dk_iload C dX8_passes_129 rfl ?_
      refine ek_iald C rfl (by decide) (i) (rfl) (by omega) (by decide) dX8_passes_131 ?_
      rw [hpi.1]
      refine dk_ishl C dX8_passes_132 ?_
      refine dk_ior C dX8_passes_133 ?_
      rw [b1]
      refine dk_istore C dX8_passes_134 (by decide) rfl ?_
      refine dk_iinc C (nI (i + 1)) dX8_passes_136 rfl (nI_1 i) (by decide) rfl ?_
      refine dk_goto C 116 dX8_passes_139 (by decide) ?_
      refine ih (i + 1) _ (by omega) ⟨b2, fun x hx => ?_⟩
      rw [b3 x hx, hB.2 x hx, bfo, bfo, List.range_succ, List.any_append]
      simp [eq_comm]
  have loop1 : ∀ r i, i + r = nc → dk_W X 20 [some (.ref 45), some (.int (nI k)), some (.int (nI (po p k))), some (.int (nI (jt (po p k)))), some (.int (bI (bP (∀ i', i' < i → aPC q p rp k i')))), some (.int (nI i)), none, none] [] 63 (hi, hf, dk_RF sr, z) 0 0 := by
    intro r
    induction r with
    | zero =>
      intro i hi'
      obtain rfl : i = nc := by omega
      refine dk_iload C dX8_passes_20 rfl ?_
      refine dk_aload_n C dX8_passes_22 rfl rfl ?_
      refine ek_getI C fX8_99 rfl (by decide) rfl dX8_passes_23 ?_
      rw [h4]
      refine dk_icmp_ge C 110 dX8_passes_26 (by decide) (fun _ => ?_) (fun hz => absurd (Int32.le_refl _) hz)
      refine dk_iconst C (0) dX8_passes_110 rfl ?_
      refine dk_istore C dX8_passes_111 (by decide) rfl ?_
      refine dk_iconst C (0) dX8_passes_113 rfl ?_
      refine dk_istore C dX8_passes_114 (by decide) rfl ?_
      exact loop2 k 0 0 (by omega) ⟨by decide, fun x hx => by rw [bfo]; simp⟩
    | succ r ih =>
      intro i hi'
      obtain ⟨⟨r1, r2, r3⟩, r4, r5, r6, r7⟩ := h9 i (by omega)
      have no : ¬ (∀ i', i' < i + 1 → aPC q p rp k i') → dk_W X 101 [some (.ref 45), some (.int (nI k)), some (.int (nI (po p k))), some (.int (nI (jt (po p k)))), some (.int (bI (bP (∀ i', i' < i → aPC q p rp k i')))), some (.int (nI i)), none, none] [] 63 (hi, hf, dk_RF sr, z) 0 0 := by
        intro hb
        refine dk_iconst C (0) dX8_passes_101 rfl ?_
        refine dk_istore C dX8_passes_102 (by decide) rfl ?_
        refine dk_iinc C (nI (i + 1)) dX8_passes_104 rfl (nI_1 i) (by decide) rfl ?_
        refine dk_goto C 20 dX8_passes_107 (by decide) ?_
        rw [show (0 : Int32) = bI (bP (∀ i', i' < i + 1 → aPC q p rp k i')) from bI_f (bP_f hb)]
        exact ih (i + 1) (by omega)
      have yes : (∀ i', i' < i + 1 → aPC q p rp k i') → dk_W X 97 [some (.ref 45), some (.int (nI k)), some (.int (nI (po p k))), some (.int (nI (jt (po p k)))), some (.int (bI (bP (∀ i', i' < i → aPC q p rp k i')))), some (.int (nI i)), none, none] [] 63 (hi, hf, dk_RF sr, z) 0 0 := by
        intro hb
        refine dk_iconst C (1) dX8_passes_97 rfl ?_
        refine dk_goto C 102 dX8_passes_98 (by decide) ?_
        refine dk_istore C dX8_passes_102 (by decide) rfl ?_
        refine dk_iinc C (nI (i + 1)) dX8_passes_104 rfl (nI_1 i) (by decide) rfl ?_
        refine dk_goto C 20 dX8_passes_107 (by decide) ?_
        rw [show (1 : Int32) = bI (bP (∀ i', i' < i + 1 → aPC q p rp k i')) from bI_t (bP_t hb)]
        exact ih (i + 1) (by omega)
      refine dk_iload C dX8_passes_20 rfl ?_
      refine dk_aload_n C dX8_passes_22 rfl rfl ?_
      refine ek_getI C fX8_99 rfl (by decide) rfl dX8_passes_23 ?_
      rw [h4]
      refine dk_icmp_ge C 110 dX8_passes_26 (by decide) (fun hz => absurd hz (nI_ge (by omega) (by omega))) (fun _ => ?_)
      refine dk_iload C dX8_passes_29 rfl ?_
      refine dk_if_eq C 101 dX8_passes_31 (by decide) (fun c1 => ?_) (fun c1 => ?_)
      · exact no (fun w => bP_0 (bI_n0 c1) (fun i' h' => w i' (by omega)))
      · have hpre := bP_1 (bI_n1 c1)
        have hsucc : aPC q p rp k i → ∀ i', i' < i + 1 → aPC q p rp k i' := fun w i' h' => by
          rcases Nat.lt_or_eq_of_le (Nat.le_of_lt_succ h') with y | y
          · exact hpre i' y
          · rw [y]; exact w
        refine dk_aload_n C dX8_passes_34 rfl rfl ?_
        refine ek_getR C fX8_29 rfl (by decide) rfl 52 rfl dX8_passes_35 ?_
        refine dk_iconst C (4) dX8_passes_38 rfl ?_
        refine dk_iload C dX8_passes_39 rfl ?_
        refine dk_imul C dX8_passes_41 ?_
        refine ek_iald C rfl (by decide) (4 * i) (m4_0 i) (by omega) (by decide) dX8_passes_42 ?_
        refine dk_iload_n C dX8_passes_43 rfl rfl ?_
        rw [r4]
        refine dk_icmp_ne C 97 dX8_passes_44 (by decide) (fun c2 => ?_) (fun c2 => ?_)
        · exact yes (hsucc (fun w => absurd (by rw [w]) c2))
        · have hs : qs q i = po p k := (nI_eq (by omega) (by omega)).mp c2
          refine dk_aload_n C dX8_passes_47 rfl rfl ?_
          refine dk_iload_n C dX8_passes_48 rfl rfl ?_
          refine dk_aload_n C dX8_passes_49 rfl rfl ?_
          refine ek_getR C fX8_50 rfl (by decide) rfl 59 rfl dX8_passes_50 ?_
          refine dk_iload_n C dX8_passes_53 rfl rfl ?_
          refine ek_iald C rfl (by decide) (k) (rfl) (by omega) (by decide) dX8_passes_54 ?_
          rw [a1]
          refine dk_aload_n C dX8_passes_55 rfl rfl ?_
          refine ek_getR C fX8_29 rfl (by decide) rfl 52 rfl dX8_passes_56 ?_
          refine dk_iconst C (4) dX8_passes_59 rfl ?_
          refine dk_iload C dX8_passes_60 rfl ?_
          refine dk_imul C dX8_passes_62 ?_
          refine dk_iconst C (1) dX8_passes_63 rfl ?_
          refine dk_iadd C dX8_passes_64 ?_
          refine ek_iald C rfl (by decide) (4 * i + 1) (m4_k i 1) (by omega) (by decide) dX8_passes_65 ?_
          rw [r5]
          refine ek_callV C mX8_88 (c_X8_get _ _ _ _ _ (jt (po p k)) _ (qc q i) s2 a60 r2) rfl (by decide) rfl rfl (Nat.le_of_ble_eq_true rfl) (by decide) (by decide) (Nat.zero_le _) (Nat.zero_le _) dX8_passes_66 ?_
          rw [h3 _ _ _ w1 r2 a2]
          refine dk_aload_n C dX8_passes_69 rfl rfl ?_
          refine ek_getR C fX8_29 rfl (by decide) rfl 52 rfl dX8_passes_70 ?_
          refine dk_iconst C (4) dX8_passes_73 rfl ?_
          refine dk_iload C dX8_passes_74 rfl ?_
          refine dk_imul C dX8_passes_76 ?_
          refine dk_iconst C (2) dX8_passes_77 rfl ?_
          refine dk_iadd C dX8_passes_78 ?_
          refine ek_iald C rfl (by decide) (4 * i + 2) (m4_k i 2) (by omega) (by decide) dX8_passes_79 ?_
          rw [r6]
          refine dk_aload_n C dX8_passes_80 rfl rfl ?_
          refine ek_getR C fX8_29 rfl (by decide) rfl 52 rfl dX8_passes_81 ?_
          refine dk_iconst C (4) dX8_passes_84 rfl ?_
          refine dk_iload C dX8_passes_85 rfl ?_
          refine dk_imul C dX8_passes_87 ?_
          refine dk_iconst C (3) dX8_passes_88 rfl ?_
          refine dk_iadd C dX8_passes_89 ?_
          refine ek_iald C rfl (by decide) (4 * i + 3) (m4_k i 3) (by omega) (by decide) dX8_passes_90 ?_
          rw [r7]
          refine ek_callS C mX8_172 (c_X8_holds _ _ _ _ _ _ (qx q i) (qo q i) r3) rfl rfl (Nat.le_of_ble_eq_true rfl) (by decide) (by decide) (Nat.zero_le _) (Nat.zero_le _) dX8_passes_91 ?_
          refine dk_if_eq C 101 dX8_passes_94 (by decide) (fun c3 => ?_) (fun c3 => ?_)
          · exact no (fun w => by
              have := w i (by omega) hs
              rw [bI_n0 c3] at this
              exact absurd this (by decide))
          · exact yes (hsucc (fun _ => bI_n1 c3))
  refine dk_aload_n C dX8_passes_0 rfl rfl ?_
  refine ek_getR C fX8_38 rfl (by decide) rfl 55 rfl dX8_passes_1 ?_
  refine dk_iload_n C dX8_passes_4 rfl rfl ?_
  refine ek_iald C rfl (by decide) (k) (rfl) (by omega) (by decide) dX8_passes_5 ?_
  rw [p1]
  refine dk_istore_n C dX8_passes_6 rfl (by decide) rfl ?_
  refine dk_aload_n C dX8_passes_7 rfl rfl ?_
  refine ek_getR C fX8_26 rfl (by decide) rfl 51 rfl dX8_passes_8 ?_
  refine dk_iload_n C dX8_passes_11 rfl rfl ?_
  refine ek_iald C rfl (by decide) (po p k) (rfl) (by omega) (by decide) dX8_passes_12 ?_
  rw [s1]
  refine dk_istore_n C dX8_passes_13 rfl (by decide) rfl ?_
  refine dk_iconst C (1) dX8_passes_14 rfl ?_
  refine dk_istore C dX8_passes_15 (by decide) rfl ?_
  refine dk_iconst C (0) dX8_passes_17 rfl ?_
  refine dk_istore C dX8_passes_18 (by decide) rfl ?_
  rw [show (1 : Int32) = bI (bP (∀ i', i' < 0 → aPC q p rp k i')) from bI_t (bP_t (fun i' h' => by omega))]
  exact loop1 nc 0 (by omega)
/-- two answers change their places, but for the columns from c on -/
def swc (hi : Nat → Nat → Int32) (k c : Nat) : Nat → Nat → Int32 := fun i j => if i = 60 ∧ 4 * k ≤ j ∧ j < 4 * k + c then hi 60 (j + 4) else if i = 60 ∧ 4 * k + 4 ≤ j ∧ j < 4 * k + 4 + c then hi 60 (j - 4) else hi i j
theorem swc_0 (hi : Nat → Nat → Int32) (k : Nat) : swc hi k 0 = hi := by
  funext i j
  unfold swc
  rw [if_neg (by omega), if_neg (by omega)]
theorem swc_s (hi : Nat → Nat → Int32) (k c : Nat) (hc : c < 4) : dk_up (dk_up (swc hi k c) 60 (4 * k + c) (swc hi k c 60 (4 * k + 4 + c))) 60 (4 * k + 4 + c) (swc hi k c 60 (4 * k + c)) = swc hi k (c + 1) := by
  have e1 : swc hi k c 60 (4 * k + 4 + c) = hi 60 (4 * k + 4 + c) := by unfold swc; rw [if_neg (by omega), if_neg (by omega)]
  have e2 : swc hi k c 60 (4 * k + c) = hi 60 (4 * k + c) := by unfold swc; rw [if_neg (by omega), if_neg (by omega)]
  rw [e1, e2]
  funext i j
  unfold dk_up
  by_cases h1 : i = 60 ∧ j = 4 * k + 4 + c
  · rw [if_pos h1]
    unfold swc
    rw [if_neg (by omega), if_pos (by omega), h1.2]
    congr 1
    omega
  · rw [if_neg h1]
    by_cases h2 : i = 60 ∧ j = 4 * k + c
    · rw [if_pos h2]
      unfold swc
      rw [if_pos (by omega), h2.2]
      congr 1
      omega
    · rw [if_neg h2]
      unfold swc
      by_cases h3 : i = 60 ∧ 4 * k ≤ j ∧ j < 4 * k + c
      · rw [if_pos h3, if_pos (by omega)]
      · rw [if_neg h3]
        by_cases h4 : i = 60 ∧ 4 * k + 4 ≤ j ∧ j < 4 * k + 4 + c
        · rw [if_pos h4, if_neg (by omega), if_pos (by omega)]
        · rw [if_neg h4, if_neg (by omega), if_neg (by omega)]
theorem m44 (k c : Nat) : (4 : Int32) * nI k + 4 + nI c = nI (4 * k + 4 + c) := by rw [m4_0, show (4 : Int32) = nI 4 from rfl, nI_add, nI_add]
def sw_b (hi : Nat → Nat → Int32) (k o : Nat) : Bool := wk_b (hi 45 16) (hi 60 (4 * k + 4 + o)) (hi 60 (4 * k + o))
set_option maxHeartbeats 4000000 in
set_option maxRecDepth 100000 in
theorem c_X8_swapped (G : dk_G) (sr : Nat → Option Nat) (hi : Nat → Nat → Int32) (hf : Nat → Nat → UInt32) (z : (Nat → Nat → Int64) × (Nat → Nat → UInt64)) (k o : Nat) (ho : hi 45 15 = nI o) (ho4 : o < 4) (hk : k < 63) :
    dk_MF G yX8_swapped cX8_swapped 6 (some .boolean) 0 0 [.ref 45, .int (nI k)] (hi, hf, dk_RF sr, z) (some (.int (bI (sw_b hi k o)))) (if sw_b hi k o = true then swc hi k 4 else hi, hf, dk_RF sr, z) := by
  refine dk_met (L := [some (.ref 45), some (.int (nI k)), none, none, none, none]) pnX8 rfl (Nat.le_of_ble_eq_true rfl) ?_
  intro X C E hNm
  have no : sw_b hi k o = false → dk_W X 50 [some (.ref 45), some (.int (nI k)), some (.int (hi 60 (4 * k + o))), some (.int (hi 60 (4 * k + 4 + o))), none, none] [] 63 (hi, hf, dk_RF sr, z) 0 0 := by
    intro e
    refine dk_iconst C (0) dX8_swapped_50 rfl ?_
    exact dk_zret C E rfl dX8_swapped_51 (Nat.zero_le _) (Nat.zero_le _) (⟨pI (bI_f e), by rw [e]; rfl⟩)
  have yes : sw_b hi k o = true → dk_W X 52 [some (.ref 45), some (.int (nI k)), some (.int (hi 60 (4 * k + o))), some (.int (hi 60 (4 * k + 4 + o))), none, none] [] 63 (hi, hf, dk_RF sr, z) 0 0 := by
    intro e
    rw [e] at E
    have loop : ∀ r c, c + r = 4 → dk_W X 55 [some (.ref 45), some (.int (nI k)), some (.int (hi 60 (4 * k + o))), some (.int (hi 60 (4 * k + 4 + o))), some (.int (nI c)), none] [] 63 (swc hi k c, hf, dk_RF sr, z) 0 0 := by
      intro r
      induction r with
      | zero =>
        intro c hc
        obtain rfl : c = 4 := by omega
        refine dk_iload C dX8_swapped_55 rfl ?_
        refine dk_iconst C (4) dX8_swapped_57 rfl ?_
        refine dk_icmp_ge C 119 dX8_swapped_58 (by decide) (fun _ => ?_) (fun hz => absurd (by decide) hz)
        refine dk_iconst C (1) dX8_swapped_119 rfl ?_
        exact dk_zret C E rfl dX8_swapped_120 (Nat.zero_le _) (Nat.zero_le _) (⟨rfl, by rw [if_pos rfl]⟩)
      | succ r ih =>
        intro c hc
        refine dk_iload C dX8_swapped_55 rfl ?_
        refine dk_iconst C (4) dX8_swapped_57 rfl ?_
        refine dk_icmp_ge C 119 dX8_swapped_58 (by decide) (fun hz => absurd hz (nI_ge (b := 4) (by omega) (by omega))) (fun _ => ?_)
        refine dk_aload_n C dX8_swapped_61 rfl rfl ?_
        refine ek_getR C fX8_53 rfl (by decide) rfl 60 rfl dX8_swapped_62 ?_
        refine dk_iconst C (4) dX8_swapped_65 rfl ?_
        refine dk_iload_n C dX8_swapped_66 rfl rfl ?_
        refine dk_imul C dX8_swapped_67 ?_
        refine dk_iload C dX8_swapped_68 rfl ?_
        refine dk_iadd C dX8_swapped_70 ?_
        refine ek_iald C rfl (by decide) (4 * k + c) (m4_k k c) (by omega) (by decide) dX8_swapped_71 ?_
        refine dk_istore C dX8_swapped_72 (by decide) rfl ?_
        refine dk_aload_n C dX8_swapped_74 rfl rfl ?_
        refine ek_getR C fX8_53 rfl (by decide) rfl 60 rfl dX8_swapped_75 ?_
        refine dk_iconst C (4) dX8_swapped_78 rfl ?_
        refine dk_iload_n C dX8_swapped_79 rfl rfl ?_
        refine dk_imul C dX8_swapped_80 ?_
        refine dk_iload C dX8_swapped_81 rfl ?_
        refine dk_iadd C dX8_swapped_83 ?_
        refine dk_aload_n C dX8_swapped_84 rfl rfl ?_
        refine ek_getR C fX8_53 rfl (by decide) rfl 60 rfl dX8_swapped_85 ?_
        refine dk_iconst C (4) dX8_swapped_88 rfl ?_
        refine dk_iload_n C dX8_swapped_89 rfl rfl ?_
        refine dk_imul C dX8_swapped_90 ?_
        refine dk_iconst C (4) dX8_swapped_91 rfl ?_
        refine dk_iadd C dX8_swapped_92 ?_
        refine dk_iload C dX8_swapped_93 rfl ?_
        refine dk_iadd C dX8_swapped_95 ?_
        refine ek_iald C rfl (by decide) (4 * k + 4 + c) (m44 k c) (by omega) (by decide) dX8_swapped_96 ?_
        refine ek_iast C rfl (by decide) (4 * k + c) (m4_k k c) (by omega) (by decide) dX8_swapped_97 ?_
        refine dk_aload_n C dX8_swapped_98 rfl rfl ?_
        refine ek_getR C fX8_53 rfl (by decide) rfl 60 rfl dX8_swapped_99 ?_
        refine dk_iconst C (4) dX8_swapped_102 rfl ?_
        refine dk_iload_n C dX8_swapped_103 rfl rfl ?_
        refine dk_imul C dX8_swapped_104 ?_
        refine dk_iconst C (4) dX8_swapped_105 rfl ?_
        refine dk_iadd C dX8_swapped_106 ?_
        refine dk_iload C dX8_swapped_107 rfl ?_
        refine dk_iadd C dX8_swapped_109 ?_
        refine dk_iload C dX8_swapped_110 rfl ?_
        refine ek_iast C rfl (by decide) (4 * k + 4 + c) (m44 k c) (by omega) (by decide) dX8_swapped_112 ?_
        refine dk_iinc C (nI (c + 1)) dX8_swapped_113 rfl (nI_1 c) (by decide) rfl ?_
        refine dk_goto C 55 dX8_swapped_116 (by decide) ?_
        rw [swc_s hi k c (by omega)]
        refine dk_forgetAt 5 ?_
        exact ih (c + 1) (by omega)
    refine dk_iconst C (0) dX8_swapped_52 rfl ?_
    refine dk_istore C dX8_swapped_53 (by decide) rfl ?_
    have hh := loop 4 0 (by omega)
    rw [swc_0] at hh
    exact hh
  refine dk_aload_n C dX8_swapped_0 rfl rfl ?_
  refine ek_getR C fX8_53 rfl (by decide) rfl 60 rfl dX8_swapped_1 ?_
  refine dk_iconst C (4) dX8_swapped_4 rfl ?_
  refine dk_iload_n C dX8_swapped_5 rfl rfl ?_
  refine dk_imul C dX8_swapped_6 ?_
  refine dk_aload_n C dX8_swapped_7 rfl rfl ?_
  refine ek_getI C fX8_108 rfl (by decide) rfl dX8_swapped_8 ?_
  refine dk_iadd C dX8_swapped_11 ?_
  rw [ho]
  refine ek_iald C rfl (by decide) (4 * k + o) (m4_k k o) (by omega) (by decide) dX8_swapped_12 ?_
  refine dk_istore_n C dX8_swapped_13 rfl (by decide) rfl ?_
  refine dk_aload_n C dX8_swapped_14 rfl rfl ?_
  refine ek_getR C fX8_53 rfl (by decide) rfl 60 rfl dX8_swapped_15 ?_
  refine dk_iconst C (4) dX8_swapped_18 rfl ?_
  refine dk_iload_n C dX8_swapped_19 rfl rfl ?_
  refine dk_imul C dX8_swapped_20 ?_
  refine dk_iconst C (4) dX8_swapped_21 rfl ?_
  refine dk_iadd C dX8_swapped_22 ?_
  refine dk_aload_n C dX8_swapped_23 rfl rfl ?_
  refine ek_getI C fX8_108 rfl (by decide) rfl dX8_swapped_24 ?_
  refine dk_iadd C dX8_swapped_27 ?_
  rw [ho]
  refine ek_iald C rfl (by decide) (4 * k + 4 + o) (m44 k o) (by omega) (by decide) dX8_swapped_28 ?_
  refine dk_istore_n C dX8_swapped_29 rfl (by decide) rfl ?_
  refine dk_aload_n C dX8_swapped_30 rfl rfl ?_
  refine ek_getI C fX8_111 rfl (by decide) rfl dX8_swapped_31 ?_
  refine dk_if_eq C 45 dX8_swapped_34 (by decide) (fun c1 => ?_) (fun c1 => ?_)
  · refine dk_iload_n C dX8_swapped_45 rfl rfl ?_
    refine dk_iload_n C dX8_swapped_46 rfl rfl ?_
    refine dk_icmp_gt C 52 dX8_swapped_47 (by decide) (fun c2 => ?_) (fun c2 => ?_)
    · exact yes (by rw [sw_b, wk_b, if_pos c1]; exact decide_eq_true c2)
    · exact no (by rw [sw_b, wk_b, if_pos c1]; exact decide_eq_false c2)
  · refine dk_iload_n C dX8_swapped_37 rfl rfl ?_
    refine dk_iload_n C dX8_swapped_38 rfl rfl ?_
    refine dk_icmp_lt C 52 dX8_swapped_39 (by decide) (fun c2 => ?_) (fun c2 => ?_)
    · exact yes (by rw [sw_b, wk_b, if_neg c1]; exact decide_eq_true c2)
    · refine dk_goto C 50 dX8_swapped_42 (by decide) ?_
      exact no (by rw [sw_b, wk_b, if_neg c1]; exact decide_eq_false c2)
