/-! ===== QueryDesk$Work: the leaves ===== -/
def wk_clear (hi : Nat → Nat → Int32) : Nat → Nat → Int32 := dk_up (dk_up (dk_up hi 38 6 0) 38 7 0) 38 8 (-1)
set_option maxHeartbeats 4000000 in
set_option maxRecDepth 100000 in
theorem c_X6_clear (G : dk_G) (sr : Nat → Option Nat) (hi : Nat → Nat → Int32) (hf : Nat → Nat → UInt32) (z : (Nat → Nat → Int64) × (Nat → Nat → UInt64))  :
    dk_MF G yX6_clear cX6_clear 1 none 0 0 [.ref 38] (hi, hf, dk_RF sr, z) (none) (wk_clear hi, hf, dk_RF sr, z) := by
  refine dk_met (L := [some (.ref 38)]) pnX6 rfl (Nat.le_of_ble_eq_true rfl) ?_
  intro X C E hNm
  refine dk_aload_n C dX6_clear_0 rfl rfl ?_
  refine dk_iconst C (0) dX6_clear_1 rfl ?_
  refine ek_putI C fX6_38 fwX6_6 rfl (by decide) rfl dX6_clear_2 ?_
  refine dk_aload_n C dX6_clear_5 rfl rfl ?_
  refine dk_iconst C (0) dX6_clear_6 rfl ?_
  refine ek_putI C fX6_41 fwX6_7 rfl (by decide) rfl dX6_clear_7 ?_
  refine dk_aload_n C dX6_clear_10 rfl rfl ?_
  refine dk_iconst C (-1) dX6_clear_11 rfl ?_
  refine ek_putI C fX6_34 fwX6_8 rfl (by decide) rfl dX6_clear_12 ?_
  exact dk_vret C E dX6_clear_15 (Nat.zero_le _) (Nat.zero_le _) (⟨rfl, rfl⟩)
theorem nI24 (d m : Nat) : nI d * 24 + nI m = nI (d * 24 + m) := by rw [show (24 : Int32) = nI 24 from rfl, pk_mul, nI_add]
theorem nI24k (d : Nat) : nI d * 24 = nI (d * 24) := by rw [show (24 : Int32) = nI 24 from rfl, pk_mul]
theorem nIm1 {k : Nat} (h : 0 < k) : nI k - 1 = nI (k - 1) := by rw [show (1 : Int32) = nI 1 from rfl, pk_sub (by omega)]
def wk_add (hi : Nat → Nat → Int32) (d m : Nat) (x : Int32) : Nat → Nat → Int32 := dk_up (dk_up hi 39 (d * 24 + m) x) 40 d (nI (m + 1))
set_option maxHeartbeats 4000000 in
set_option maxRecDepth 100000 in
theorem c_X6_addPlace (G : dk_G) (sr : Nat → Option Nat) (hi : Nat → Nat → Int32) (hf : Nat → Nat → UInt32) (z : (Nat → Nat → Int64) × (Nat → Nat → UInt64)) (d m : Nat) (x : Int32) (hd : hi 38 8 = nI d) (hd' : d < 3) (hm : hi 40 d = nI m) (hm' : m < 24) :
    dk_MF G yX6_addPlace cX6_addPlace 2 none 0 0 [.ref 38, .int x] (hi, hf, dk_RF sr, z) (none) (wk_add hi d m x, hf, dk_RF sr, z) := by
  refine dk_met (L := [some (.ref 38), some (.int x)]) pnX6 rfl (Nat.le_of_ble_eq_true rfl) ?_
  intro X C E hNm
  refine dk_aload_n C dX6_addPlace_0 rfl rfl ?_
  refine ek_getR C fX6_13 rfl (by decide) rfl 39 rfl dX6_addPlace_1 ?_
  refine dk_aload_n C dX6_addPlace_4 rfl rfl ?_
  refine ek_getI C fX6_34 rfl (by decide) rfl dX6_addPlace_5 ?_
  refine dk_bipush C (24) dX6_addPlace_8 rfl ?_
  refine dk_imul C dX6_addPlace_10 ?_
  refine dk_aload_n C dX6_addPlace_11 rfl rfl ?_
  refine ek_getR C fX6_19 rfl (by decide) rfl 40 rfl dX6_addPlace_12 ?_
  refine dk_aload_n C dX6_addPlace_15 rfl rfl ?_
  refine ek_getI C fX6_34 rfl (by decide) rfl dX6_addPlace_16 ?_
  refine ek_iald C rfl (by decide) (d) (hd) (hd') (by decide) dX6_addPlace_19 ?_
  refine dk_iadd C dX6_addPlace_20 ?_
  refine dk_iload_n C dX6_addPlace_21 rfl rfl ?_
  refine ek_iast C rfl (by decide) (d * 24 + m) (by rw [hd, hm, nI24]) (by omega) (by decide) dX6_addPlace_22 ?_
  have e1 : dk_up hi 39 (d * 24 + m) x 38 8 = nI d := by rw [dk_up_ne _ _ (Or.inl (by decide)), hd]
  have e2 : dk_up hi 39 (d * 24 + m) x 40 d = nI m := by rw [dk_up_ne _ _ (Or.inl (by decide)), hm]
  refine dk_aload_n C dX6_addPlace_23 rfl rfl ?_
  refine ek_getR C fX6_19 rfl (by decide) rfl 40 rfl dX6_addPlace_24 ?_
  refine dk_aload_n C dX6_addPlace_27 rfl rfl ?_
  refine ek_getI C fX6_34 rfl (by decide) rfl dX6_addPlace_28 ?_
  refine dk_dup2 C dX6_addPlace_31 rfl rfl ?_
  refine ek_iald C rfl (by decide) (d) (e1) (hd') (by decide) dX6_addPlace_32 ?_
  refine dk_iconst C (1) dX6_addPlace_33 rfl ?_
  refine dk_iadd C dX6_addPlace_34 ?_
  refine ek_iast C rfl (by decide) (d) (e1) (hd') (by decide) dX6_addPlace_35 ?_
  rw [e2, nI_1]
  exact dk_vret C E dX6_addPlace_36 (Nat.zero_le _) (Nat.zero_le _) (⟨rfl, rfl⟩)
theorem dk_cp_0 (hi : Nat → Nat → Int32) (a s d : Nat) : dk_cp hi a s d 0 = hi := by
  funext i j
  simp only [dk_cp, va_cpy]
  by_cases h : i = a
  · subst h; rw [if_pos rfl, if_neg (by omega)]
  · rw [if_neg h]
theorem dk_cp_s (hi : Nat → Nat → Int32) (a s n : Nat) : dk_up (dk_cp hi a (s + 1) (s + 2) n) a (s + 1) (hi a s) = dk_cp hi a s (s + 1) (n + 1) := by
  funext i j
  simp only [dk_cp, va_cpy, dk_up]
  by_cases h : i = a
  · subst h
    by_cases h2 : j = s + 1
    · subst h2; rw [if_pos ⟨rfl, rfl⟩, if_pos rfl, if_pos (by omega)]; congr 1; omega
    · rw [if_neg (fun q => h2 q.2), if_pos rfl, if_pos rfl]
      by_cases h3 : s + 2 ≤ j ∧ j < s + 2 + n
      · rw [if_pos h3, if_pos (by omega)]; congr 1; omega
      · rw [if_neg h3, if_neg (by omega)]
  · simp [h]
theorem dk_cp_at (hi : Nat → Nat → Int32) {a s n j : Nat} (h : j ≤ s) : dk_cp hi a s (s + 1) n a j = hi a j := by
  simp only [dk_cp, va_cpy, if_true]
  rw [if_neg (by omega)]
theorem dk_cp_ne (hi : Nat → Nat → Int32) {a s d n i j : Nat} (h : i ≠ a) : dk_cp hi a s d n i j = hi i j := by
  simp only [dk_cp]
  rw [if_neg h]
def wk_sink (hi : Nat → Nat → Int32) (s m k : Nat) : Nat → Nat → Int32 := dk_up (dk_cp hi 39 (s + k) (s + k + 1) (m - k)) 39 (s + k) (hi 39 (s + m))
set_option maxHeartbeats 4000000 in
set_option maxRecDepth 100000 in
/-- the place added last sinks before those with greater values -/
theorem c_X6_sinkLastPlace (G : dk_G) (sr : Nat → Option Nat) (hi : Nat → Nat → Int32) (hf : Nat → Nat → UInt32) (z : (Nat → Nat → Int64) × (Nat → Nat → UInt64)) {t : Nat} (T : dk_T t) (c d m : Nat) (P : Nat → Nat) (hc : c < 4) (hd : hi 38 8 = nI d) (hd' : d < 3) (hm : hi 40 d = nI (m + 1)) (hm' : m < 24) (hP : ∀ i, i ≤ m → hi 39 (d * 24 + i) = nI (P i) ∧ P i < 24) :
    dk_M G yX6_sinkLastPlace cX6_sinkLastPlace 7 none { frames := 1, cells := 0, slots := 0, locals := 22 } [.ref 38, .ref t, .int (nI c)] 63 (hi, hf, dk_RF sr, z) 63 (fun r' h' => r' = none ∧ ∃ k, k ≤ m ∧ (k = 0 ∨ tb_c hi t c (P (k - 1)) ≤ tb_c hi t c (P m)) ∧ (∀ i, k ≤ i → i < m → tb_c hi t c (P m) < tb_c hi t c (P i)) ∧ h' = (wk_sink hi (d * 24) m k, hf, dk_RF sr, z)) := by
  refine dk_met (L := [some (.ref 38), some (.ref t), some (.int (nI c)), none, none, none, none]) pnX6 rfl (Nat.le_of_ble_eq_true rfl) ?_
  intro X C E hNm
  have hpm := hP m (Nat.le_refl m)
  have tne : t + 2 ≠ 39 := by rcases T with rfl | rfl | rfl <;> decide
  have loop : ∀ k, k ≤ m → (∀ i, k ≤ i → i < m → tb_c hi t c (P m) < tb_c hi t c (P i)) → dk_W X 41 [some (.ref 38), some (.ref t), some (.int (nI c)), some (.int (nI (d * 24))), some (.int (nI (d * 24 + k))), some (.int (nI (P m))), some (.int (tb_c hi t c (P m)))] [] 63 (dk_cp hi 39 (d * 24 + k) (d * 24 + k + 1) (m - k), hf, dk_RF sr, z) 0 0 := by
    intro k
    induction k with
    | zero =>
      intro hk hg
      refine dk_iload C dX6_sinkLastPlace_41 rfl ?_
      refine dk_iload_n C dX6_sinkLastPlace_43 rfl rfl ?_
      refine dk_icmp_le C 88 dX6_sinkLastPlace_44 (by decide) (fun _ => ?_) (fun hz => absurd (Int32.le_refl _) hz)
      refine dk_aload_n C dX6_sinkLastPlace_88 rfl rfl ?_
      refine ek_getR C fX6_13 rfl (by decide) rfl 39 rfl dX6_sinkLastPlace_89 ?_
      refine dk_iload C dX6_sinkLastPlace_92 rfl ?_
      refine dk_iload C dX6_sinkLastPlace_94 rfl ?_
      refine ek_iast C rfl (by decide) (d * 24 + 0) (rfl) (by omega) (by decide) dX6_sinkLastPlace_96 ?_
      exact dk_vret C E dX6_sinkLastPlace_97 (Nat.zero_le _) (Nat.zero_le _) (⟨rfl, 0, Nat.zero_le _, Or.inl rfl, hg, by rw [wk_sink, hpm.1]⟩)
    | succ k ih =>
      intro hk hg
      have hpk := hP k (by omega)
      have e1 : nI (d * 24 + (k + 1)) - 1 = nI (d * 24 + k) := nIm1 (by omega)
      have e2 : dk_cp hi 39 (d * 24 + (k + 1)) (d * 24 + (k + 1) + 1) (m - (k + 1)) 39 (d * 24 + k) = nI (P k) := by rw [dk_cp_at hi (by omega), hpk.1]
      refine dk_iload C dX6_sinkLastPlace_41 rfl ?_
      refine dk_iload_n C dX6_sinkLastPlace_43 rfl rfl ?_
      refine dk_icmp_le C 88 dX6_sinkLastPlace_44 (by decide) (fun hz => absurd hz (nI_ge (by omega) (by omega))) (fun _ => ?_)
      refine dk_aload_n C dX6_sinkLastPlace_47 rfl rfl ?_
      refine dk_aload_n C dX6_sinkLastPlace_48 rfl rfl ?_
      refine ek_getR C fX6_13 rfl (by decide) rfl 39 rfl dX6_sinkLastPlace_49 ?_
      refine dk_iload C dX6_sinkLastPlace_52 rfl ?_
      refine dk_iconst C (1) dX6_sinkLastPlace_54 rfl ?_
      refine dk_isub C dX6_sinkLastPlace_55 ?_
      refine ek_iald C rfl (by decide) (d * 24 + k) (e1) (by omega) (by decide) dX6_sinkLastPlace_56 ?_
      rw [e2]
      refine dk_iload_n C dX6_sinkLastPlace_57 rfl rfl ?_
      refine ek_callV C mX6_126 (c_X5_value _ _ _ _ _ T (P k) c hpk.2 hc) T.s0 T.l0 rfl rfl (Nat.le_of_ble_eq_true rfl) (by decide) (by decide) (Nat.zero_le _) (Nat.zero_le _) dX6_sinkLastPlace_58 ?_
      refine dk_iload C dX6_sinkLastPlace_61 rfl ?_
      have e3 : dk_cp hi 39 (d * 24 + (k + 1)) (d * 24 + (k + 1) + 1) (m - (k + 1)) (t + 2) (P k * 4 + c) = tb_c hi t c (P k) := dk_cp_ne hi tne
      rw [e3]
      refine dk_icmp_le C 88 dX6_sinkLastPlace_63 (by decide) (fun c1 => ?_) (fun c1 => ?_)
      · refine dk_aload_n C dX6_sinkLastPlace_88 rfl rfl ?_
        refine ek_getR C fX6_13 rfl (by decide) rfl 39 rfl dX6_sinkLastPlace_89 ?_
        refine dk_iload C dX6_sinkLastPlace_92 rfl ?_
        refine dk_iload C dX6_sinkLastPlace_94 rfl ?_
        refine ek_iast C rfl (by decide) (d * 24 + (k + 1)) (rfl) (by omega) (by decide) dX6_sinkLastPlace_96 ?_
        exact dk_vret C E dX6_sinkLastPlace_97 (Nat.zero_le _) (Nat.zero_le _) (⟨rfl, k + 1, hk, Or.inr c1, hg, by rw [wk_sink, hpm.1]⟩)
      · refine dk_aload_n C dX6_sinkLastPlace_66 rfl rfl ?_
        refine ek_getR C fX6_13 rfl (by decide) rfl 39 rfl dX6_sinkLastPlace_67 ?_
        refine dk_iload C dX6_sinkLastPlace_70 rfl ?_
        refine dk_aload_n C dX6_sinkLastPlace_72 rfl rfl ?_
        refine ek_getR C fX6_13 rfl (by decide) rfl 39 rfl dX6_sinkLastPlace_73 ?_
        refine dk_iload C dX6_sinkLastPlace_76 rfl ?_
        refine dk_iconst C (1) dX6_sinkLastPlace_78 rfl ?_
        refine dk_isub C dX6_sinkLastPlace_79 ?_
        refine ek_iald C rfl (by decide) (d * 24 + k) (e1) (by omega) (by decide) dX6_sinkLastPlace_80 ?_
        rw [e2, ← hpk.1]
        refine ek_iast C rfl (by decide) (d * 24 + (k + 1)) (rfl) (by omega) (by decide) dX6_sinkLastPlace_81 ?_
        refine dk_iinc C (nI (d * 24 + k)) dX6_sinkLastPlace_82 rfl (by rw [litm1]; exact pk_m1 _) (by decide) rfl ?_
        refine dk_goto C 41 dX6_sinkLastPlace_85 (by decide) ?_
        have e4 : dk_up (dk_cp hi 39 (d * 24 + (k + 1)) (d * 24 + (k + 1) + 1) (m - (k + 1))) 39 (d * 24 + (k + 1)) (hi 39 (d * 24 + k)) = dk_cp hi 39 (d * 24 + k) (d * 24 + k + 1) (m - k) := by
          rw [show m - k = m - (k + 1) + 1 by omega]
          exact dk_cp_s hi 39 (d * 24 + k) (m - (k + 1))
        rw [e4]
        refine ih (by omega) (fun i h1 h2 => ?_)
        by_cases e : i = k
        · subst e; exact Int32.not_le.mp c1
        · exact hg i (by omega) h2
  have e0 : nI (d * 24) + nI (m + 1) - 1 = nI (d * 24 + m) := by rw [nI_add, nIm1 (by omega)]; congr 1
  refine dk_aload_n C dX6_sinkLastPlace_0 rfl rfl ?_
  refine ek_getI C fX6_34 rfl (by decide) rfl dX6_sinkLastPlace_1 ?_
  refine dk_bipush C (24) dX6_sinkLastPlace_4 rfl ?_
  refine dk_imul C dX6_sinkLastPlace_6 ?_
  rw [hd, nI24k]
  refine dk_istore_n C dX6_sinkLastPlace_7 rfl (by decide) rfl ?_
  refine dk_iload_n C dX6_sinkLastPlace_8 rfl rfl ?_
  refine dk_aload_n C dX6_sinkLastPlace_9 rfl rfl ?_
  refine ek_getR C fX6_19 rfl (by decide) rfl 40 rfl dX6_sinkLastPlace_10 ?_
  refine dk_aload_n C dX6_sinkLastPlace_13 rfl rfl ?_
  refine ek_getI C fX6_34 rfl (by decide) rfl dX6_sinkLastPlace_14 ?_
  refine ek_iald C rfl (by decide) (d) (hd) (hd') (by decide) dX6_sinkLastPlace_17 ?_
  rw [hm]
  refine dk_iadd C dX6_sinkLastPlace_18 ?_
  refine dk_iconst C (1) dX6_sinkLastPlace_19 rfl ?_
  refine dk_isub C dX6_sinkLastPlace_20 ?_
  rw [e0]
  refine dk_istore C dX6_sinkLastPlace_21 (by decide) rfl ?_
  refine dk_aload_n C dX6_sinkLastPlace_23 rfl rfl ?_
  refine ek_getR C fX6_13 rfl (by decide) rfl 39 rfl dX6_sinkLastPlace_24 ?_
  refine dk_iload C dX6_sinkLastPlace_27 rfl ?_
  refine ek_iald C rfl (by decide) (d * 24 + m) (rfl) (by omega) (by decide) dX6_sinkLastPlace_29 ?_
  rw [hpm.1]
  refine dk_istore C dX6_sinkLastPlace_30 (by decide) rfl ?_
  refine dk_aload_n C dX6_sinkLastPlace_32 rfl rfl ?_
  refine dk_iload C dX6_sinkLastPlace_33 rfl ?_
  refine dk_iload_n C dX6_sinkLastPlace_35 rfl rfl ?_
  refine ek_callV C mX6_126 (c_X5_value _ _ _ _ _ T (P m) c hpm.2 hc) T.s0 T.l0 rfl rfl (Nat.le_of_ble_eq_true rfl) (by decide) (by decide) (Nat.zero_le _) (Nat.zero_le _) dX6_sinkLastPlace_36 ?_
  refine dk_istore C dX6_sinkLastPlace_39 (by decide) rfl ?_
  have h9 := loop m (Nat.le_refl m) (fun i h1 h2 => by omega)
  rw [Nat.sub_self, dk_cp_0] at h9
  exact h9
set_option maxHeartbeats 4000000 in
set_option maxRecDepth 100000 in
theorem c_X6_readValue (G : dk_G) (sr : Nat → Option Nat) (hi : Nat → Nat → Int32) (hf : Nat → Nat → UInt32) (z : (Nat → Nat → Int64) × (Nat → Nat → UInt64)) (s c p : Nat) {t : Nat} (T : dk_T t) (hs : sr s = some t) (hs' : s < 3) (hc : c < 4) (hp : hi 42 s = nI p) (hp' : p < 24) :
    dk_MF G yX6_readValue cX6_readValue 4 (some .int) 1 22 [.ref 38, .ref 14, .int (nI s), .int (nI c)] (hi, hf, dk_RF sr, z) (some (.int (tb_c hi t c p))) (hi, hf, dk_RF sr, z) := by
  refine dk_met (L := [some (.ref 38), some (.ref 14), some (.int (nI s)), some (.int (nI c))]) pnX6 rfl (Nat.le_of_ble_eq_true rfl) ?_
  intro X C E hNm
  refine dk_aload_n C dX6_readValue_0 rfl rfl ?_
  refine ek_getR C fX6_122 rfl (by decide) rfl 15 rfl dX6_readValue_1 ?_
  refine dk_iload_n C dX6_readValue_4 rfl rfl ?_
  refine ek_aald C rfl (by decide) (by decide) (s) (rfl) (hs') (by decide) t (hs) dX6_readValue_5 ?_
  refine dk_aload_n C dX6_readValue_6 rfl rfl ?_
  refine ek_getR C fX6_25 rfl (by decide) rfl 42 rfl dX6_readValue_7 ?_
  refine dk_iload_n C dX6_readValue_10 rfl rfl ?_
  refine ek_iald C rfl (by decide) (s) (rfl) (hs') (by decide) dX6_readValue_11 ?_
  rw [hp]
  refine dk_iload_n C dX6_readValue_12 rfl rfl ?_
  refine ek_callV C mX6_126 (c_X5_value _ _ _ _ _ T p c hp' hc) T.s0 T.l0 rfl rfl (Nat.le_of_ble_eq_true rfl) (by decide) (by decide) (Nat.zero_le _) (Nat.zero_le _) dX6_readValue_13 ?_
  exact dk_iret C E dX6_readValue_16 (Nat.zero_le _) (Nat.zero_le _) (⟨rfl, rfl⟩)
set_option maxHeartbeats 4000000 in
set_option maxRecDepth 100000 in
theorem c_X6_isDone (G : dk_G) (sr : Nat → Option Nat) (hi : Nat → Nat → Int32) (hf : Nat → Nat → UInt32) (z : (Nat → Nat → Int64) × (Nat → Nat → UInt64))  :
    dk_MF G yX6_isDone cX6_isDone 2 (some .boolean) 2 40 [.ref 38, .ref 14] (hi, hf, dk_RF sr, z) (some (.int (bI (decide (hi 38 8 = -1 ∨ (if hi 14 8 = -1 then hi 14 10 else 64) ≤ hi 38 6))))) (hi, hf, dk_RF sr, z) := by
  refine dk_met (L := [some (.ref 38), some (.ref 14)]) pnX6 rfl (Nat.le_of_ble_eq_true rfl) ?_
  intro X C E hNm
  refine dk_aload_n C dX6_isDone_0 rfl rfl ?_
  refine ek_getI C fX6_34 rfl (by decide) rfl dX6_isDone_1 ?_
  refine dk_iconst C (-1) dX6_isDone_4 rfl ?_
  refine dk_icmp_eq C 19 dX6_isDone_5 (by decide) (fun c1 => ?_) (fun c1 => ?_)
  · refine dk_iconst C (1) dX6_isDone_19 rfl ?_
    refine dk_goto C 24 dX6_isDone_20 (by decide) ?_
    exact dk_zret C E rfl dX6_isDone_24 (Nat.zero_le _) (Nat.zero_le _) (⟨pI (bI_t (by simp [c1])), rfl⟩)
  · refine dk_aload_n C dX6_isDone_8 rfl rfl ?_
    refine ek_getI C fX6_38 rfl (by decide) rfl dX6_isDone_9 ?_
    refine dk_aload_n C dX6_isDone_12 rfl rfl ?_
    refine ek_callV C mX6_54 (c_X4_enoughAnswers _ _ _ _ _) rfl (by decide) rfl rfl (Nat.le_of_ble_eq_true rfl) (by decide) (by decide) (Nat.zero_le _) (Nat.zero_le _) dX6_isDone_13 ?_
    refine dk_icmp_lt C 23 dX6_isDone_16 (by decide) (fun c2 => ?_) (fun c2 => ?_)
    · refine dk_iconst C (0) dX6_isDone_23 rfl ?_
      exact dk_zret C E rfl dX6_isDone_24 (Nat.zero_le _) (Nat.zero_le _) (⟨pI (bI_f (by rw [decide_eq_false_iff_not]; exact fun q => q.elim c1 (fun q => Int32.not_le.mpr c2 q))), rfl⟩)
    · refine dk_iconst C (1) dX6_isDone_19 rfl ?_
      refine dk_goto C 24 dX6_isDone_20 (by decide) ?_
      exact dk_zret C E rfl dX6_isDone_24 (Nat.zero_le _) (Nat.zero_le _) (⟨pI (bI_t (by rw [decide_eq_true_eq]; exact Or.inr (Int32.not_lt.mp c2))), rfl⟩)
set_option maxHeartbeats 4000000 in
set_option maxRecDepth 100000 in
theorem c_X6_valueOf (G : dk_G) (sr : Nat → Option Nat) (hi : Nat → Nat → Int32) (hf : Nat → Nat → UInt32) (z : (Nat → Nat → Int64) × (Nat → Nat → UInt64)) (i k r : Nat) (hi' : i < 64) (hk : k < 4) (hr : hi 44 i = nI r) (hr' : r < 64) :
    dk_MF G yX6_valueOf cX6_valueOf 3 (some .int) 0 0 [.ref 38, .int (nI i), .int (nI k)] (hi, hf, dk_RF sr, z) (some (.int (hi 43 (r * 4 + k)))) (hi, hf, dk_RF sr, z) := by
  refine dk_met (L := [some (.ref 38), some (.int (nI i)), some (.int (nI k))]) pnX6 rfl (Nat.le_of_ble_eq_true rfl) ?_
  intro X C E hNm
  refine dk_aload_n C dX6_valueOf_0 rfl rfl ?_
  refine ek_getR C fX6_28 rfl (by decide) rfl 43 rfl dX6_valueOf_1 ?_
  refine dk_aload_n C dX6_valueOf_4 rfl rfl ?_
  refine ek_getR C fX6_31 rfl (by decide) rfl 44 rfl dX6_valueOf_5 ?_
  refine dk_iload_n C dX6_valueOf_8 rfl rfl ?_
  refine ek_iald C rfl (by decide) (i) (rfl) (hi') (by decide) dX6_valueOf_9 ?_
  refine dk_iconst C (4) dX6_valueOf_10 rfl ?_
  refine dk_imul C dX6_valueOf_11 ?_
  refine dk_iload_n C dX6_valueOf_12 rfl rfl ?_
  refine dk_iadd C dX6_valueOf_13 ?_
  refine ek_iald C rfl (by decide) (r * 4 + k) (by rw [hr, nI4]) (by omega) (by decide) dX6_valueOf_14 ?_
  exact dk_iret C E dX6_valueOf_15 (Nat.zero_le _) (Nat.zero_le _) (⟨rfl, rfl⟩)
/-- whether an answer goes before another, by the ORDER -/
def wk_b (fl : Int32) (x y : Int32) : Bool := if fl = 0 then decide (x < y) else decide (y < x)
set_option maxHeartbeats 4000000 in
set_option maxRecDepth 100000 in
theorem c_X6_goesBefore (G : dk_G) (sr : Nat → Option Nat) (hi : Nat → Nat → Int32) (hf : Nat → Nat → UInt32) (z : (Nat → Nat → Int64) × (Nat → Nat → UInt64)) (a b o : Nat) (ha : a < 64) (hb : b < 64) (ho : hi 14 8 = nI o) (ho' : o < 4) :
    dk_MF G yX6_goesBefore cX6_goesBefore 6 (some .boolean) 0 0 [.ref 38, .ref 14, .int (nI a), .int (nI b)] (hi, hf, dk_RF sr, z) (some (.int (bI (wk_b (hi 14 9) (hi 43 (a * 4 + o)) (hi 43 (b * 4 + o)))))) (hi, hf, dk_RF sr, z) := by
  refine dk_met (L := [some (.ref 38), some (.ref 14), some (.int (nI a)), some (.int (nI b)), none, none]) pnX6 rfl (Nat.le_of_ble_eq_true rfl) ?_
  intro X C E hNm
  refine dk_aload_n C dX6_goesBefore_0 rfl rfl ?_
  refine ek_getR C fX6_28 rfl (by decide) rfl 43 rfl dX6_goesBefore_1 ?_
  refine dk_iload_n C dX6_goesBefore_4 rfl rfl ?_
  refine dk_iconst C (4) dX6_goesBefore_5 rfl ?_
  refine dk_imul C dX6_goesBefore_6 ?_
  refine dk_aload_n C dX6_goesBefore_7 rfl rfl ?_
  refine ek_getI C fX6_184 rfl (by decide) rfl dX6_goesBefore_8 ?_
  refine dk_iadd C dX6_goesBefore_11 ?_
  refine ek_iald C rfl (by decide) (a * 4 + o) (by rw [ho, nI4]) (by omega) (by decide) dX6_goesBefore_12 ?_
  refine dk_istore C dX6_goesBefore_13 (by decide) rfl ?_
  refine dk_aload_n C dX6_goesBefore_15 rfl rfl ?_
  refine ek_getR C fX6_28 rfl (by decide) rfl 43 rfl dX6_goesBefore_16 ?_
  refine dk_iload_n C dX6_goesBefore_19 rfl rfl ?_
  refine dk_iconst C (4) dX6_goesBefore_20 rfl ?_
  refine dk_imul C dX6_goesBefore_21 ?_
  refine dk_aload_n C dX6_goesBefore_22 rfl rfl ?_
  refine ek_getI C fX6_184 rfl (by decide) rfl dX6_goesBefore_23 ?_
  refine dk_iadd C dX6_goesBefore_26 ?_
  refine ek_iald C rfl (by decide) (b * 4 + o) (by rw [ho, nI4]) (by omega) (by decide) dX6_goesBefore_27 ?_
  refine dk_istore C dX6_goesBefore_28 (by decide) rfl ?_
  refine dk_aload_n C dX6_goesBefore_30 rfl rfl ?_
  refine ek_getI C fX6_187 rfl (by decide) rfl dX6_goesBefore_31 ?_
  refine dk_if_eq C 52 dX6_goesBefore_34 (by decide) (fun c1 => ?_) (fun c1 => ?_)
  · refine dk_iload C dX6_goesBefore_52 rfl ?_
    refine dk_iload C dX6_goesBefore_54 rfl ?_
    refine dk_icmp_ge C 63 dX6_goesBefore_56 (by decide) (fun c2 => ?_) (fun c2 => ?_)
    · refine dk_iconst C (0) dX6_goesBefore_63 rfl ?_
      exact dk_zret C E rfl dX6_goesBefore_64 (Nat.zero_le _) (Nat.zero_le _) (⟨pI (bI_f (by rw [wk_b, if_pos c1]; simpa using c2)), rfl⟩)
    · refine dk_iconst C (1) dX6_goesBefore_59 rfl ?_
      refine dk_goto C 64 dX6_goesBefore_60 (by decide) ?_
      exact dk_zret C E rfl dX6_goesBefore_64 (Nat.zero_le _) (Nat.zero_le _) (⟨pI (bI_t (by rw [wk_b, if_pos c1]; simpa using c2)), rfl⟩)
  · refine dk_iload C dX6_goesBefore_37 rfl ?_
    refine dk_iload C dX6_goesBefore_39 rfl ?_
    refine dk_icmp_le C 48 dX6_goesBefore_41 (by decide) (fun c2 => ?_) (fun c2 => ?_)
    · refine dk_iconst C (0) dX6_goesBefore_48 rfl ?_
      refine dk_goto C 64 dX6_goesBefore_49 (by decide) ?_
      exact dk_zret C E rfl dX6_goesBefore_64 (Nat.zero_le _) (Nat.zero_le _) (⟨pI (bI_f (by rw [wk_b, if_neg c1]; simpa using c2)), rfl⟩)
    · refine dk_iconst C (1) dX6_goesBefore_44 rfl ?_
      refine dk_goto C 64 dX6_goesBefore_45 (by decide) ?_
      exact dk_zret C E rfl dX6_goesBefore_64 (Nat.zero_le _) (Nat.zero_le _) (⟨pI (bI_t (by rw [wk_b, if_neg c1]; simpa using c2)), rfl⟩)
