/-! ===== QueryDesk$Work: leaving, passing, keeping ===== -/
theorem dk_up_id {α : Type} (f : Nat → Nat → α) (i k : Nat) : dk_up f i k (f i k) = f := by
  funext a b
  unfold dk_up
  by_cases h : a = i ∧ b = k
  · rw [if_pos h, h.1, h.2]
  · rw [if_neg h]
/-- the depth d - 1 -/
def dpI (d : Nat) : Int32 := nI d - 1
theorem dpI_0 : dpI 0 = -1 := by decide
theorem dpI_s (d : Nat) : dpI (d + 1) = nI d := nI_pred d
/-- sources that are gone through are left -/
def lfd (nx ct : Nat → Int32) : Nat → Nat
  | 0 => 0
  | d + 1 => if nx d < ct d then d + 1 else lfd nx ct d
theorem lfd_le (nx ct : Nat → Int32) : ∀ d, lfd nx ct d ≤ d
  | 0 => Nat.le_refl 0
  | d + 1 => by
    unfold lfd
    split
    · exact Nat.le_refl _
    · exact Nat.le_succ_of_le (lfd_le nx ct d)
set_option maxHeartbeats 4000000 in
set_option maxRecDepth 100000 in
theorem c_X6_leaveFinishedSources (G : dk_G) (sr : Nat → Option Nat) (hi : Nat → Nat → Int32) (hf : Nat → Nat → UInt32) (z : (Nat → Nat → Int64) × (Nat → Nat → UInt64)) (dd : Nat) (hd : hi 38 8 = dpI dd) (hd' : dd ≤ 3) :
    dk_MF G yX6_leaveFinishedSources cX6_leaveFinishedSources 1 none 0 0 [.ref 38] (hi, hf, dk_RF sr, z) (none) (dk_up hi 38 8 (dpI (lfd (hi 41) (hi 40) dd)), hf, dk_RF sr, z) := by
  refine dk_met (L := [some (.ref 38)]) pnX6 rfl (Nat.le_of_ble_eq_true rfl) ?_
  intro X C E hNm
  have loop : ∀ d, d ≤ 3 → lfd (hi 41) (hi 40) d = lfd (hi 41) (hi 40) dd → dk_W X 0 [some (.ref 38)] [] 63 (dk_up hi 38 8 (dpI d), hf, dk_RF sr, z) 0 0 := by
    intro d
    induction d with
    | zero =>
      intro _ he
      refine dk_aload_n C dX6_leaveFinishedSources_0 rfl rfl ?_
      refine ek_getI C fX6_34 rfl (by decide) rfl dX6_leaveFinishedSources_1 ?_
      rw [dk_up_same, dpI_0]
      refine dk_if_lt C 41 dX6_leaveFinishedSources_4 (by decide) (fun _ => ?_) (fun hz => absurd (by decide) hz)
      exact dk_vret C E dX6_leaveFinishedSources_41 (Nat.zero_le _) (Nat.zero_le _) (⟨rfl, by rw [← he, lfd]; rfl⟩)
    | succ d ih =>
      intro h3 he
      refine dk_aload_n C dX6_leaveFinishedSources_0 rfl rfl ?_
      refine ek_getI C fX6_34 rfl (by decide) rfl dX6_leaveFinishedSources_1 ?_
      rw [dk_up_same, dpI_s]
      refine dk_if_lt C 41 dX6_leaveFinishedSources_4 (by decide) (fun hz => absurd hz (nI_pos (by omega))) (fun _ => ?_)
      refine dk_aload_n C dX6_leaveFinishedSources_7 rfl rfl ?_
      refine ek_getR C fX6_22 rfl (by decide) rfl 41 rfl dX6_leaveFinishedSources_8 ?_
      refine dk_aload_n C dX6_leaveFinishedSources_11 rfl rfl ?_
      refine ek_getI C fX6_34 rfl (by decide) rfl dX6_leaveFinishedSources_12 ?_
      refine ek_iald C rfl (by decide) (d) (by rw [dk_up_same]) (by omega) (by decide) dX6_leaveFinishedSources_15 ?_
      refine dk_aload_n C dX6_leaveFinishedSources_16 rfl rfl ?_
      refine ek_getR C fX6_19 rfl (by decide) rfl 40 rfl dX6_leaveFinishedSources_17 ?_
      refine dk_aload_n C dX6_leaveFinishedSources_20 rfl rfl ?_
      refine ek_getI C fX6_34 rfl (by decide) rfl dX6_leaveFinishedSources_21 ?_
      refine ek_iald C rfl (by decide) (d) (by rw [dk_up_same]) (by omega) (by decide) dX6_leaveFinishedSources_24 ?_
      rw [dk_up_ne _ _ (Or.inl (by decide)), dk_up_ne _ _ (Or.inl (by decide))]
      refine dk_icmp_lt C 41 dX6_leaveFinishedSources_25 (by decide) (fun c1 => ?_) (fun c1 => ?_)
      · exact dk_vret C E dX6_leaveFinishedSources_41 (Nat.zero_le _) (Nat.zero_le _) (⟨rfl, by rw [← he, lfd, if_pos c1, dpI_s]⟩)
      · refine dk_aload_n C dX6_leaveFinishedSources_28 rfl rfl ?_
        refine dk_dup C dX6_leaveFinishedSources_29 rfl ?_
        refine ek_getI C fX6_34 rfl (by decide) rfl dX6_leaveFinishedSources_30 ?_
        refine dk_iconst C (1) dX6_leaveFinishedSources_33 rfl ?_
        refine dk_isub C dX6_leaveFinishedSources_34 ?_
        refine ek_putI C fX6_34 fwX6_8 rfl (by decide) rfl dX6_leaveFinishedSources_35 ?_
        refine dk_goto C 0 dX6_leaveFinishedSources_38 (by decide) ?_
        rw [dk_up_same, dk_up_up]
        exact ih (by omega) (by rw [← he, lfd, if_neg c1])
  have h9 := loop dd hd' rfl
  rw [← hd, dk_up_id] at h9
  exact h9
noncomputable def bP (p : Prop) : Bool := @decide p (Classical.propDecidable p)
theorem bP_t {p : Prop} (h : p) : bP p = true := @decide_eq_true p (Classical.propDecidable p) h
theorem bP_f {p : Prop} (h : ¬ p) : bP p = false := @decide_eq_false p (Classical.propDecidable p) h
theorem bP_1 {p : Prop} (h : bP p = true) : p := @of_decide_eq_true p (Classical.propDecidable p) h
theorem bP_0 {p : Prop} (h : bP p = false) : ¬ p := @of_decide_eq_false p (Classical.propDecidable p) h
/-- the value that a source's column has in the row read last -/
abbrev rdv (hi : Nat → Nat → Int32) (st rp : Nat → Nat) (s c : Nat) : Int32 := tb_c hi (st s) c (rp s)
def psC (hi : Nat → Nat → Int32) (st rp : Nat → Nat) (s : Nat) (i : Nat) : Prop := hi (17 + i) 0 = nI s → cn_b (cl (hi (17 + i) 2)) (rdv hi st rp s (cl (hi (17 + i) 1))) (hi (17 + i) 3) = true
def psJ (hi : Nat → Nat → Int32) (st rp : Nat → Nat) (d : Nat) (j : Nat) : Prop := pl_ties hi (22 + j) d = true → rdv hi st rp (cl (hi (22 + j) 0)) (cl (hi (22 + j) 1)) = rdv hi st rp (cl (hi (22 + j) 2)) (cl (hi (22 + j) 3))
/-- whether the row read at depth d, of source s, passes -/
def psA (hi : Nat → Nat → Int32) (st rp : Nat → Nat) (d s nc nj : Nat) : Prop := (∀ i, i < nc → psC hi st rp s i) ∧ ∀ j, j < nj → psJ hi st rp d j
set_option maxHeartbeats 4000000 in
set_option maxRecDepth 100000 in
theorem c_X6_passes (G : dk_G) (sr : Nat → Option Nat) (hi : Nat → Nat → Int32) (hf : Nat → Nat → UInt32) (z : (Nat → Nat → Int64) × (Nat → Nat → UInt64)) {ns nc nj : Nat} {st nR : Nat → Nat} (hq : qC hi sr ns nc nj st nR) (rp : Nat → Nat) (hrp : ∀ s, s < 3 → hi 42 s = nI (rp s) ∧ rp s < 24) (d s : Nat) (hd : hi 38 8 = nI d) (hd' : d < 3) (hs : hi 34 d = nI s) (hs' : s < ns) :
    dk_MF G yX6_passes cX6_passes 6 (some .boolean) 2 45 [.ref 38, .ref 14, .ref 30] (hi, hf, dk_RF sr, z) (some (.int (bI (bP (psA hi st rp d s nc nj))))) (hi, hf, dk_RF sr, z) := by
  refine dk_met (L := [some (.ref 38), some (.ref 14), some (.ref 30), none, none, none]) pnX6 rfl (Nat.le_of_ble_eq_true rfl) ?_
  intro X C E hNm
  have hns := hq.1.2.1
  have hnc := hq.2.1.2.1
  have hnj := hq.2.2.1.2.1
  have loop2 : ∀ r j, j + r = nj → (∀ i, i < nc → psC hi st rp s i) → (∀ i, i < j → psJ hi st rp d i) → dk_W X 70 [some (.ref 38), some (.ref 14), some (.ref 30), some (.int (nI s)), some (.int (nI j)), none] [] 63 (hi, hf, dk_RF sr, z) 0 0 := by
    intro r
    induction r with
    | zero =>
      intro j hj h1 h2
      obtain rfl : j = nj := by omega
      refine dk_iload C dX6_passes_70 rfl ?_
      refine dk_aload_n C dX6_passes_72 rfl rfl ?_
      refine ek_getI C fX6_97 rfl (by decide) rfl dX6_passes_73 ?_
      rw [hq.2.2.1.1]
      refine dk_icmp_ge C 142 dX6_passes_76 (by decide) (fun _ => ?_) (fun hz => absurd (Int32.le_refl _) hz)
      refine dk_iconst C (1) dX6_passes_142 rfl ?_
      exact dk_zret C E rfl dX6_passes_143 (Nat.zero_le _) (Nat.zero_le _) (⟨pI (bI_t (bP_t ⟨h1, h2⟩)), rfl⟩)
    | succ r ih =>
      intro j hj h1 h2
      have Q := dk_Q1i (n := j) (by omega)
      obtain ⟨a, ca, b, cb, ⟨y1, y2, y3, y4, y5⟩, y6, y7, y8, y9⟩ := hq.2.2.1.2.2 j (by omega)
      obtain ⟨p1, Ta, p3, p4⟩ := hq.1.2.2 a y1
      obtain ⟨q1, Tb, q3, q4⟩ := hq.1.2.2 b y3
      refine dk_iload C dX6_passes_70 rfl ?_
      refine dk_aload_n C dX6_passes_72 rfl rfl ?_
      refine ek_getI C fX6_97 rfl (by decide) rfl dX6_passes_73 ?_
      rw [hq.2.2.1.1]
      refine dk_icmp_ge C 142 dX6_passes_76 (by decide) (fun hz => absurd hz (nI_ge (by omega) (by omega))) (fun _ => ?_)
      refine dk_aload_n C dX6_passes_79 rfl rfl ?_
      refine ek_getR C fX6_100 rfl (by decide) rfl 21 rfl dX6_passes_80 ?_
      refine dk_iload C dX6_passes_83 rfl ?_
      refine ek_aald C rfl (by decide) (by decide) (j) (rfl) (by omega) (by decide) (22 + j) (dk_RF21 sr (by omega)) dX6_passes_85 ?_
      refine dk_astore C dX6_passes_86 (by decide) rfl ?_
      refine dk_aload_n C dX6_passes_88 rfl rfl ?_
      refine dk_aload C dX6_passes_89 rfl ?_
      refine dk_aload_n C dX6_passes_91 rfl rfl ?_
      refine ek_getI C fX6_34 rfl (by decide) rfl dX6_passes_92 ?_
      rw [hd]
      refine ek_callV C mX6_104 (c_X3_tiesBack _ _ _ _ _ Q d hd') rfl (by decide) rfl rfl (Nat.le_of_ble_eq_true rfl) (by decide) (by decide) (Nat.zero_le _) (Nat.zero_le _) dX6_passes_95 ?_
      refine dk_if_eq C 136 dX6_passes_98 (by decide) (fun c1 => ?_) (fun c1 => ?_)
      · refine dk_iinc C (nI (j + 1)) dX6_passes_136 rfl (nI_1 j) (by decide) rfl ?_
        refine dk_goto C 70 dX6_passes_139 (by decide) ?_
        refine dk_forgetAt 5 ?_
        exact ih (j + 1) (by omega) h1 (lt_s h2 (fun q => by rw [bI_n0 c1] at q; exact absurd q (by decide)))
      · refine dk_aload_n C dX6_passes_101 rfl rfl ?_
        refine dk_aload_n C dX6_passes_102 rfl rfl ?_
        refine dk_aload C dX6_passes_103 rfl ?_
        refine ek_getI C fX6_108 Q.s0 Q.l0 rfl dX6_passes_105 ?_
        refine dk_aload C dX6_passes_108 rfl ?_
        refine ek_getI C fX6_113 Q.s0 Q.l0 rfl dX6_passes_110 ?_
        rw [y6, y7]
        refine ek_callV C mX6_89 (c_X6_readValue _ _ _ _ _ a ca (rp a) Ta p1 (by omega) y2 (hrp a (by omega)).1 (hrp a (by omega)).2) rfl (by decide) rfl rfl (Nat.le_of_ble_eq_true rfl) (by decide) (by decide) (Nat.zero_le _) (Nat.zero_le _) dX6_passes_113 ?_
        refine dk_aload_n C dX6_passes_116 rfl rfl ?_
        refine dk_aload_n C dX6_passes_117 rfl rfl ?_
        refine dk_aload C dX6_passes_118 rfl ?_
        refine ek_getI C fX6_116 Q.s0 Q.l0 rfl dX6_passes_120 ?_
        refine dk_aload C dX6_passes_123 rfl ?_
        refine ek_getI C fX6_119 Q.s0 Q.l0 rfl dX6_passes_125 ?_
        rw [y8, y9]
        refine ek_callV C mX6_89 (c_X6_readValue _ _ _ _ _ b cb (rp b) Tb q1 (by omega) y4 (hrp b (by omega)).1 (hrp b (by omega)).2) rfl (by decide) rfl rfl (Nat.le_of_ble_eq_true rfl) (by decide) (by decide) (Nat.zero_le _) (Nat.zero_le _) dX6_passes_128 ?_
        have e : psJ hi st rp d j ↔ (pl_ties hi (22 + j) d = true → rdv hi st rp a ca = rdv hi st rp b cb) := by
          unfold psJ
          rw [y6, y7, y8, y9, cl_nI (by omega), cl_nI (by omega), cl_nI (by omega), cl_nI (by omega)]
        refine dk_icmp_eq C 136 dX6_passes_131 (by decide) (fun c2 => ?_) (fun c2 => ?_)
        · refine dk_iinc C (nI (j + 1)) dX6_passes_136 rfl (nI_1 j) (by decide) rfl ?_
          refine dk_goto C 70 dX6_passes_139 (by decide) ?_
          refine dk_forgetAt 5 ?_
          exact ih (j + 1) (by omega) h1 (lt_s h2 (e.mpr (fun _ => c2)))
        · refine dk_iconst C (0) dX6_passes_134 rfl ?_
          exact dk_zret C E rfl dX6_passes_135 (Nat.zero_le _) (Nat.zero_le _) (⟨pI (bI_f (bP_f (fun q => c2 (e.mp (q.2 j (by omega)) (bI_n1 c1))))), rfl⟩)
  have loop1 : ∀ r i, i + r = nc → (∀ k, k < i → psC hi st rp s k) → dk_W X 13 [some (.ref 38), some (.ref 14), some (.ref 30), some (.int (nI s)), some (.int (nI i)), none] [] 63 (hi, hf, dk_RF sr, z) 0 0 := by
    intro r
    induction r with
    | zero =>
      intro i hi' h1
      obtain rfl : i = nc := by omega
      refine dk_iload C dX6_passes_13 rfl ?_
      refine dk_aload_n C dX6_passes_15 rfl rfl ?_
      refine ek_getI C fX6_74 rfl (by decide) rfl dX6_passes_16 ?_
      rw [hq.2.1.1]
      refine dk_icmp_ge C 67 dX6_passes_19 (by decide) (fun _ => ?_) (fun hz => absurd (Int32.le_refl _) hz)
      refine dk_iconst C (0) dX6_passes_67 rfl ?_
      refine dk_istore C dX6_passes_68 (by decide) rfl ?_
      exact loop2 nj 0 (by omega) h1 lt_0
    | succ r ih =>
      intro i hi' h1
      have Q := dk_Q0i (n := i) (by omega)
      obtain ⟨s9, c, o, y1, y2, y3, y4, y5, y6⟩ := hq.2.1.2.2 i (by omega)
      obtain ⟨p1, T, p3, p4⟩ := hq.1.2.2 s hs'
      refine dk_iload C dX6_passes_13 rfl ?_
      refine dk_aload_n C dX6_passes_15 rfl rfl ?_
      refine ek_getI C fX6_74 rfl (by decide) rfl dX6_passes_16 ?_
      rw [hq.2.1.1]
      refine dk_icmp_ge C 67 dX6_passes_19 (by decide) (fun hz => absurd hz (nI_ge (by omega) (by omega))) (fun _ => ?_)
      refine dk_aload_n C dX6_passes_22 rfl rfl ?_
      refine ek_getR C fX6_77 rfl (by decide) rfl 16 rfl dX6_passes_23 ?_
      refine dk_iload C dX6_passes_26 rfl ?_
      refine ek_aald C rfl (by decide) (by decide) (i) (rfl) (by omega) (by decide) (17 + i) (dk_RF16 sr (by omega)) dX6_passes_28 ?_
      refine dk_astore C dX6_passes_29 (by decide) rfl ?_
      refine dk_aload C dX6_passes_31 rfl ?_
      refine ek_getI C fX6_81 Q.s0 Q.l0 rfl dX6_passes_33 ?_
      refine dk_iload_n C dX6_passes_36 rfl rfl ?_
      refine dk_icmp_ne C 61 dX6_passes_37 (by decide) (fun c1 => ?_) (fun c1 => ?_)
      · refine dk_iinc C (nI (i + 1)) dX6_passes_61 rfl (nI_1 i) (by decide) rfl ?_
        refine dk_goto C 13 dX6_passes_64 (by decide) ?_
        refine dk_forgetAt 5 ?_
        exact ih (i + 1) (by omega) (lt_s h1 (fun q => absurd q c1))
      · refine dk_aload C dX6_passes_40 rfl ?_
        refine dk_aload_n C dX6_passes_42 rfl rfl ?_
        refine dk_aload_n C dX6_passes_43 rfl rfl ?_
        refine dk_iload_n C dX6_passes_44 rfl rfl ?_
        refine dk_aload C dX6_passes_45 rfl ?_
        refine ek_getI C fX6_86 Q.s0 Q.l0 rfl dX6_passes_47 ?_
        rw [y5]
        have e : psC hi st rp s i ↔ (hi (17 + i) 0 = nI s → cn_b o (rdv hi st rp s c) (hi (17 + i) 3) = true) := by
          unfold psC
          rw [y5, y6, cl_nI (by omega), cl_nI (by omega)]
        refine ek_callV C mX6_89 (c_X6_readValue _ _ _ _ _ s c (rp s) T p1 (by omega) y2 (hrp s (by omega)).1 (hrp s (by omega)).2) rfl (by decide) rfl rfl (Nat.le_of_ble_eq_true rfl) (by decide) (by decide) (Nat.zero_le _) (Nat.zero_le _) dX6_passes_50 ?_
        refine ek_callV C mX6_93 (c_X0_holds _ _ _ _ _ Q _ o y6 y3) Q.s0 Q.l0 rfl rfl (Nat.le_of_ble_eq_true rfl) (by decide) (by decide) (Nat.zero_le _) (Nat.zero_le _) dX6_passes_53 ?_
        refine dk_if_ne C 61 dX6_passes_56 (by decide) (fun c2 => ?_) (fun c2 => ?_)
        · refine dk_iinc C (nI (i + 1)) dX6_passes_61 rfl (nI_1 i) (by decide) rfl ?_
          refine dk_goto C 13 dX6_passes_64 (by decide) ?_
          refine dk_forgetAt 5 ?_
          exact ih (i + 1) (by omega) (lt_s h1 (e.mpr (fun _ => bI_n1 c2)))
        · refine dk_iconst C (0) dX6_passes_59 rfl ?_
          exact dk_zret C E rfl dX6_passes_60 (Nat.zero_le _) (Nat.zero_le _) (⟨pI (bI_f (bP_f (fun q => by have := e.mp (q.1 i (by omega)) c1; rw [bI_n0 c2] at this; exact absurd this (by decide)))), rfl⟩)
  refine dk_aload_n C dX6_passes_0 rfl rfl ?_
  refine ek_getR C fX6_58 rfl (by decide) rfl 34 rfl dX6_passes_1 ?_
  refine dk_aload_n C dX6_passes_4 rfl rfl ?_
  refine ek_getI C fX6_34 rfl (by decide) rfl dX6_passes_5 ?_
  rw [hd]
  refine ek_iald C rfl (by decide) (d) (rfl) (hd') (by decide) dX6_passes_8 ?_
  rw [hs]
  refine dk_istore_n C dX6_passes_9 rfl (by decide) rfl ?_
  refine dk_iconst C (0) dX6_passes_10 rfl ?_
  refine dk_istore C dX6_passes_11 (by decide) rfl ?_
  exact loop1 nc 0 (by omega) lt_0
