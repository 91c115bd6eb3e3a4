/-- a number as it stands in a slot -/
abbrev cl (x : Int32) : Nat := x.toNatClampNeg
theorem cl_nI {n : Nat} (h : n < 2 ^ 31) : cl (nI n) = n := nI_clamp h
noncomputable def ms_c (hi : Nat → Nat → Int32) (st nR : Nat → Nat) (i : Nat) : UInt32 := shO (cl (hi (17 + i) 2)) (hi (17 + i) 3) (tb_c hi (st (cl (hi (17 + i) 0))) (cl (hi (17 + i) 1))) (nR (cl (hi (17 + i) 0)))
noncomputable def ms_j (hi : Nat → Nat → Int32) (st nR : Nat → Nat) (c s k : Nat) : UInt32 := sh1 (tb_c hi (st (cl (hi c s))) (cl (hi c k))) (nR (cl (hi c s)))
noncomputable def ms_C (hi : Nat → Nat → Int32) (hf : Nat → Nat → UInt32) (st nR : Nat → Nat) : Nat → Nat → Nat → UInt32
  | 0 => hf
  | i + 1 => dk_up (ms_C hi hf st nR i) 31 i (ms_c hi st nR i)
noncomputable def ms_J (hi : Nat → Nat → Int32) (hf : Nat → Nat → UInt32) (st nR : Nat → Nat) : Nat → Nat → Nat → UInt32
  | 0 => hf
  | j + 1 => dk_up (dk_up (ms_J hi hf st nR j) 32 j (ms_j hi st nR (22 + j) 0 1)) 33 j (ms_j hi st nR (22 + j) 2 3)
theorem dk_up_fb {K : Nat} {hf : Nat → Nat → UInt32} {a b i k : Nat} {v : UInt32} (h : fb K (hf a b)) (hv : fb K v) : fb K (dk_up hf i k v a b) := by
  unfold dk_up
  split
  · exact hv
  · exact h
theorem qF_up {hf : Nat → Nat → UInt32} {i k : Nat} {v : UInt32} (h : qF hf) (hv : fb 131 v) : qF (dk_up hf i k v) :=
  ⟨fun a ha => dk_up_fb (h.1 a ha) hv, fun a ha => dk_up_fb (h.2.1 a ha) hv, fun a ha => dk_up_fb (h.2.2 a ha) hv⟩
theorem ms_c_fb {hi : Nat → Nat → Int32} {sr : Nat → Option Nat} {ns nc nj : Nat} {st nR : Nat → Nat} (hq : qC hi sr ns nc nj st nR) {i : Nat} (h : i < nc) : fb 131 (ms_c hi st nR i) := by
  obtain ⟨s, c, o, y1, y2, y3, y4, y5, y6⟩ := hq.2.1.2.2 i h
  have hns := hq.1.2.1
  unfold ms_c
  rw [y4, cl_nI (by omega)]
  exact fb_shO _ _ _ (hq.1.2.2 s y1).2.2.2
theorem ms_j_fb {hi : Nat → Nat → Int32} {sr : Nat → Option Nat} {ns nc nj : Nat} {st nR : Nat → Nat} (hq : qC hi sr ns nc nj st nR) {j : Nat} (h : j < nj) : fb 131 (ms_j hi st nR (22 + j) 0 1) ∧ fb 131 (ms_j hi st nR (22 + j) 2 3) := by
  obtain ⟨a, ca, b, cb, ⟨y1, y2, y3, y4, y5⟩, y6, y7, y8, y9⟩ := hq.2.2.1.2.2 j h
  have hns := hq.1.2.1
  unfold ms_j
  rw [y6, y8, cl_nI (by omega), cl_nI (by omega)]
  exact ⟨fb_w (fb_sh1 _ (hq.1.2.2 a y1).2.2.2) (by decide), fb_w (fb_sh1 _ (hq.1.2.2 b y3).2.2.2) (by decide)⟩
theorem ms_C_F {hi : Nat → Nat → Int32} {hf : Nat → Nat → UInt32} {sr : Nat → Option Nat} {ns nc nj : Nat} {st nR : Nat → Nat} (hq : qC hi sr ns nc nj st nR) (hF : qF hf) : ∀ i, i ≤ nc → qF (ms_C hi hf st nR i)
  | 0, _ => hF
  | i + 1, h => qF_up (ms_C_F hq hF i (by omega)) (ms_c_fb hq (by omega))
theorem ms_J_F {hi : Nat → Nat → Int32} {hf : Nat → Nat → UInt32} {sr : Nat → Option Nat} {ns nc nj : Nat} {st nR : Nat → Nat} (hq : qC hi sr ns nc nj st nR) (hF : qF hf) : ∀ i, i ≤ nj → qF (ms_J hi hf st nR i)
  | 0, _ => hF
  | i + 1, h => qF_up (qF_up (ms_J_F hq hF i (by omega)) (ms_j_fb hq (by omega)).1) (ms_j_fb hq (by omega)).2
noncomputable def ms_F (hi : Nat → Nat → Int32) (hf : Nat → Nat → UInt32) (st nR : Nat → Nat) (nc nj : Nat) : Nat → Nat → UInt32 := ms_J hi (ms_C hi hf st nR nc) st nR nj
set_option maxHeartbeats 4000000 in
set_option maxRecDepth 100000 in
theorem c_X3_measureShares (G : dk_G) (sr : Nat → Option Nat) (hi : Nat → Nat → Int32) (hf : Nat → Nat → UInt32) (z : (Nat → Nat → Int64) × (Nat → Nat → UInt64)) {ns nc nj : Nat} {st nR : Nat → Nat} (hq : qC hi sr ns nc nj st nR) :
    dk_MF G yX3_measureShares cX3_measureShares 4 none 5 112 [.ref 30, .ref 14] (hi, hf, dk_RF sr, z) none (hi, ms_F hi hf st nR nc nj, dk_RF sr, z) := by
  refine dk_met (L := [some (.ref 30), some (.ref 14), none, none]) pnX3 rfl (Nat.le_of_ble_eq_true rfl) ?_
  intro X C E hNm
  have hns := hq.1.2.1
  have hnc := hq.2.1.2.1
  have hnj := hq.2.2.1.2.1
  have loop2 : ∀ r j, j + r = nj → dk_W X 44 [some (.ref 30), some (.ref 14), some (.int (nI j)), none] [] 63 (hi, ms_J hi (ms_C hi hf st nR nc) st nR j, dk_RF sr, z) 0 0 := by
    intro r
    induction r with
    | zero =>
      intro j hj
      obtain rfl : j = nj := by omega
      refine dk_iload_n C dX3_measureShares_44 rfl rfl ?_
      refine dk_aload_n C dX3_measureShares_45 rfl rfl ?_
      refine ek_getI C fX3_98 rfl (by decide) rfl dX3_measureShares_46 ?_
      rw [hq.2.2.1.1]
      refine dk_icmp_ge C 109 dX3_measureShares_49 (by decide) (fun _ => ?_) (fun hz => absurd (Int32.le_refl _) hz)
      exact dk_vret C E dX3_measureShares_109 (Nat.zero_le _) (Nat.zero_le _) (⟨rfl, rfl⟩)
    | succ r ih =>
      intro j hj
      have Q := dk_Q1i (n := j) (by omega)
      obtain ⟨a, ca, b, cb, ⟨y1, y2, y3, y4, y5⟩, y6, y7, y8, y9⟩ := hq.2.2.1.2.2 j (by omega)
      obtain ⟨p1, Ta, p3, p4⟩ := hq.1.2.2 a y1
      obtain ⟨q1, Tb, q3, q4⟩ := hq.1.2.2 b y3
      refine dk_iload_n C dX3_measureShares_44 rfl rfl ?_
      refine dk_aload_n C dX3_measureShares_45 rfl rfl ?_
      refine ek_getI C fX3_98 rfl (by decide) rfl dX3_measureShares_46 ?_
      rw [hq.2.2.1.1]
      refine dk_icmp_ge C 109 dX3_measureShares_49 (by decide) (fun hz => absurd hz (nI_ge (by omega) (by omega))) (fun _ => ?_)
      refine dk_aload_n C dX3_measureShares_52 rfl rfl ?_
      refine ek_getR C fX3_101 rfl (by decide) rfl 21 rfl dX3_measureShares_53 ?_
      refine dk_iload_n C dX3_measureShares_56 rfl rfl ?_
      refine ek_aald C rfl (by decide) (by decide) (j) (rfl) (by omega) (by decide) (22 + j) (dk_RF21 sr (by omega)) dX3_measureShares_57 ?_
      refine dk_astore_n C dX3_measureShares_58 rfl (by decide) rfl ?_
      refine dk_aload_n C dX3_measureShares_59 rfl rfl ?_
      refine ek_getR C fX3_17 rfl (by decide) rfl 32 rfl dX3_measureShares_60 ?_
      refine dk_iload_n C dX3_measureShares_63 rfl rfl ?_
      refine dk_aload_n C dX3_measureShares_64 rfl rfl ?_
      refine ek_getR C fX3_85 rfl (by decide) rfl 15 rfl dX3_measureShares_65 ?_
      refine dk_aload_n C dX3_measureShares_68 rfl rfl ?_
      refine ek_getI C fX3_105 Q.s0 Q.l0 rfl dX3_measureShares_69 ?_
      refine ek_aald C rfl (by decide) (by decide) (a) (y6) (by omega) (by decide) (st a) (p1) dX3_measureShares_72 ?_
      refine dk_aload_n C dX3_measureShares_73 rfl rfl ?_
      refine ek_getI C fX3_108 Q.s0 Q.l0 rfl dX3_measureShares_74 ?_
      rw [y7]
      have e1 : sh1 (tb_c hi (st a) ca) (nR a) = ms_j hi st nR (22 + j) 0 1 := by rw [ms_j, y6, y7, cl_nI (by omega), cl_nI (by omega)]
      have e2 : sh1 (tb_c hi (st b) cb) (nR b) = ms_j hi st nR (22 + j) 2 3 := by rw [ms_j, y8, y9, cl_nI (by omega), cl_nI (by omega)]
      refine ek_callS C mX3_111 (c_X3_shareOfOneValue _ _ _ _ _ Ta ca (nR a) y2 p3 p4) rfl rfl (Nat.le_of_ble_eq_true rfl) (by decide) (by decide) (Nat.zero_le _) (Nat.zero_le _) dX3_measureShares_77 ?_
      refine ek_fast C rfl (by decide) (j) (rfl) (by omega) (by decide) dX3_measureShares_80 ?_
      refine dk_aload_n C dX3_measureShares_81 rfl rfl ?_
      refine ek_getR C fX3_20 rfl (by decide) rfl 33 rfl dX3_measureShares_82 ?_
      refine dk_iload_n C dX3_measureShares_85 rfl rfl ?_
      refine dk_aload_n C dX3_measureShares_86 rfl rfl ?_
      refine ek_getR C fX3_85 rfl (by decide) rfl 15 rfl dX3_measureShares_87 ?_
      refine dk_aload_n C dX3_measureShares_90 rfl rfl ?_
      refine ek_getI C fX3_115 Q.s0 Q.l0 rfl dX3_measureShares_91 ?_
      refine ek_aald C rfl (by decide) (by decide) (b) (y8) (by omega) (by decide) (st b) (q1) dX3_measureShares_94 ?_
      refine dk_aload_n C dX3_measureShares_95 rfl rfl ?_
      refine ek_getI C fX3_118 Q.s0 Q.l0 rfl dX3_measureShares_96 ?_
      rw [y9]
      refine ek_callS C mX3_111 (c_X3_shareOfOneValue _ _ _ _ _ Tb cb (nR b) y4 q3 q4) rfl rfl (Nat.le_of_ble_eq_true rfl) (by decide) (by decide) (Nat.zero_le _) (Nat.zero_le _) dX3_measureShares_99 ?_
      refine ek_fast C rfl (by decide) (j) (rfl) (by omega) (by decide) dX3_measureShares_102 ?_
      refine dk_iinc C (nI (j + 1)) dX3_measureShares_103 rfl (nI_1 j) (by decide) rfl ?_
      refine dk_goto C 44 dX3_measureShares_106 (by decide) ?_
      rw [e1, e2]
      refine dk_forgetAt 3 ?_
      exact ih (j + 1) (by omega)
  have loop1 : ∀ r i, i + r = nc → dk_W X 2 [some (.ref 30), some (.ref 14), some (.int (nI i)), none] [] 63 (hi, ms_C hi hf st nR i, dk_RF sr, z) 0 0 := by
    intro r
    induction r with
    | zero =>
      intro i hi'
      obtain rfl : i = nc := by omega
      refine dk_iload_n C dX3_measureShares_2 rfl rfl ?_
      refine dk_aload_n C dX3_measureShares_3 rfl rfl ?_
      refine ek_getI C fX3_78 rfl (by decide) rfl dX3_measureShares_4 ?_
      rw [hq.2.1.1]
      refine dk_icmp_ge C 42 dX3_measureShares_7 (by decide) (fun _ => ?_) (fun hz => absurd (Int32.le_refl _) hz)
      refine dk_iconst C (0) dX3_measureShares_42 rfl ?_
      refine dk_istore_n C dX3_measureShares_43 rfl (by decide) rfl ?_
      exact loop2 nj 0 (by omega)
    | succ r ih =>
      intro i hi'
      have Q := dk_Q0i (n := i) (by omega)
      obtain ⟨s, c, o, y1, y2, y3, y4, y5, y6⟩ := hq.2.1.2.2 i (by omega)
      obtain ⟨p1, T, p3, p4⟩ := hq.1.2.2 s y1
      have e1 : shO o (hi (17 + i) 3) (tb_c hi (st s) c) (nR s) = ms_c hi st nR i := by rw [ms_c, y4, y5, y6, cl_nI (by omega), cl_nI (by omega), cl_nI (by omega)]
      refine dk_iload_n C dX3_measureShares_2 rfl rfl ?_
      refine dk_aload_n C dX3_measureShares_3 rfl rfl ?_
      refine ek_getI C fX3_78 rfl (by decide) rfl dX3_measureShares_4 ?_
      rw [hq.2.1.1]
      refine dk_icmp_ge C 42 dX3_measureShares_7 (by decide) (fun hz => absurd hz (nI_ge (by omega) (by omega))) (fun _ => ?_)
      refine dk_aload_n C dX3_measureShares_10 rfl rfl ?_
      refine ek_getR C fX3_81 rfl (by decide) rfl 16 rfl dX3_measureShares_11 ?_
      refine dk_iload_n C dX3_measureShares_14 rfl rfl ?_
      refine ek_aald C rfl (by decide) (by decide) (i) (rfl) (by omega) (by decide) (17 + i) (dk_RF16 sr (by omega)) dX3_measureShares_15 ?_
      refine dk_astore_n C dX3_measureShares_16 rfl (by decide) rfl ?_
      refine dk_aload_n C dX3_measureShares_17 rfl rfl ?_
      refine ek_getR C fX3_11 rfl (by decide) rfl 31 rfl dX3_measureShares_18 ?_
      refine dk_iload_n C dX3_measureShares_21 rfl rfl ?_
      refine dk_aload_n C dX3_measureShares_22 rfl rfl ?_
      refine dk_aload_n C dX3_measureShares_23 rfl rfl ?_
      refine ek_getR C fX3_85 rfl (by decide) rfl 15 rfl dX3_measureShares_24 ?_
      refine dk_aload_n C dX3_measureShares_27 rfl rfl ?_
      refine ek_getI C fX3_89 Q.s0 Q.l0 rfl dX3_measureShares_28 ?_
      refine ek_aald C rfl (by decide) (by decide) (s) (y4) (by omega) (by decide) (st s) (p1) dX3_measureShares_31 ?_
      refine ek_callS C mX3_94 (c_X3_shareOf _ _ _ _ _ T Q c o (nR s) y5 y2 y6 y3 p3 p4) rfl rfl (Nat.le_of_ble_eq_true rfl) (by decide) (by decide) (Nat.zero_le _) (Nat.zero_le _) dX3_measureShares_32 ?_
      refine ek_fast C rfl (by decide) (i) (rfl) (by omega) (by decide) dX3_measureShares_35 ?_
      refine dk_iinc C (nI (i + 1)) dX3_measureShares_36 rfl (nI_1 i) (by decide) rfl ?_
      refine dk_goto C 2 dX3_measureShares_39 (by decide) ?_
      rw [e1]
      refine dk_forgetAt 3 ?_
      exact ih (i + 1) (by omega)
  refine dk_iconst C (0) dX3_measureShares_0 rfl ?_
  refine dk_istore_n C dX3_measureShares_1 rfl (by decide) rfl ?_
  exact loop1 nc 0 (by omega)
/-- orders tried one behind the other: heaps, the best order's number, the least cost -/
def pl_ch (hi : Nat → Nat → Int32) (hf : Nat → Nat → UInt32) (st nR : Nat → Nat) (ns nc nj : Nat) : Nat → (Nat → Nat → Int32) × (Nat → Nat → UInt32) × Nat × UInt32
  | 0 => ((pl_try hi hf (pl_od ns 0) st nR nc nj ns).1, (pl_try hi hf (pl_od ns 0) st nR nc nj ns).2.1, 0, (pl_try hi hf (pl_od ns 0) st nR nc nj ns).2.2.2)
  | i + 1 =>
    let q := pl_ch hi hf st nR ns nc nj i
    let p := pl_try q.1 q.2.1 (pl_od ns (i + 1)) st nR nc nj ns
    (p.1, p.2.1, if 0 ≤ Op.cmpValue (FP.fcmp p.2.2.2 q.2.2.2) .g then q.2.2.1 else i + 1, if 0 ≤ Op.cmpValue (FP.fcmp p.2.2.2 q.2.2.2) .g then q.2.2.2 else p.2.2.2)
theorem pl_ch_fr {hi : Nat → Nat → Int32} {hf : Nat → Nat → UInt32} {st nR : Nat → Nat} {ns nc nj : Nat} : ∀ k, (∀ i j, i < 34 ∨ 37 < i → (pl_ch hi hf st nR ns nc nj k).1 i j = hi i j) ∧ (∀ i j, i ≠ 30 → (pl_ch hi hf st nR ns nc nj k).2.1 i j = hf i j) ∧ (pl_ch hi hf st nR ns nc nj k).2.2.1 ≤ k
  | 0 => ⟨(pl_try_fr ns).1, (pl_try_fr ns).2, Nat.le_refl 0⟩
  | k + 1 => by
    obtain ⟨h1, h2, h3⟩ := pl_ch_fr (hi := hi) (hf := hf) (st := st) (nR := nR) (ns := ns) (nc := nc) (nj := nj) k
    refine ⟨fun i j h => ?_, fun i j h => ?_, ?_⟩
    · exact ((pl_try_fr ns).1 i j h).trans (h1 i j h)
    · exact ((pl_try_fr ns).2 i j h).trans (h2 i j h)
    · show (if _ then _ else _) ≤ _
      split
      · exact Nat.le_succ_of_le h3
      · exact Nat.le_refl _
/-- what choose answers and leaves -/
noncomputable def pl_fin (hi : Nat → Nat → Int32) (hf : Nat → Nat → UInt32) (st nR : Nat → Nat) (ns nc nj : Nat) : (Nat → Nat → Int32) × (Nat → Nat → UInt32) × UInt32 × UInt32 :=
  pl_try (pl_ch hi (ms_F hi hf st nR nc nj) st nR ns nc nj (pl_oc ns - 1)).1 (pl_ch hi (ms_F hi hf st nR nc nj) st nR ns nc nj (pl_oc ns - 1)).2.1 (pl_od ns (pl_ch hi (ms_F hi hf st nR nc nj) st nR ns nc nj (pl_oc ns - 1)).2.2.1) st nR nc nj ns
set_option maxHeartbeats 4000000 in
set_option maxRecDepth 100000 in
theorem c_X3_choose (G : dk_G) (sr : Nat → Option Nat) (hi : Nat → Nat → Int32) (hf : Nat → Nat → UInt32) (z : (Nat → Nat → Int64) × (Nat → Nat → UInt64)) {ns nc nj : Nat} {st nR : Nat → Nat} (hq : qC hi sr ns nc nj st nR) (hF : qF hf) (hns1 : 1 ≤ ns) :
    dk_MF G yX3_choose cX3_choose 7 (some .float) 6 135 [.ref 30, .ref 14] (hi, hf, dk_RF sr, z) (some (.float (pl_fin hi hf st nR ns nc nj).2.2.2)) ((pl_fin hi hf st nR ns nc nj).1, (pl_fin hi hf st nR ns nc nj).2.1, dk_RF sr, z) := by
  refine dk_met (L := [some (.ref 30), some (.ref 14), none, none, none, none, none]) pnX3 rfl (Nat.le_of_ble_eq_true rfl) ?_
  intro X C E hNm
  have hns := hq.1.2.1
  have hnc := hq.2.1.2.1
  have hnj := hq.2.2.1.2.1
  have hoc : 1 ≤ pl_oc ns ∧ pl_oc ns ≤ 6 := by unfold pl_oc; split <;> omega
  have hF2 : qF (ms_F hi hf st nR nc nj) := ms_J_F hq (ms_C_F hq hF nc (Nat.le_refl _)) nj (Nat.le_refl _)
  have cms := c_X3_measureShares G sr hi hf z hq
  rw [pl_fin] at E
  generalize ms_F hi hf st nR nc nj = hf2 at *
  have hpq : ∀ m, qC (pl_ch hi hf2 st nR ns nc nj m).1 sr ns nc nj st nR := fun m => hq.fr (fun i j h => (pl_ch_fr m).1 i j (by omega))
  have hpF : ∀ m, qF (pl_ch hi hf2 st nR ns nc nj m).2.1 := fun m => hF2.fr (pl_ch_fr m).2.1
  have hoce : (if ns = 3 then 6 else ns) = pl_oc ns := rfl
  have loop : ∀ r m, m + r + 1 = pl_oc ns → dk_W X 27 [some (.ref 30), some (.ref 14), some (.retAddr (pl_o ns)), some (.int (nI (pl_ch hi hf2 st nR ns nc nj m).2.2.1)), some (.float (pl_ch hi hf2 st nR ns nc nj m).2.2.2), some (.int (nI (m + 1))), none] [] 63 ((pl_ch hi hf2 st nR ns nc nj m).1, (pl_ch hi hf2 st nR ns nc nj m).2.1, dk_RF sr, z) 0 0 := by
    intro r
    induction r with
    | zero =>
      intro m hm
      have e14 := (hpq m).1.1
      have hbest := (pl_ch_fr (hi := hi) (hf := hf2) (st := st) (nR := nR) (ns := ns) (nc := nc) (nj := nj) m).2.2
      have em : pl_oc ns - 1 = m := by omega
      rw [em] at E
      refine dk_iload C dX3_choose_27 rfl ?_
      refine dk_aload_n C dX3_choose_29 rfl rfl ?_
      refine ek_getI C fX3_40 rfl (by decide) rfl dX3_choose_30 ?_
      rw [e14]
      refine ek_callS C mX3_52 (c_X3_orderCountOf _ _ _ _ _ ns (by omega)) rfl rfl (Nat.le_of_ble_eq_true rfl) (by decide) (by decide) (Nat.zero_le _) (Nat.zero_le _) dX3_choose_33 ?_
      rw [hoce]
      refine dk_icmp_ge C 70 dX3_choose_36 (by decide) (fun _ => ?_) (fun hz => absurd (by rw [show m + 1 = pl_oc ns by omega]; exact Int32.le_refl _) hz)
      refine dk_aload_n C dX3_choose_70 rfl rfl ?_
      refine dk_aload_n C dX3_choose_71 rfl rfl ?_
      refine dk_rload_n C dX3_choose_72 rfl rfl ?_
      refine dk_iload_n C dX3_choose_73 rfl rfl ?_
      refine ek_callV C mX3_48 (c_X3_tryOrder _ _ _ _ _ (hpq m) (hpF m) hns1 _ (by omega)) rfl (by decide) rfl rfl (Nat.le_of_ble_eq_true rfl) (by decide) (by decide) (Nat.zero_le _) (Nat.zero_le _) dX3_choose_74 ?_
      exact dk_fret C E dX3_choose_77 (Nat.zero_le _) (Nat.zero_le _) (⟨rfl, rfl⟩)
    | succ r ih =>
      intro m hm
      have e14 := (hpq m).1.1
      have hstep : pl_ch hi hf2 st nR ns nc nj (m + 1) = ((pl_try (pl_ch hi hf2 st nR ns nc nj m).1 (pl_ch hi hf2 st nR ns nc nj m).2.1 (pl_od ns (m + 1)) st nR nc nj ns).1, (pl_try (pl_ch hi hf2 st nR ns nc nj m).1 (pl_ch hi hf2 st nR ns nc nj m).2.1 (pl_od ns (m + 1)) st nR nc nj ns).2.1, if 0 ≤ Op.cmpValue (FP.fcmp (pl_try (pl_ch hi hf2 st nR ns nc nj m).1 (pl_ch hi hf2 st nR ns nc nj m).2.1 (pl_od ns (m + 1)) st nR nc nj ns).2.2.2 (pl_ch hi hf2 st nR ns nc nj m).2.2.2) .g then (pl_ch hi hf2 st nR ns nc nj m).2.2.1 else m + 1, if 0 ≤ Op.cmpValue (FP.fcmp (pl_try (pl_ch hi hf2 st nR ns nc nj m).1 (pl_ch hi hf2 st nR ns nc nj m).2.1 (pl_od ns (m + 1)) st nR nc nj ns).2.2.2 (pl_ch hi hf2 st nR ns nc nj m).2.2.2) .g then (pl_ch hi hf2 st nR ns nc nj m).2.2.2 else (pl_try (pl_ch hi hf2 st nR ns nc nj m).1 (pl_ch hi hf2 st nR ns nc nj m).2.1 (pl_od ns (m + 1)) st nR nc nj ns).2.2.2) := rfl
      have h9 := ih (m + 1) (by omega)
      rw [hstep] at h9
      refine dk_iload C dX3_choose_27 rfl ?_
      refine dk_aload_n C dX3_choose_29 rfl rfl ?_
      refine ek_getI C fX3_40 rfl (by decide) rfl dX3_choose_30 ?_
      rw [e14]
      refine ek_callS C mX3_52 (c_X3_orderCountOf _ _ _ _ _ ns (by omega)) rfl rfl (Nat.le_of_ble_eq_true rfl) (by decide) (by decide) (Nat.zero_le _) (Nat.zero_le _) dX3_choose_33 ?_
      rw [hoce]
      refine dk_icmp_ge C 70 dX3_choose_36 (by decide) (fun hz => absurd hz (nI_ge (by omega) (by omega))) (fun _ => ?_)
      refine dk_aload_n C dX3_choose_39 rfl rfl ?_
      refine dk_aload_n C dX3_choose_40 rfl rfl ?_
      refine dk_rload_n C dX3_choose_41 rfl rfl ?_
      refine dk_iload C dX3_choose_42 rfl ?_
      refine ek_callV C mX3_48 (c_X3_tryOrder _ _ _ _ _ (hpq m) (hpF m) hns1 (m + 1) (by omega)) rfl (by decide) rfl rfl (Nat.le_of_ble_eq_true rfl) (by decide) (by decide) (Nat.zero_le _) (Nat.zero_le _) dX3_choose_44 ?_
      refine dk_fstore C dX3_choose_47 (by decide) rfl ?_
      refine dk_fload C dX3_choose_49 rfl ?_
      refine dk_fload C dX3_choose_51 rfl ?_
      refine dk_fcmp C dX3_choose_53 ?_
      refine dk_if_ge C 64 dX3_choose_54 (by decide) (fun c1 => ?_) (fun c1 => ?_)
      · rw [if_pos c1, if_pos c1] at h9
        refine dk_iinc C (nI (m + 1 + 1)) dX3_choose_64 rfl (nI_1 _) (by decide) rfl ?_
        refine dk_goto C 27 dX3_choose_67 (by decide) ?_
        refine dk_forgetAt 6 ?_
        exact h9
      · rw [if_neg c1, if_neg c1] at h9
        refine dk_iload C dX3_choose_57 rfl ?_
        refine dk_istore_n C dX3_choose_59 rfl (by decide) rfl ?_
        refine dk_fload C dX3_choose_60 rfl ?_
        refine dk_fstore C dX3_choose_62 (by decide) rfl ?_
        refine dk_iinc C (nI (m + 1 + 1)) dX3_choose_64 rfl (nI_1 _) (by decide) rfl ?_
        refine dk_goto C 27 dX3_choose_67 (by decide) ?_
        refine dk_forgetAt 6 ?_
        exact h9
  refine dk_aload_n C dX3_choose_0 rfl rfl ?_
  refine dk_aload_n C dX3_choose_1 rfl rfl ?_
  refine ek_callVv C mX3_36 (cms) rfl (by decide) rfl rfl (Nat.le_of_ble_eq_true rfl) (by decide) (by decide) (Nat.zero_le _) (Nat.zero_le _) dX3_choose_2 ?_
  refine dk_aload_n C dX3_choose_5 rfl rfl ?_
  refine ek_getI C fX3_40 rfl (by decide) rfl dX3_choose_6 ?_
  rw [hq.1.1]
  refine ek_callS C mX3_44 (c_X3_ordersOf _ _ _ _ _ ns hns) rfl rfl (Nat.le_of_ble_eq_true rfl) (by decide) (by decide) (Nat.zero_le _) (Nat.zero_le _) dX3_choose_9 ?_
  refine dk_rstore_n C dX3_choose_12 rfl (by decide) rfl ?_
  refine dk_iconst C (0) dX3_choose_13 rfl ?_
  refine dk_istore_n C dX3_choose_14 rfl (by decide) rfl ?_
  refine dk_aload_n C dX3_choose_15 rfl rfl ?_
  refine dk_aload_n C dX3_choose_16 rfl rfl ?_
  refine dk_rload_n C dX3_choose_17 rfl rfl ?_
  refine dk_iconst C (0) dX3_choose_18 rfl ?_
  refine ek_callV C mX3_48 (c_X3_tryOrder _ _ _ _ _ hq hF2 hns1 0 (by omega)) rfl (by decide) rfl rfl (Nat.le_of_ble_eq_true rfl) (by decide) (by decide) (Nat.zero_le _) (Nat.zero_le _) dX3_choose_19 ?_
  refine dk_fstore C dX3_choose_22 (by decide) rfl ?_
  refine dk_iconst C (1) dX3_choose_24 rfl ?_
  refine dk_istore C dX3_choose_25 (by decide) rfl ?_
  exact loop (pl_oc ns - 1) 0 (by omega)
