/-- the column and the share of a join at the k-th source -/
def pl_jc (hi : Nat → Nat → Int32) (c k : Nat) : Int32 := if hi c 0 = hi 34 k then hi c 1 else hi c 3
def pl_js (hi : Nat → Nat → Int32) (hf : Nat → Nat → UInt32) (j k : Nat) : UInt32 := if hi (22 + j) 0 = hi 34 k then hf 32 j else hf 33 j
set_option maxHeartbeats 4000000 in
set_option maxRecDepth 100000 in
theorem c_X3_considerJoin (G : dk_G) (sr : Nat → Option Nat) (hi : Nat → Nat → Int32) (hf : Nat → Nat → UInt32) (z : (Nat → Nat → Int64) × (Nat → Nat → UInt64)) {ns nc nj : Nat} {st nR : Nat → Nat} (hq : qC hi sr ns nc nj st nR) (k j s c : Nat) (hk : k < 3) (hj4 : j < nj) (hs : hi 34 k = nI s) (hs' : s < ns) (hc : pl_jc hi (22 + j) k = nI c) (hc' : c < 4) (hsh : fb 131 (pl_js hi hf j k)) (b : pl_B) :
    dk_MF G yX3_considerJoin cX3_considerJoin 8 none 2 49 [.ref 30, .ref 14, .int (nI k), .int (nI j)] (pl_hi hi k b, pl_hf hf b, dk_RF sr, z) none (pl_hi hi k (pl_cond b (FP.fmul (FP.i2f (nI (nR s))) (pl_js hi hf j k)) 0 (hi (st s + 3) (c * 2)) (hi (st s + 3) (c * 2 + 1)) (-1) (nI j)), pl_hf hf (pl_cond b (FP.fmul (FP.i2f (nI (nR s))) (pl_js hi hf j k)) 0 (hi (st s + 3) (c * 2)) (hi (st s + 3) (c * 2 + 1)) (-1) (nI j)), dk_RF sr, z) := by
  refine dk_met (L := [some (.ref 30), some (.ref 14), some (.int (nI k)), some (.int (nI j)), none, none, none, none]) pnX3 rfl (Nat.le_of_ble_eq_true rfl) ?_
  intro X C E hNm
  have hns := hq.1.2.1
  have hnj := hq.2.2.1.2.1
  obtain ⟨x1, T, x3, x4⟩ := hq.1.2.2 s hs'
  have Q := dk_Q1i (n := j) (by omega)
  have tl : st s + 3 < 14 := by unfold dk_T at T; omega
  have hx0 := hq.2.2.2 _ T (c * 2) (by omega)
  have hx1 := hq.2.2.2 _ T (c * 2 + 1) (by omega)
  have ek : ∀ b, pl_hi hi k b 34 k = nI s := fun b => by rw [pl_hi_ne (by omega)]; exact hs
  refine dk_aload_n C dX3_considerJoin_0 rfl rfl ?_
  refine ek_getR C fX3_101 rfl (by decide) rfl 21 rfl dX3_considerJoin_1 ?_
  refine dk_iload_n C dX3_considerJoin_4 rfl rfl ?_
  refine ek_aald C rfl (by decide) (by decide) (j) (rfl) (by omega) (by decide) (22 + j) (dk_RF21 sr (by omega)) dX3_considerJoin_5 ?_
  refine dk_astore C dX3_considerJoin_6 (by decide) rfl ?_
  refine dk_aload_n C dX3_considerJoin_8 rfl rfl ?_
  refine ek_getR C fX3_85 rfl (by decide) rfl 15 rfl dX3_considerJoin_9 ?_
  refine dk_aload_n C dX3_considerJoin_12 rfl rfl ?_
  refine ek_getR C fX3_23 rfl (by decide) rfl 34 rfl dX3_considerJoin_13 ?_
  refine dk_iload_n C dX3_considerJoin_16 rfl rfl ?_
  refine ek_iald C rfl (by decide) (k) (rfl) (hk) (by decide) dX3_considerJoin_17 ?_
  refine ek_aald C rfl (by decide) (by decide) (s) (ek b) (by omega) (by decide) (st s) (x1) dX3_considerJoin_18 ?_
  refine dk_astore C dX3_considerJoin_19 (by decide) rfl ?_
  refine dk_aload C dX3_considerJoin_21 rfl ?_
  refine dk_aload_n C dX3_considerJoin_23 rfl rfl ?_
  refine ek_getR C fX3_23 rfl (by decide) rfl 34 rfl dX3_considerJoin_24 ?_
  refine dk_iload_n C dX3_considerJoin_27 rfl rfl ?_
  refine ek_iald C rfl (by decide) (k) (rfl) (hk) (by decide) dX3_considerJoin_28 ?_
  refine ek_callV C mX3_186 (c_X1_columnOf _ _ _ _ _ Q _) Q.s0 Q.l0 rfl rfl (Nat.le_of_ble_eq_true rfl) (by decide) (by decide) (Nat.zero_le _) (Nat.zero_le _) dX3_considerJoin_29 ?_
  have e1 : (if pl_hi hi k b (22 + j) 0 = pl_hi hi k b 34 k then pl_hi hi k b (22 + j) 1 else pl_hi hi k b (22 + j) 3) = nI c := by
    rw [pl_hi_ne (by omega), pl_hi_ne (by omega), pl_hi_ne (by omega), pl_hi_ne (by omega)]; exact hc
  rw [e1]
  refine dk_istore C dX3_considerJoin_32 (by decide) rfl ?_
  refine dk_aload C dX3_considerJoin_34 rfl ?_
  refine ek_getI C fX3_121 T.s0 T.l0 rfl dX3_considerJoin_36 ?_
  rw [pl_hi_ne (by omega), x3]
  refine dk_i2f C dX3_considerJoin_39 ?_
  refine dk_aload_n C dX3_considerJoin_40 rfl rfl ?_
  refine dk_aload C dX3_considerJoin_41 rfl ?_
  refine dk_iload_n C dX3_considerJoin_43 rfl rfl ?_
  refine dk_aload_n C dX3_considerJoin_44 rfl rfl ?_
  refine ek_getR C fX3_23 rfl (by decide) rfl 34 rfl dX3_considerJoin_45 ?_
  refine dk_iload_n C dX3_considerJoin_48 rfl rfl ?_
  refine ek_iald C rfl (by decide) (k) (rfl) (hk) (by decide) dX3_considerJoin_49 ?_
  refine ek_callV C mX3_164 (c_X3_joinShare _ _ _ _ _ Q j (by omega) _) rfl (by decide) rfl rfl (Nat.le_of_ble_eq_true rfl) (by decide) (by decide) (Nat.zero_le _) (Nat.zero_le _) dX3_considerJoin_50 ?_
  have e2 : (if pl_hi hi k b (22 + j) 0 = pl_hi hi k b 34 k then pl_hf hf b 32 j else pl_hf hf b 33 j) = pl_js hi hf j k := by
    rw [pl_hi_ne (by omega), pl_hi_ne (by omega), pl_hf_ne (by decide), pl_hf_ne (by decide)]; rfl
  rw [e2]
  refine dk_fmul C dX3_considerJoin_53 (fb_n (fb_m x4 hsh) (by decide)) ?_
  refine dk_fstore C dX3_considerJoin_54 (by decide) rfl ?_
  generalize hm : FP.fmul (FP.i2f (nI (nR s))) (pl_js hi hf j k) = m
  have hm1 : vf_n32 (FP.fadd FP.fconst1 m) := by rw [← hm]; exact fb_n (fb_m1 x4 hsh) (by decide)
  have hm2 : vf_n32 (FP.fadd FP.fconst2 m) := by rw [← hm]; exact fb_n (fb_m2 x4 hsh) (by decide)
  rw [hm] at E
  have second : ∀ b1, pl_cond b m 0 (hi (st s + 3) (c * 2)) (hi (st s + 3) (c * 2 + 1)) (-1) (nI j) = (if ¬ (0 : Int32) = 3 ∧ ¬ hi (st s + 3) (c * 2 + 1) = 0 then pl_cand b1 (FP.fadd FP.fconst2 m) 2 (-1) (nI j) else b1) → dk_W X 79 [some (.ref 30), some (.ref 14), some (.int (nI k)), some (.int (nI j)), some (.ref (22 + j)), some (.ref (st s)), some (.int (nI c)), some (.float m)] [] 63 (pl_hi hi k b1, pl_hf hf b1, dk_RF sr, z) 0 0 := by
    intro b1 hb
    rw [hb] at E
    refine dk_aload C dX3_considerJoin_79 rfl ?_
    refine dk_iload C dX3_considerJoin_81 rfl ?_
    refine dk_iconst C (1) dX3_considerJoin_83 rfl ?_
    refine ek_callV C mX3_179 (c_X5_hasIndex _ _ _ _ _ T c 1 hc' (by decide) (by rw [pl_hi_ne (by omega)]; exact hx1)) T.s0 T.l0 rfl rfl (Nat.le_of_ble_eq_true rfl) (by decide) (by decide) (Nat.zero_le _) (Nat.zero_le _) dX3_considerJoin_84 ?_
    rw [pl_hi_ne (by omega)]
    refine dk_if_eq C 102 dX3_considerJoin_87 (by decide) (fun c2 => ?_) (fun c2 => ?_)
    · exact dk_vret C E dX3_considerJoin_102 (Nat.zero_le _) (Nat.zero_le _) (⟨rfl, by rw [if_neg (fun q => q.2 c2)]⟩)
    · refine dk_aload_n C dX3_considerJoin_90 rfl rfl ?_
      refine dk_fconst2 C dX3_considerJoin_91 ?_
      refine dk_fload C dX3_considerJoin_92 rfl ?_
      refine dk_fadd C dX3_considerJoin_94 (hm2) ?_
      refine dk_iload_n C dX3_considerJoin_95 rfl rfl ?_
      refine dk_iconst C (2) dX3_considerJoin_96 rfl ?_
      refine dk_iconst C (-1) dX3_considerJoin_97 rfl ?_
      refine dk_iload_n C dX3_considerJoin_98 rfl rfl ?_
      refine ek_callVv C mX3_182 (c_X3_considerWay _ _ _ _ _ k hk b1 _ 2 (-1) (nI j)) rfl (by decide) rfl rfl (Nat.le_of_ble_eq_true rfl) (by decide) (by decide) (Nat.zero_le _) (Nat.zero_le _) dX3_considerJoin_99 ?_
      exact dk_vret C E dX3_considerJoin_102 (Nat.zero_le _) (Nat.zero_le _) (⟨rfl, by rw [if_pos ⟨by decide, c2⟩]⟩)
  refine dk_aload C dX3_considerJoin_56 rfl ?_
  refine dk_iload C dX3_considerJoin_58 rfl ?_
  refine dk_iconst C (0) dX3_considerJoin_60 rfl ?_
  refine ek_callV C mX3_179 (c_X5_hasIndex _ _ _ _ _ T c 0 hc' (by decide) (by rw [pl_hi_ne (by omega)]; exact hx0)) T.s0 T.l0 rfl rfl (Nat.le_of_ble_eq_true rfl) (by decide) (by decide) (Nat.zero_le _) (Nat.zero_le _) dX3_considerJoin_61 ?_
  rw [pl_hi_ne (by omega)]
  refine dk_if_eq C 79 dX3_considerJoin_64 (by decide) (fun c2 => ?_) (fun c2 => ?_)
  · exact second b (by rw [pl_cond, if_neg (show ¬ ((0 : Int32) = 0 ∧ ¬ hi (st s + 3) (c * 2) = 0) from fun q => q.2 c2)])
  · refine dk_aload_n C dX3_considerJoin_67 rfl rfl ?_
    refine dk_fconst1 C dX3_considerJoin_68 ?_
    refine dk_fload C dX3_considerJoin_69 rfl ?_
    refine dk_fadd C dX3_considerJoin_71 (hm1) ?_
    refine dk_iload_n C dX3_considerJoin_72 rfl rfl ?_
    refine dk_iconst C (1) dX3_considerJoin_73 rfl ?_
    refine dk_iconst C (-1) dX3_considerJoin_74 rfl ?_
    refine dk_iload_n C dX3_considerJoin_75 rfl rfl ?_
    refine ek_callVv C mX3_182 (c_X3_considerWay _ _ _ _ _ k hk b _ 1 (-1) (nI j)) rfl (by decide) rfl rfl (Nat.le_of_ble_eq_true rfl) (by decide) (by decide) (Nat.zero_le _) (Nat.zero_le _) dX3_considerJoin_76 ?_
    exact second _ (by rw [pl_cond, if_pos (show (0 : Int32) = 0 ∧ ¬ hi (st s + 3) (c * 2) = 0 from ⟨rfl, c2⟩)])
/-- all conditions on the k-th source, all joins of it with one before, considered -/
def pl_fC (hi : Nat → Nat → Int32) (hf : Nat → Nat → UInt32) (k t n : Nat) : Nat → pl_B → pl_B
  | 0, b => b
  | i + 1, b => if hi (17 + i) 0 = hi 34 k then pl_cond (pl_fC hi hf k t n i b) (FP.fmul (FP.i2f (nI n)) (hf 31 i)) (hi (17 + i) 2) (hi (t + 3) ((hi (17 + i) 1).toNatClampNeg * 2)) (hi (t + 3) ((hi (17 + i) 1).toNatClampNeg * 2 + 1)) (nI i) (-1) else pl_fC hi hf k t n i b
def pl_fJ (hi : Nat → Nat → Int32) (hf : Nat → Nat → UInt32) (k t n : Nat) : Nat → pl_B → pl_B
  | 0, b => b
  | j + 1, b => if pl_ties hi (22 + j) k = true then pl_cond (pl_fJ hi hf k t n j b) (FP.fmul (FP.i2f (nI n)) (pl_js hi hf j k)) 0 (hi (t + 3) ((pl_jc hi (22 + j) k).toNatClampNeg * 2)) (hi (t + 3) ((pl_jc hi (22 + j) k).toNatClampNeg * 2 + 1)) (-1) (nI j) else pl_fJ hi hf k t n j b
def pl_best (hi : Nat → Nat → Int32) (hf : Nat → Nat → UInt32) (k t n nc nj : Nat) : pl_B := pl_fJ hi hf k t n nj (pl_fC hi hf k t n nc (FP.i2f (nI n), 0, -1, -1))
/-- the shares are small -/
def qF (hf : Nat → Nat → UInt32) : Prop := (∀ i, i < 4 → fb 131 (hf 31 i)) ∧ (∀ j, j < 3 → fb 131 (hf 32 j)) ∧ ∀ j, j < 3 → fb 131 (hf 33 j)
theorem qF.js {hf : Nat → Nat → UInt32} (h : qF hf) (hi : Nat → Nat → Int32) {j : Nat} (k : Nat) (hj : j < 3) : fb 131 (pl_js hi hf j k) := by
  unfold pl_js
  split
  · exact h.2.1 j hj
  · exact h.2.2 j hj
theorem pl_ties_hi (hi : Nat → Nat → Int32) (b : pl_B) (j k k' : Nat) (hj : j < 3) : pl_ties (pl_hi hi k' b) (22 + j) k = pl_ties hi (22 + j) k := by
  unfold pl_ties pl_bef
  simp only [pl_hi_ne (hi := hi) (k := k') (b := b) (show 34 < 35 ∨ 37 < 34 by omega), pl_hi_ne (hi := hi) (k := k') (b := b) (show 22 + j < 35 ∨ 37 < 22 + j by omega)]
theorem qC.jc {hi : Nat → Nat → Int32} {sr : Nat → Option Nat} {ns nc nj : Nat} {st nR : Nat → Nat} (h : qC hi sr ns nc nj st nR) (k : Nat) {j : Nat} (hj : j < nj) : ∃ c, c < 4 ∧ pl_jc hi (22 + j) k = nI c := by
  obtain ⟨a, ca, b, cb, y1, y2, y3, y4, y5⟩ := h.2.2.1.2.2 j hj
  unfold pl_jc
  split
  · exact ⟨ca, y1.2.1, y3⟩
  · exact ⟨cb, y1.2.2.2.1, y5⟩
set_option maxHeartbeats 4000000 in
set_option maxRecDepth 100000 in
theorem c_X3_takeBestWay (G : dk_G) (sr : Nat → Option Nat) (hi : Nat → Nat → Int32) (hf : Nat → Nat → UInt32) (z : (Nat → Nat → Int64) × (Nat → Nat → UInt64)) {ns nc nj : Nat} {st nR : Nat → Nat} (hq : qC hi sr ns nc nj st nR) (hF : qF hf) (k s : Nat) (hk : k < 3) (hs : hi 34 k = nI s) (hs' : s < ns) :
    dk_MF G yX3_takeBestWay cX3_takeBestWay 4 none 3 76 [.ref 30, .ref 14, .int (nI k)] (hi, hf, dk_RF sr, z) none (pl_hi hi k (pl_best hi hf k (st s) (nR s) nc nj), pl_hf hf (pl_best hi hf k (st s) (nR s) nc nj), dk_RF sr, z) := by
  refine dk_met (L := [some (.ref 30), some (.ref 14), some (.int (nI k)), none]) pnX3 rfl (Nat.le_of_ble_eq_true rfl) ?_
  intro X C E hNm
  have hns := hq.1.2.1
  have hnc := hq.2.1.2.1
  have hnj := hq.2.2.1.2.1
  obtain ⟨x1, T, x3, x4⟩ := hq.1.2.2 s hs'
  have tl : st s + 3 < 14 := by unfold dk_T at T; omega
  have hcl : ∀ c, c < 4 → (nI c).toNatClampNeg = c := fun c h => nI_clamp (by omega)
  have loop2 : ∀ r j, j + r = nj → dk_W X 70 [some (.ref 30), some (.ref 14), some (.int (nI k)), some (.int (nI j))] [] 63 (pl_hi hi k (pl_fJ hi hf k (st s) (nR s) j (pl_fC hi hf k (st s) (nR s) nc (FP.i2f (nI (nR s)), 0, -1, -1))), pl_hf hf (pl_fJ hi hf k (st s) (nR s) j (pl_fC hi hf k (st s) (nR s) nc (FP.i2f (nI (nR s)), 0, -1, -1))), dk_RF sr, z) 0 0 := by
    intro r
    induction r with
    | zero =>
      intro j hj
      obtain rfl : j = nj := by omega
      refine dk_iload_n C dX3_takeBestWay_70 rfl rfl ?_
      refine dk_aload_n C dX3_takeBestWay_71 rfl rfl ?_
      refine ek_getI C fX3_98 rfl (by decide) rfl dX3_takeBestWay_72 ?_
      rw [pl_hi_ne (by omega), hq.2.2.1.1]
      refine dk_icmp_ge C 105 dX3_takeBestWay_75 (by decide) (fun _ => ?_) (fun hz => absurd (Int32.le_refl _) hz)
      exact dk_vret C E dX3_takeBestWay_105 (Nat.zero_le _) (Nat.zero_le _) (⟨rfl, rfl⟩)
    | succ r ih =>
      intro j hj
      have Q := dk_Q1i (n := j) (by omega)
      obtain ⟨c, hc, ec⟩ := hq.jc k (j := j) (by omega)
      refine dk_iload_n C dX3_takeBestWay_70 rfl rfl ?_
      refine dk_aload_n C dX3_takeBestWay_71 rfl rfl ?_
      refine ek_getI C fX3_98 rfl (by decide) rfl dX3_takeBestWay_72 ?_
      rw [pl_hi_ne (by omega), hq.2.2.1.1]
      refine dk_icmp_ge C 105 dX3_takeBestWay_75 (by decide) (fun hz => absurd hz (nI_ge (by omega) (by omega))) (fun _ => ?_)
      refine dk_aload_n C dX3_takeBestWay_78 rfl rfl ?_
      refine dk_aload_n C dX3_takeBestWay_79 rfl rfl ?_
      refine ek_getR C fX3_101 rfl (by decide) rfl 21 rfl dX3_takeBestWay_80 ?_
      refine dk_iload_n C dX3_takeBestWay_83 rfl rfl ?_
      refine ek_aald C rfl (by decide) (by decide) (j) (rfl) (by omega) (by decide) (22 + j) (dk_RF21 sr (by omega)) dX3_takeBestWay_84 ?_
      refine dk_iload_n C dX3_takeBestWay_85 rfl rfl ?_
      refine ek_callV C mX3_160 (c_X3_tiesBack _ _ _ _ _ Q k hk) rfl (by decide) rfl rfl (Nat.le_of_ble_eq_true rfl) (by decide) (by decide) (Nat.zero_le _) (Nat.zero_le _) dX3_takeBestWay_86 ?_
      rw [pl_ties_hi hi _ j k k (by omega)]
      refine dk_if_eq C 99 dX3_takeBestWay_89 (by decide) (fun c1 => ?_) (fun c1 => ?_)
      · have e : ∀ b, pl_fJ hi hf k (st s) (nR s) (j + 1) b = pl_fJ hi hf k (st s) (nR s) j b := fun b => by rw [pl_fJ, if_neg (by rw [bI_n0 c1]; decide)]
        refine dk_iinc C (nI (j + 1)) dX3_takeBestWay_99 rfl (nI_1 j) (by decide) rfl ?_
        refine dk_goto C 70 dX3_takeBestWay_102 (by decide) ?_
        rw [← e]
        exact ih (j + 1) (by omega)
      · have e : ∀ b, pl_fJ hi hf k (st s) (nR s) (j + 1) b = pl_cond (pl_fJ hi hf k (st s) (nR s) j b) (FP.fmul (FP.i2f (nI (nR s))) (pl_js hi hf j k)) 0 (hi (st s + 3) (c * 2)) (hi (st s + 3) (c * 2 + 1)) (-1) (nI j) := fun b => by
          rw [pl_fJ, if_pos (bI_n1 c1), ec, hcl c hc]
        refine dk_aload_n C dX3_takeBestWay_92 rfl rfl ?_
        refine dk_aload_n C dX3_takeBestWay_93 rfl rfl ?_
        refine dk_iload_n C dX3_takeBestWay_94 rfl rfl ?_
        refine dk_iload_n C dX3_takeBestWay_95 rfl rfl ?_
        refine ek_callVv C mX3_176 (c_X3_considerJoin _ _ hi hf _ hq k j s c hk (by omega) hs hs' ec hc (hF.js hi k (by omega)) _) rfl (by decide) rfl rfl (Nat.le_of_ble_eq_true rfl) (by decide) (by decide) (Nat.zero_le _) (Nat.zero_le _) dX3_takeBestWay_96 ?_
        refine dk_iinc C (nI (j + 1)) dX3_takeBestWay_99 rfl (nI_1 j) (by decide) rfl ?_
        refine dk_goto C 70 dX3_takeBestWay_102 (by decide) ?_
        rw [← e]
        exact ih (j + 1) (by omega)
  have loop1 : ∀ r i, i + r = nc → dk_W X 29 [some (.ref 30), some (.ref 14), some (.int (nI k)), some (.int (nI i))] [] 63 (pl_hi hi k (pl_fC hi hf k (st s) (nR s) i (FP.i2f (nI (nR s)), 0, -1, -1)), pl_hf hf (pl_fC hi hf k (st s) (nR s) i (FP.i2f (nI (nR s)), 0, -1, -1)), dk_RF sr, z) 0 0 := by
    intro r
    induction r with
    | zero =>
      intro i hi'
      obtain rfl : i = nc := by omega
      refine dk_iload_n C dX3_takeBestWay_29 rfl rfl ?_
      refine dk_aload_n C dX3_takeBestWay_30 rfl rfl ?_
      refine ek_getI C fX3_78 rfl (by decide) rfl dX3_takeBestWay_31 ?_
      rw [pl_hi_ne (by omega), hq.2.1.1]
      refine dk_icmp_ge C 68 dX3_takeBestWay_34 (by decide) (fun _ => ?_) (fun hz => absurd (Int32.le_refl _) hz)
      refine dk_iconst C (0) dX3_takeBestWay_68 rfl ?_
      refine dk_istore_n C dX3_takeBestWay_69 rfl (by decide) rfl ?_
      exact loop2 nj 0 (by omega)
    | succ r ih =>
      intro i hi'
      have Q := dk_Q0i (n := i) (by omega)
      obtain ⟨s9, c, o, y1, y2, y3, y4, y5, y6⟩ := hq.2.1.2.2 i (by omega)
      refine dk_iload_n C dX3_takeBestWay_29 rfl rfl ?_
      refine dk_aload_n C dX3_takeBestWay_30 rfl rfl ?_
      refine ek_getI C fX3_78 rfl (by decide) rfl dX3_takeBestWay_31 ?_
      rw [pl_hi_ne (by omega), hq.2.1.1]
      refine dk_icmp_ge C 68 dX3_takeBestWay_34 (by decide) (fun hz => absurd hz (nI_ge (by omega) (by omega))) (fun _ => ?_)
      refine dk_aload_n C dX3_takeBestWay_37 rfl rfl ?_
      refine ek_getR C fX3_81 rfl (by decide) rfl 16 rfl dX3_takeBestWay_38 ?_
      refine dk_iload_n C dX3_takeBestWay_41 rfl rfl ?_
      refine ek_aald C rfl (by decide) (by decide) (i) (rfl) (by omega) (by decide) (17 + i) (dk_RF16 sr (by omega)) dX3_takeBestWay_42 ?_
      refine ek_getI C fX3_89 Q.s0 Q.l0 rfl dX3_takeBestWay_43 ?_
      refine dk_aload_n C dX3_takeBestWay_46 rfl rfl ?_
      refine ek_getR C fX3_23 rfl (by decide) rfl 34 rfl dX3_takeBestWay_47 ?_
      refine dk_iload_n C dX3_takeBestWay_50 rfl rfl ?_
      refine ek_iald C rfl (by decide) (k) (rfl) (hk) (by decide) dX3_takeBestWay_51 ?_
      rw [pl_hi_ne (by omega), pl_hi_ne (by omega)]
      refine dk_icmp_ne C 62 dX3_takeBestWay_52 (by decide) (fun c1 => ?_) (fun c1 => ?_)
      · have e : ∀ b, pl_fC hi hf k (st s) (nR s) (i + 1) b = pl_fC hi hf k (st s) (nR s) i b := fun b => by rw [pl_fC, if_neg c1]
        refine dk_iinc C (nI (i + 1)) dX3_takeBestWay_62 rfl (nI_1 i) (by decide) rfl ?_
        refine dk_goto C 29 dX3_takeBestWay_65 (by decide) ?_
        rw [← e]
        exact ih (i + 1) (by omega)
      · have e : ∀ b, pl_fC hi hf k (st s) (nR s) (i + 1) b = pl_cond (pl_fC hi hf k (st s) (nR s) i b) (FP.fmul (FP.i2f (nI (nR s))) (hf 31 i)) (hi (17 + i) 2) (hi (st s + 3) (c * 2)) (hi (st s + 3) (c * 2 + 1)) (nI i) (-1) := fun b => by
          rw [pl_fC, if_pos c1, y5, hcl c y2]
        refine dk_aload_n C dX3_takeBestWay_55 rfl rfl ?_
        refine dk_aload_n C dX3_takeBestWay_56 rfl rfl ?_
        refine dk_iload_n C dX3_takeBestWay_57 rfl rfl ?_
        refine dk_iload_n C dX3_takeBestWay_58 rfl rfl ?_
        refine ek_callVv C mX3_172 (c_X3_considerCondition _ _ hi hf _ hq k i s c hk (by omega) hs hs' y5 y2 (hF.1 i (by omega)) _) rfl (by decide) rfl rfl (Nat.le_of_ble_eq_true rfl) (by decide) (by decide) (Nat.zero_le _) (Nat.zero_le _) dX3_takeBestWay_59 ?_
        refine dk_iinc C (nI (i + 1)) dX3_takeBestWay_62 rfl (nI_1 i) (by decide) rfl ?_
        refine dk_goto C 29 dX3_takeBestWay_65 (by decide) ?_
        rw [← e]
        exact ih (i + 1) (by omega)
  have e0 : dk_up (dk_up (dk_up hi 35 k 0) 36 k (-1)) 37 k (-1) = pl_hi hi k (FP.i2f (nI (nR s)), 0, -1, -1) := rfl
  refine dk_aload_n C dX3_takeBestWay_0 rfl rfl ?_
  refine dk_iload_n C dX3_takeBestWay_1 rfl rfl ?_
  refine dk_iconst C (0) dX3_takeBestWay_2 rfl ?_
  refine dk_iconst C (-1) dX3_takeBestWay_3 rfl ?_
  refine dk_iconst C (-1) dX3_takeBestWay_4 rfl ?_
  refine ek_callVv C mX3_168 (c_X3_takeWay _ _ _ _ _ k hk 0 (-1) (-1)) rfl (by decide) rfl rfl (Nat.le_of_ble_eq_true rfl) (by decide) (by decide) (Nat.zero_le _) (Nat.zero_le _) dX3_takeBestWay_5 ?_
  rw [e0]
  have e1 : pl_hi hi k (FP.i2f (nI (nR s)), 0, -1, -1) 34 k = nI s := by rw [pl_hi_ne (by omega)]; exact hs
  refine dk_aload_n C dX3_takeBestWay_8 rfl rfl ?_
  refine dk_aload_n C dX3_takeBestWay_9 rfl rfl ?_
  refine ek_getR C fX3_85 rfl (by decide) rfl 15 rfl dX3_takeBestWay_10 ?_
  refine dk_aload_n C dX3_takeBestWay_13 rfl rfl ?_
  refine ek_getR C fX3_23 rfl (by decide) rfl 34 rfl dX3_takeBestWay_14 ?_
  refine dk_iload_n C dX3_takeBestWay_17 rfl rfl ?_
  refine ek_iald C rfl (by decide) (k) (rfl) (hk) (by decide) dX3_takeBestWay_18 ?_
  refine ek_aald C rfl (by decide) (by decide) (s) (e1) (by omega) (by decide) (st s) (x1) dX3_takeBestWay_19 ?_
  refine ek_getI C fX3_121 T.s0 T.l0 rfl dX3_takeBestWay_20 ?_
  rw [pl_hi_ne (by omega), x3]
  refine dk_i2f C dX3_takeBestWay_23 ?_
  refine ek_putF C fX3_152 fwX3_7 rfl (by decide) rfl dX3_takeBestWay_24 ?_
  refine dk_iconst C (0) dX3_takeBestWay_27 rfl ?_
  refine dk_istore_n C dX3_takeBestWay_28 rfl (by decide) rfl ?_
  exact loop1 nc 0 (by omega)
