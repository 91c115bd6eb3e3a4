/-! ===== QueryDesk$Plan: the best way, the count behind ===== -/
theorem pl_hi_ne {hi : Nat → Nat → Int32} {k i j : Nat} {b : pl_B} (h : i < 35 ∨ 37 < i) : pl_hi hi k b i j = hi i j := by
  unfold pl_hi
  rw [dk_up_ne _ _ (Or.inl (by omega)), dk_up_ne _ _ (Or.inl (by omega)), dk_up_ne _ _ (Or.inl (by omega))]
theorem pl_hf_ne {hf : Nat → Nat → UInt32} {i j : Nat} {b : pl_B} (h : i ≠ 30) : pl_hf hf b i j = hf i j := dk_up_ne _ _ (Or.inl h)
/-- the question as the class holds it: sources, conditions, joins; the indices' marks -/
def qC (hi : Nat → Nat → Int32) (sr : Nat → Option Nat) (ns nc nj : Nat) (st nR : Nat → Nat) : Prop :=
  (hi 14 4 = nI ns ∧ ns ≤ 3 ∧ ∀ s, s < ns → sr s = some (st s) ∧ dk_T (st s) ∧ hi (st s) 4 = nI (nR s) ∧ nR s ≤ 24) ∧
  (hi 14 5 = nI nc ∧ nc ≤ 4 ∧ ∀ i, i < nc → ∃ s c o, s < ns ∧ c < 4 ∧ o < 4 ∧ hi (17 + i) 0 = nI s ∧ hi (17 + i) 1 = nI c ∧ hi (17 + i) 2 = nI o) ∧
  (hi 14 6 = nI nj ∧ nj ≤ 3 ∧ ∀ j, j < nj → ∃ a ca b cb, (a < ns ∧ ca < 4 ∧ b < ns ∧ cb < 4 ∧ a ≠ b) ∧ hi (22 + j) 0 = nI a ∧ hi (22 + j) 1 = nI ca ∧ hi (22 + j) 2 = nI b ∧ hi (22 + j) 3 = nI cb) ∧
  ∀ t, dk_T t → ∀ q, q < 8 → hi (t + 3) q = 0 ∨ hi (t + 3) q = 1
theorem qC.fr {hi hi' : Nat → Nat → Int32} {sr : Nat → Option Nat} {ns nc nj : Nat} {st nR : Nat → Nat} (h : qC hi sr ns nc nj st nR) (hh : ∀ i j, i < 30 → hi' i j = hi i j) : qC hi' sr ns nc nj st nR := by
  obtain ⟨⟨a1, a2, a3⟩, ⟨b1, b2, b3⟩, ⟨c1, c2, c3⟩, d⟩ := h
  refine ⟨⟨by rw [hh _ _ (by decide)]; exact a1, a2, fun s hs => ?_⟩, ⟨by rw [hh _ _ (by decide)]; exact b1, b2, fun i hi' => ?_⟩, ⟨by rw [hh _ _ (by decide)]; exact c1, c2, fun j hj => ?_⟩, fun t T q hq => ?_⟩
  · obtain ⟨x1, x2, x3, x4⟩ := a3 s hs
    exact ⟨x1, x2, by rw [hh _ _ (by have := x2; unfold dk_T at this; omega)]; exact x3, x4⟩
  · obtain ⟨s, c, o, y1, y2, y3, y4, y5, y6⟩ := b3 i hi'
    exact ⟨s, c, o, y1, y2, y3, by rw [hh _ _ (by omega)]; exact y4, by rw [hh _ _ (by omega)]; exact y5, by rw [hh _ _ (by omega)]; exact y6⟩
  · obtain ⟨a, ca, b, cb, y1, y2, y3, y4, y5⟩ := c3 j hj
    exact ⟨a, ca, b, cb, y1, by rw [hh _ _ (by omega)]; exact y2, by rw [hh _ _ (by omega)]; exact y3, by rw [hh _ _ (by omega)]; exact y4, by rw [hh _ _ (by omega)]; exact y5⟩
  · rw [hh _ _ (by unfold dk_T at T; omega)]; exact d t T q hq
/-- one condition, one join considered: marks x0 (HASH), x1 (ORDERED); m the rows that match -/
def pl_cond (b : pl_B) (m : UInt32) (o x0 x1 : Int32) (c j : Int32) : pl_B :=
  let b1 := if o = 0 ∧ ¬ x0 = 0 then pl_cand b (FP.fadd FP.fconst1 m) 1 c j else b
  if ¬ o = 3 ∧ ¬ x1 = 0 then pl_cand b1 (FP.fadd FP.fconst2 m) 2 c j else b1
theorem fb_m {n : Nat} {x : UInt32} (hn : n ≤ 24) (h : fb 131 x) : fb 138 (FP.fmul (FP.i2f (nI n)) x) := fb_w (fb_mul (fb_i hn) h (by decide) (by decide)) (by decide)
theorem fb_m1 {n : Nat} {x : UInt32} (hn : n ≤ 24) (h : fb 131 x) : fb 140 (FP.fadd FP.fconst1 (FP.fmul (FP.i2f (nI n)) x)) := fb_w (fb_add (fb_w fb_1 (by decide)) (fb_m hn h) (by decide)) (by decide)
theorem fb_m2 {n : Nat} {x : UInt32} (hn : n ≤ 24) (h : fb 131 x) : fb 140 (FP.fadd FP.fconst2 (FP.fmul (FP.i2f (nI n)) x)) := fb_w (fb_add (fb_w fb_2 (by decide)) (fb_m hn h) (by decide)) (by decide)
set_option maxHeartbeats 4000000 in
set_option maxRecDepth 100000 in
theorem c_X3_considerCondition (G : dk_G) (sr : Nat → Option Nat) (hi : Nat → Nat → Int32) (hf : Nat → Nat → UInt32) (z : (Nat → Nat → Int64) × (Nat → Nat → UInt64)) {ns nc nj : Nat} {st nR : Nat → Nat} (hq : qC hi sr ns nc nj st nR) (k i s c : Nat) (hk : k < 3) (hi4 : i < nc) (hs : hi 34 k = nI s) (hs' : s < ns) (hc : hi (17 + i) 1 = nI c) (hc' : c < 4) (hsh : fb 131 (hf 31 i)) (b : pl_B) :
    dk_MF G yX3_considerCondition cX3_considerCondition 7 none 2 49 [.ref 30, .ref 14, .int (nI k), .int (nI i)] (pl_hi hi k b, pl_hf hf b, dk_RF sr, z) none (pl_hi hi k (pl_cond b (FP.fmul (FP.i2f (nI (nR s))) (hf 31 i)) (hi (17 + i) 2) (hi (st s + 3) (c * 2)) (hi (st s + 3) (c * 2 + 1)) (nI i) (-1)), pl_hf hf (pl_cond b (FP.fmul (FP.i2f (nI (nR s))) (hf 31 i)) (hi (17 + i) 2) (hi (st s + 3) (c * 2)) (hi (st s + 3) (c * 2 + 1)) (nI i) (-1)), dk_RF sr, z) := by
  refine dk_met (L := [some (.ref 30), some (.ref 14), some (.int (nI k)), some (.int (nI i)), none, none, none]) pnX3 rfl (Nat.le_of_ble_eq_true rfl) ?_
  intro X C E hNm
  have hns := hq.1.2.1
  have hnc := hq.2.1.2.1
  obtain ⟨x1, T, x3, x4⟩ := hq.1.2.2 s hs'
  have Q := dk_Q0i (n := i) (by omega)
  have tl : st s + 3 < 14 := by unfold dk_T at T; omega
  have hx0 := hq.2.2.2 _ T (c * 2) (by omega)
  have hx1 := hq.2.2.2 _ T (c * 2 + 1) (by omega)
  have ek : ∀ b, pl_hi hi k b 34 k = nI s := fun b => by rw [pl_hi_ne (by omega)]; exact hs
  refine dk_aload_n C dX3_considerCondition_0 rfl rfl ?_
  refine ek_getR C fX3_81 rfl (by decide) rfl 16 rfl dX3_considerCondition_1 ?_
  refine dk_iload_n C dX3_considerCondition_4 rfl rfl ?_
  refine ek_aald C rfl (by decide) (by decide) (i) (rfl) (by omega) (by decide) (17 + i) (dk_RF16 sr (by omega)) dX3_considerCondition_5 ?_
  refine dk_astore C dX3_considerCondition_6 (by decide) rfl ?_
  refine dk_aload_n C dX3_considerCondition_8 rfl rfl ?_
  refine ek_getR C fX3_85 rfl (by decide) rfl 15 rfl dX3_considerCondition_9 ?_
  refine dk_aload_n C dX3_considerCondition_12 rfl rfl ?_
  refine ek_getR C fX3_23 rfl (by decide) rfl 34 rfl dX3_considerCondition_13 ?_
  refine dk_iload_n C dX3_considerCondition_16 rfl rfl ?_
  refine ek_iald C rfl (by decide) (k) (rfl) (hk) (by decide) dX3_considerCondition_17 ?_
  refine ek_aald C rfl (by decide) (by decide) (s) (ek b) (by omega) (by decide) (st s) (x1) dX3_considerCondition_18 ?_
  refine dk_astore C dX3_considerCondition_19 (by decide) rfl ?_
  refine dk_aload C dX3_considerCondition_21 rfl ?_
  refine ek_getI C fX3_121 T.s0 T.l0 rfl dX3_considerCondition_23 ?_
  rw [pl_hi_ne (by omega), x3]
  refine dk_i2f C dX3_considerCondition_26 ?_
  refine dk_aload_n C dX3_considerCondition_27 rfl rfl ?_
  refine ek_getR C fX3_11 rfl (by decide) rfl 31 rfl dX3_considerCondition_28 ?_
  refine dk_iload_n C dX3_considerCondition_31 rfl rfl ?_
  refine ek_fald C rfl (by decide) (i) (rfl) (by omega) (by decide) dX3_considerCondition_32 ?_
  rw [pl_hf_ne (by decide)]
  refine dk_fmul C dX3_considerCondition_33 (fb_n (fb_m x4 hsh) (by decide)) ?_
  refine dk_fstore C dX3_considerCondition_34 (by decide) rfl ?_
  generalize hm : FP.fmul (FP.i2f (nI (nR s))) (hf 31 i) = m
  have hm1 : vf_n32 (FP.fadd FP.fconst1 m) := by rw [← hm]; exact fb_n (fb_m1 x4 hsh) (by decide)
  have hm2 : vf_n32 (FP.fadd FP.fconst2 m) := by rw [← hm]; exact fb_n (fb_m2 x4 hsh) (by decide)
  rw [hm] at E
  have second : ∀ b1, pl_cond b m (hi (17 + i) 2) (hi (st s + 3) (c * 2)) (hi (st s + 3) (c * 2 + 1)) (nI i) (-1) = (if ¬ hi (17 + i) 2 = 3 ∧ ¬ hi (st s + 3) (c * 2 + 1) = 0 then pl_cand b1 (FP.fadd FP.fconst2 m) 2 (nI i) (-1) else b1) → dk_W X 70 [some (.ref 30), some (.ref 14), some (.int (nI k)), some (.int (nI i)), some (.ref (17 + i)), some (.ref (st s)), some (.float m)] [] 63 (pl_hi hi k b1, pl_hf hf b1, dk_RF sr, z) 0 0 := by
    intro b1 hb
    rw [hb] at E
    refine dk_aload C dX3_considerCondition_70 rfl ?_
    refine ek_getI C fX3_129 Q.s0 Q.l0 rfl dX3_considerCondition_72 ?_
    refine dk_iconst C (3) dX3_considerCondition_75 rfl ?_
    rw [pl_hi_ne (by omega)]
    refine dk_icmp_eq C 105 dX3_considerCondition_76 (by decide) (fun c1 => ?_) (fun c1 => ?_)
    · exact dk_vret C E dX3_considerCondition_105 (Nat.zero_le _) (Nat.zero_le _) (⟨rfl, by rw [if_neg (fun q => q.1 c1)]⟩)
    · refine dk_aload C dX3_considerCondition_79 rfl ?_
      refine dk_aload C dX3_considerCondition_81 rfl ?_
      refine ek_getI C fX3_126 Q.s0 Q.l0 rfl dX3_considerCondition_83 ?_
      rw [pl_hi_ne (by omega), hc]
      refine dk_iconst C (1) dX3_considerCondition_86 rfl ?_
      refine ek_callV C mX3_179 (c_X5_hasIndex _ _ _ _ _ T c 1 hc' (by decide) (by rw [pl_hi_ne (by omega)]; exact hx1)) T.s0 T.l0 rfl rfl (Nat.le_of_ble_eq_true rfl) (by decide) (by decide) (Nat.zero_le _) (Nat.zero_le _) dX3_considerCondition_87 ?_
      rw [pl_hi_ne (by omega)]
      refine dk_if_eq C 105 dX3_considerCondition_90 (by decide) (fun c2 => ?_) (fun c2 => ?_)
      · exact dk_vret C E dX3_considerCondition_105 (Nat.zero_le _) (Nat.zero_le _) (⟨rfl, by rw [if_neg (fun q => q.2 c2)]⟩)
      · refine dk_aload_n C dX3_considerCondition_93 rfl rfl ?_
        refine dk_fconst2 C dX3_considerCondition_94 ?_
        refine dk_fload C dX3_considerCondition_95 rfl ?_
        refine dk_fadd C dX3_considerCondition_97 (hm2) ?_
        refine dk_iload_n C dX3_considerCondition_98 rfl rfl ?_
        refine dk_iconst C (2) dX3_considerCondition_99 rfl ?_
        refine dk_iload_n C dX3_considerCondition_100 rfl rfl ?_
        refine dk_iconst C (-1) dX3_considerCondition_101 rfl ?_
        refine ek_callVv C mX3_182 (c_X3_considerWay _ _ _ _ _ k hk b1 _ 2 (nI i) (-1)) rfl (by decide) rfl rfl (Nat.le_of_ble_eq_true rfl) (by decide) (by decide) (Nat.zero_le _) (Nat.zero_le _) dX3_considerCondition_102 ?_
        exact dk_vret C E dX3_considerCondition_105 (Nat.zero_le _) (Nat.zero_le _) (⟨rfl, by rw [if_pos ⟨c1, c2⟩]⟩)
  refine dk_aload C dX3_considerCondition_36 rfl ?_
  refine ek_getI C fX3_129 Q.s0 Q.l0 rfl dX3_considerCondition_38 ?_
  rw [pl_hi_ne (by omega)]
  refine dk_if_ne C 70 dX3_considerCondition_41 (by decide) (fun c1 => ?_) (fun c1 => ?_)
  · exact second b (by rw [pl_cond, if_neg (show ¬ (hi (17 + i) 2 = 0 ∧ ¬ hi (st s + 3) (c * 2) = 0) from fun q => c1 q.1)])
  · refine dk_aload C dX3_considerCondition_44 rfl ?_
    refine dk_aload C dX3_considerCondition_46 rfl ?_
    refine ek_getI C fX3_126 Q.s0 Q.l0 rfl dX3_considerCondition_48 ?_
    rw [pl_hi_ne (by omega), hc]
    refine dk_iconst C (0) dX3_considerCondition_51 rfl ?_
    refine ek_callV C mX3_179 (c_X5_hasIndex _ _ _ _ _ T c 0 hc' (by decide) (by rw [pl_hi_ne (by omega)]; exact hx0)) T.s0 T.l0 rfl rfl (Nat.le_of_ble_eq_true rfl) (by decide) (by decide) (Nat.zero_le _) (Nat.zero_le _) dX3_considerCondition_52 ?_
    rw [pl_hi_ne (by omega)]
    refine dk_if_eq C 70 dX3_considerCondition_55 (by decide) (fun c2 => ?_) (fun c2 => ?_)
    · exact second b (by rw [pl_cond, if_neg (show ¬ (hi (17 + i) 2 = 0 ∧ ¬ hi (st s + 3) (c * 2) = 0) from fun q => q.2 c2)])
    · refine dk_aload_n C dX3_considerCondition_58 rfl rfl ?_
      refine dk_fconst1 C dX3_considerCondition_59 ?_
      refine dk_fload C dX3_considerCondition_60 rfl ?_
      refine dk_fadd C dX3_considerCondition_62 (hm1) ?_
      refine dk_iload_n C dX3_considerCondition_63 rfl rfl ?_
      refine dk_iconst C (1) dX3_considerCondition_64 rfl ?_
      refine dk_iload_n C dX3_considerCondition_65 rfl rfl ?_
      refine dk_iconst C (-1) dX3_considerCondition_66 rfl ?_
      refine ek_callVv C mX3_182 (c_X3_considerWay _ _ _ _ _ k hk b _ 1 (nI i) (-1)) rfl (by decide) rfl rfl (Nat.le_of_ble_eq_true rfl) (by decide) (by decide) (Nat.zero_le _) (Nat.zero_le _) dX3_considerCondition_67 ?_
      exact second _ (by rw [pl_cond, if_pos (show hi (17 + i) 2 = 0 ∧ ¬ hi (st s + 3) (c * 2) = 0 from ⟨c1, c2⟩)])
