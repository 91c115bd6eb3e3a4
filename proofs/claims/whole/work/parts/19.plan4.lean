/-! ===== QueryDesk$Plan: counts and costs of an order ===== -/
def pl_nC (hi : Nat → Nat → Int32) (hf : Nat → Nat → UInt32) (k : Nat) : Nat → UInt32 → UInt32
  | 0, c => c
  | i + 1, c => if hi (17 + i) 0 = hi 34 k then FP.fmul (pl_nC hi hf k i c) (hf 31 i) else pl_nC hi hf k i c
def pl_nJ (hi : Nat → Nat → Int32) (hf : Nat → Nat → UInt32) (k : Nat) : Nat → UInt32 → UInt32
  | 0, c => c
  | j + 1, c => if pl_ties hi (22 + j) k = true then FP.fmul (pl_nJ hi hf k j c) (pl_js hi hf j k) else pl_nJ hi hf k j c
def pl_cnt (hi : Nat → Nat → Int32) (hf : Nat → Nat → UInt32) (k n nc nj : Nat) (c : UInt32) : UInt32 := pl_nJ hi hf k nj (pl_nC hi hf k nc (FP.fmul c (FP.i2f (nI n))))
theorem fb_nC {hi : Nat → Nat → Int32} {hf : Nat → Nat → UInt32} (hF : qF hf) (k : Nat) {K : Nat} {c : UInt32} (hc : fb K c) (hK : K ≤ 235) : ∀ i, i ≤ 4 → fb (K + 5 * i) (pl_nC hi hf k i c)
  | 0, _ => hc
  | i + 1, hi' => by
    have h := fb_nC (hi := hi) hF k hc hK i (by omega)
    unfold pl_nC
    split
    · exact fb_w (fb_mul h (hF.1 i (by omega)) (by omega) (by decide)) (by omega)
    · exact fb_w h (by omega)
theorem fb_nJ {hi : Nat → Nat → Int32} {hf : Nat → Nat → UInt32} (hF : qF hf) (k : Nat) {K : Nat} {c : UInt32} (hc : fb K c) (hK : K ≤ 240) : ∀ i, i ≤ 3 → fb (K + 5 * i) (pl_nJ hi hf k i c)
  | 0, _ => hc
  | i + 1, hi' => by
    have h := fb_nJ (hi := hi) hF k hc hK i (by omega)
    unfold pl_nJ
    split
    · exact fb_w (fb_mul h (hF.js hi k (by omega)) (by omega) (by decide)) (by omega)
    · exact fb_w h (by omega)
set_option maxHeartbeats 4000000 in
set_option maxRecDepth 100000 in
theorem c_X3_countBehind (G : dk_G) (sr : Nat → Option Nat) (hi : Nat → Nat → Int32) (hf : Nat → Nat → UInt32) (z : (Nat → Nat → Int64) × (Nat → Nat → UInt64)) {ns nc nj : Nat} {st nR : Nat → Nat} (hq : qC hi sr ns nc nj st nR) (hF : qF hf) (k s : Nat) (hk : k < 3) (hs : hi 34 k = nI s) (hs' : s < ns) {K : Nat} {c : UInt32} (hc : fb K c) (hK : 20 ≤ K ∧ K ≤ 212) :
    dk_MF G yX3_countBehind cX3_countBehind 7 (some .float) 2 45 [.ref 30, .ref 14, .int (nI k), .float c] (hi, hf, dk_RF sr, z) (some (.float (pl_cnt hi hf k (nR s) nc nj c))) (hi, hf, dk_RF sr, z) := by
  refine dk_met (L := [some (.ref 30), some (.ref 14), some (.int (nI k)), some (.float c), none, none, none]) pnX3 rfl (Nat.le_of_ble_eq_true rfl) ?_
  intro X C E hNm
  have hns := hq.1.2.1
  have hnc := hq.2.1.2.1
  have hnj := hq.2.2.1.2.1
  obtain ⟨x1, T, x3, x4⟩ := hq.1.2.2 s hs'
  have hb0 : fb (K + 7) (FP.fmul c (FP.i2f (nI (nR s)))) := fb_w (fb_mul hc (fb_i x4) (by omega) (by decide)) (by omega)
  have loop2 : ∀ r j, j + r = nj → dk_W X 71 [some (.ref 30), some (.ref 14), some (.int (nI k)), some (.float c), some (.int (nI s)), some (.float (pl_nJ hi hf k j (pl_nC hi hf k nc (FP.fmul c (FP.i2f (nI (nR s))))))), some (.int (nI j))] [] 63 (hi, hf, dk_RF sr, z) 0 0 := by
    intro r
    induction r with
    | zero =>
      intro j hj
      obtain rfl : j = nj := by omega
      refine dk_iload C dX3_countBehind_71 rfl ?_
      refine dk_aload_n C dX3_countBehind_73 rfl rfl ?_
      refine ek_getI C fX3_98 rfl (by decide) rfl dX3_countBehind_74 ?_
      rw [hq.2.2.1.1]
      refine dk_icmp_ge C 121 dX3_countBehind_77 (by decide) (fun _ => ?_) (fun hz => absurd (Int32.le_refl _) hz)
      refine dk_fload C dX3_countBehind_121 rfl ?_
      exact dk_fret C E dX3_countBehind_123 (Nat.zero_le _) (Nat.zero_le _) (⟨rfl, rfl⟩)
    | succ r ih =>
      intro j hj
      have Q := dk_Q1i (n := j) (by omega)
      have hbb := fb_nJ (hi := hi) hF k (fb_nC (hi := hi) hF k hb0 (by omega) nc (by omega)) (by omega) j (by omega)
      refine dk_iload C dX3_countBehind_71 rfl ?_
      refine dk_aload_n C dX3_countBehind_73 rfl rfl ?_
      refine ek_getI C fX3_98 rfl (by decide) rfl dX3_countBehind_74 ?_
      rw [hq.2.2.1.1]
      refine dk_icmp_ge C 121 dX3_countBehind_77 (by decide) (fun hz => absurd hz (nI_ge (by omega) (by omega))) (fun _ => ?_)
      refine dk_aload_n C dX3_countBehind_80 rfl rfl ?_
      refine dk_aload_n C dX3_countBehind_81 rfl rfl ?_
      refine ek_getR C fX3_101 rfl (by decide) rfl 21 rfl dX3_countBehind_82 ?_
      refine dk_iload C dX3_countBehind_85 rfl ?_
      refine ek_aald C rfl (by decide) (by decide) (j) (rfl) (by omega) (by decide) (22 + j) (dk_RF21 sr (by omega)) dX3_countBehind_87 ?_
      refine dk_iload_n C dX3_countBehind_88 rfl rfl ?_
      refine ek_callV C mX3_160 (c_X3_tiesBack _ _ _ _ _ Q k hk) rfl (by decide) rfl rfl (Nat.le_of_ble_eq_true rfl) (by decide) (by decide) (Nat.zero_le _) (Nat.zero_le _) dX3_countBehind_89 ?_
      refine dk_if_eq C 115 dX3_countBehind_92 (by decide) (fun c1 => ?_) (fun c1 => ?_)
      · have e : ∀ b, pl_nJ hi hf k (j + 1) b = pl_nJ hi hf k j b := fun b => by rw [pl_nJ, if_neg (by rw [bI_n0 c1]; decide)]
        refine dk_iinc C (nI (j + 1)) dX3_countBehind_115 rfl (nI_1 j) (by decide) rfl ?_
        refine dk_goto C 71 dX3_countBehind_118 (by decide) ?_
        rw [← e]
        exact ih (j + 1) (by omega)
      · have e : ∀ b, pl_nJ hi hf k (j + 1) b = FP.fmul (pl_nJ hi hf k j b) (pl_js hi hf j k) := fun b => by rw [pl_nJ, if_pos (bI_n1 c1)]
        have e2 : (if hi (22 + j) 0 = nI s then hf 32 j else hf 33 j) = pl_js hi hf j k := by rw [pl_js, hs]
        refine dk_fload C dX3_countBehind_95 rfl ?_
        refine dk_aload_n C dX3_countBehind_97 rfl rfl ?_
        refine dk_aload_n C dX3_countBehind_98 rfl rfl ?_
        refine ek_getR C fX3_101 rfl (by decide) rfl 21 rfl dX3_countBehind_99 ?_
        refine dk_iload C dX3_countBehind_102 rfl ?_
        refine ek_aald C rfl (by decide) (by decide) (j) (rfl) (by omega) (by decide) (22 + j) (dk_RF21 sr (by omega)) dX3_countBehind_104 ?_
        refine dk_iload C dX3_countBehind_105 rfl ?_
        refine dk_iload C dX3_countBehind_107 rfl ?_
        refine ek_callV C mX3_164 (c_X3_joinShare _ _ _ _ _ Q j (by omega) (nI s)) rfl (by decide) rfl rfl (Nat.le_of_ble_eq_true rfl) (by decide) (by decide) (Nat.zero_le _) (Nat.zero_le _) dX3_countBehind_109 ?_
        rw [e2]
        refine dk_fmul C dX3_countBehind_112 (fb_n (fb_mul hbb (hF.js hi k (by omega)) (by omega) (by decide)) (by omega)) ?_
        refine dk_fstore C dX3_countBehind_113 (by decide) rfl ?_
        refine dk_iinc C (nI (j + 1)) dX3_countBehind_115 rfl (nI_1 j) (by decide) rfl ?_
        refine dk_goto C 71 dX3_countBehind_118 (by decide) ?_
        rw [← e]
        exact ih (j + 1) (by omega)
  have loop1 : ∀ r i, i + r = nc → dk_W X 26 [some (.ref 30), some (.ref 14), some (.int (nI k)), some (.float c), some (.int (nI s)), some (.float (pl_nC hi hf k i (FP.fmul c (FP.i2f (nI (nR s)))))), some (.int (nI i))] [] 63 (hi, hf, dk_RF sr, z) 0 0 := by
    intro r
    induction r with
    | zero =>
      intro i hi'
      obtain rfl : i = nc := by omega
      refine dk_iload C dX3_countBehind_26 rfl ?_
      refine dk_aload_n C dX3_countBehind_28 rfl rfl ?_
      refine ek_getI C fX3_78 rfl (by decide) rfl dX3_countBehind_29 ?_
      rw [hq.2.1.1]
      refine dk_icmp_ge C 68 dX3_countBehind_32 (by decide) (fun _ => ?_) (fun hz => absurd (Int32.le_refl _) hz)
      refine dk_iconst C (0) dX3_countBehind_68 rfl ?_
      refine dk_istore C dX3_countBehind_69 (by decide) rfl ?_
      exact loop2 nj 0 (by omega)
    | succ r ih =>
      intro i hi'
      have Q := dk_Q0i (n := i) (by omega)
      have hbb := fb_nC (hi := hi) hF k hb0 (by omega) i (by omega)
      refine dk_iload C dX3_countBehind_26 rfl ?_
      refine dk_aload_n C dX3_countBehind_28 rfl rfl ?_
      refine ek_getI C fX3_78 rfl (by decide) rfl dX3_countBehind_29 ?_
      rw [hq.2.1.1]
      refine dk_icmp_ge C 68 dX3_countBehind_32 (by decide) (fun hz => absurd hz (nI_ge (by omega) (by omega))) (fun _ => ?_)
      refine dk_aload_n C dX3_countBehind_35 rfl rfl ?_
      refine ek_getR C fX3_81 rfl (by decide) rfl 16 rfl dX3_countBehind_36 ?_
      refine dk_iload C dX3_countBehind_39 rfl ?_
      refine ek_aald C rfl (by decide) (by decide) (i) (rfl) (by omega) (by decide) (17 + i) (dk_RF16 sr (by omega)) dX3_countBehind_41 ?_
      refine ek_getI C fX3_89 Q.s0 Q.l0 rfl dX3_countBehind_42 ?_
      refine dk_iload C dX3_countBehind_45 rfl ?_
      refine dk_icmp_ne C 62 dX3_countBehind_47 (by decide) (fun c1 => ?_) (fun c1 => ?_)
      · have e : ∀ b, pl_nC hi hf k (i + 1) b = pl_nC hi hf k i b := fun b => by rw [pl_nC, hs, if_neg c1]
        refine dk_iinc C (nI (i + 1)) dX3_countBehind_62 rfl (nI_1 i) (by decide) rfl ?_
        refine dk_goto C 26 dX3_countBehind_65 (by decide) ?_
        rw [← e]
        exact ih (i + 1) (by omega)
      · have e : ∀ b, pl_nC hi hf k (i + 1) b = FP.fmul (pl_nC hi hf k i b) (hf 31 i) := fun b => by rw [pl_nC, hs, if_pos c1]
        refine dk_fload C dX3_countBehind_50 rfl ?_
        refine dk_aload_n C dX3_countBehind_52 rfl rfl ?_
        refine ek_getR C fX3_11 rfl (by decide) rfl 31 rfl dX3_countBehind_53 ?_
        refine dk_iload C dX3_countBehind_56 rfl ?_
        refine ek_fald C rfl (by decide) (i) (rfl) (by omega) (by decide) dX3_countBehind_58 ?_
        refine dk_fmul C dX3_countBehind_59 (fb_n (fb_mul hbb (hF.1 i (by omega)) (by omega) (by decide)) (by omega)) ?_
        refine dk_fstore C dX3_countBehind_60 (by decide) rfl ?_
        refine dk_iinc C (nI (i + 1)) dX3_countBehind_62 rfl (nI_1 i) (by decide) rfl ?_
        refine dk_goto C 26 dX3_countBehind_65 (by decide) ?_
        rw [← e]
        exact ih (i + 1) (by omega)
  refine dk_aload_n C dX3_countBehind_0 rfl rfl ?_
  refine ek_getR C fX3_23 rfl (by decide) rfl 34 rfl dX3_countBehind_1 ?_
  refine dk_iload_n C dX3_countBehind_4 rfl rfl ?_
  refine ek_iald C rfl (by decide) (k) (rfl) (hk) (by decide) dX3_countBehind_5 ?_
  rw [hs]
  refine dk_istore C dX3_countBehind_6 (by decide) rfl ?_
  refine dk_fload_n C dX3_countBehind_8 rfl rfl ?_
  refine dk_aload_n C dX3_countBehind_9 rfl rfl ?_
  refine ek_getR C fX3_85 rfl (by decide) rfl 15 rfl dX3_countBehind_10 ?_
  refine dk_iload C dX3_countBehind_13 rfl ?_
  refine ek_aald C rfl (by decide) (by decide) (s) (rfl) (by omega) (by decide) (st s) (x1) dX3_countBehind_15 ?_
  refine ek_getI C fX3_121 T.s0 T.l0 rfl dX3_countBehind_16 ?_
  rw [x3]
  refine dk_i2f C dX3_countBehind_19 ?_
  refine dk_fmul C dX3_countBehind_20 (fb_n hb0 (by omega)) ?_
  refine dk_fstore C dX3_countBehind_21 (by decide) rfl ?_
  refine dk_iconst C (0) dX3_countBehind_23 rfl ?_
  refine dk_istore C dX3_countBehind_24 (by decide) rfl ?_
  exact loop1 nc 0 (by omega)
theorem fb_cand {K : Nat} {b : pl_B} {r : UInt32} {w c j : Int32} (h1 : fb K b.1) (h2 : fb K r) : fb K (pl_cand b r w c j).1 := by
  unfold pl_cand
  split
  · exact h1
  · exact h2
theorem fb_cond {b : pl_B} {n : Nat} {x : UInt32} {o x0 x1 c j : Int32} (hn : n ≤ 24) (hx : fb 131 x) (h1 : fb 140 b.1) : fb 140 (pl_cond b (FP.fmul (FP.i2f (nI n)) x) o x0 x1 c j).1 := by
  unfold pl_cond
  have hb1 : fb 140 (if o = 0 ∧ ¬ x0 = 0 then pl_cand b (FP.fadd FP.fconst1 (FP.fmul (FP.i2f (nI n)) x)) 1 c j else b).1 := by
    split
    · exact fb_cand h1 (fb_m1 hn hx)
    · exact h1
  simp only []
  split
  · exact fb_cand hb1 (fb_m2 hn hx)
  · exact hb1
theorem fb_fC {hi : Nat → Nat → Int32} {hf : Nat → Nat → UInt32} (hF : qF hf) (k t : Nat) {n : Nat} (hn : n ≤ 24) {b : pl_B} (hb : fb 140 b.1) : ∀ i, i ≤ 4 → fb 140 (pl_fC hi hf k t n i b).1
  | 0, _ => hb
  | i + 1, hi' => by
    have h := fb_fC (hi := hi) hF k t hn hb i (by omega)
    unfold pl_fC
    split
    · exact fb_cond hn (hF.1 i (by omega)) h
    · exact h
theorem fb_fJ {hi : Nat → Nat → Int32} {hf : Nat → Nat → UInt32} (hF : qF hf) (k t : Nat) {n : Nat} (hn : n ≤ 24) {b : pl_B} (hb : fb 140 b.1) : ∀ i, i ≤ 3 → fb 140 (pl_fJ hi hf k t n i b).1
  | 0, _ => hb
  | i + 1, hi' => by
    have h := fb_fJ (hi := hi) hF k t hn hb i (by omega)
    unfold pl_fJ
    split
    · exact fb_cond hn (hF.js hi k (by omega)) h
    · exact h
theorem fb_best {hi : Nat → Nat → Int32} {hf : Nat → Nat → UInt32} (hF : qF hf) (k t : Nat) {n nc nj : Nat} (hn : n ≤ 24) (hc : nc ≤ 4) (hj : nj ≤ 3) : fb 140 (pl_best hi hf k t n nc nj).1 :=
  fb_fJ hF k t hn (fb_fC hF k t hn (fb_w (fb_i hn) (by decide)) nc hc) nj hj
/-- an order tried: heaps, count and cost behind k sources -/
def pl_try (hi : Nat → Nat → Int32) (hf : Nat → Nat → UInt32) (od st nR : Nat → Nat) (nc nj : Nat) : Nat → (Nat → Nat → Int32) × (Nat → Nat → UInt32) × UInt32 × UInt32
  | 0 => (hi, hf, FP.fconst1, FP.fconst0)
  | k + 1 =>
    let p := pl_try hi hf od st nR nc nj k
    let h1 := dk_up p.1 34 k (nI (od k))
    let b := pl_best h1 p.2.1 k (st (od k)) (nR (od k)) nc nj
    (pl_hi h1 k b, pl_hf p.2.1 b, pl_cnt (pl_hi h1 k b) (pl_hf p.2.1 b) k (nR (od k)) nc nj p.2.2.1, FP.fadd p.2.2.2 (FP.fmul p.2.2.1 b.1))
theorem pl_try_fr {hi : Nat → Nat → Int32} {hf : Nat → Nat → UInt32} {od st nR : Nat → Nat} {nc nj : Nat} : ∀ k, (∀ i j, i < 34 ∨ 37 < i → (pl_try hi hf od st nR nc nj k).1 i j = hi i j) ∧ (∀ i j, i ≠ 30 → (pl_try hi hf od st nR nc nj k).2.1 i j = hf i j)
  | 0 => ⟨fun _ _ _ => rfl, fun _ _ _ => rfl⟩
  | k + 1 => by
    obtain ⟨h1, h2⟩ := pl_try_fr (hi := hi) (hf := hf) (od := od) (st := st) (nR := nR) (nc := nc) (nj := nj) k
    refine ⟨fun i j h => ?_, fun i j h => ?_⟩
    · show pl_hi _ k _ i j = _
      rw [pl_hi_ne (by omega), dk_up_ne _ _ (Or.inl (by omega)), h1 i j h]
    · show pl_hf _ _ i j = _
      rw [pl_hf_ne h, h2 i j h]
theorem qF.fr {hf hf' : Nat → Nat → UInt32} (h : qF hf) (hh : ∀ i j, i ≠ 30 → hf' i j = hf i j) : qF hf' :=
  ⟨fun i hi => by rw [hh _ _ (by decide)]; exact h.1 i hi, fun i hi => by rw [hh _ _ (by decide)]; exact h.2.1 i hi, fun i hi => by rw [hh _ _ (by decide)]; exact h.2.2 i hi⟩
theorem fb_cnt {hi : Nat → Nat → Int32} {hf : Nat → Nat → UInt32} (hF : qF hf) (k : Nat) {n nc nj K : Nat} {c : UInt32} (hn : n ≤ 24) (hc : nc ≤ 4) (hj : nj ≤ 3) (h : fb K c) (hK : 20 ≤ K ∧ K ≤ 212) : fb (K + 42) (pl_cnt hi hf k n nc nj c) :=
  fb_w (fb_nJ (hi := hi) hF k (fb_nC (hi := hi) hF k (K := K + 7) (fb_w (fb_mul h (fb_i hn) (by omega) (by decide)) (by omega)) (by omega) nc hc) (by omega) nj hj) (by omega)
/-- the orders of ns sources, by number -/
def pl_od (ns num k : Nat) : Nat := (dk_sv (pl_o ns) (num * ns + k)).toNatClampNeg
def pl_oc (ns : Nat) : Nat := if ns = 3 then 6 else ns
theorem pl_od_ok : ∀ ns, ns < 4 → 1 ≤ ns → ∀ num, num < pl_oc ns → ∀ k, k < ns → dk_sv (pl_o ns) (num * ns + k) = nI (pl_od ns num k) ∧ pl_od ns num k < ns ∧ num * ns + k < dk_sl (pl_o ns) := by decide +kernel
