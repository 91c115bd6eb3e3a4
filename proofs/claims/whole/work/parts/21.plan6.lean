/-! ===== QueryDesk$Plan: an order tried, shares measured, the plan chosen ===== -/
theorem pl_try_fb {hi : Nat → Nat → Int32} {hf : Nat → Nat → UInt32} {od st nR : Nat → Nat} {nc nj : Nat} (hF : qF hf) (hc : nc ≤ 4) (hj : nj ≤ 3) : ∀ k, k ≤ 3 → (∀ i, i < k → nR (od i) ≤ 24) → fb (128 + 42 * k) (pl_try hi hf od st nR nc nj k).2.2.1 ∧ fb (102 + 44 * k) (pl_try hi hf od st nR nc nj k).2.2.2
  | 0, _, _ => ⟨fb_1, fb_w fb_0 (by decide)⟩
  | k + 1, hk, hn => by
    obtain ⟨h1, h2⟩ := pl_try_fb (hi := hi) (od := od) (st := st) (nR := nR) hF hc hj k (by omega) (fun i h => hn i (by omega))
    have f := pl_try_fr (hi := hi) (hf := hf) (od := od) (st := st) (nR := nR) (nc := nc) (nj := nj) k
    have hF' := hF.fr f.2
    have hnk := hn k (by omega)
    refine ⟨?_, ?_⟩
    · exact fb_w (fb_cnt (hF'.fr (fun i j h => pl_hf_ne h)) k hnk hc hj h1 (by omega)) (by omega)
    · have hb := fb_best (hi := dk_up (pl_try hi hf od st nR nc nj k).1 34 k (nI (od k))) hF' k (st (od k)) hnk hc hj
      exact fb_w (fb_add (K := 142 + 42 * k) (fb_w h2 (by omega)) (fb_w (fb_mul h1 hb (by omega) (by decide)) (by omega)) (by omega)) (by omega)
set_option maxHeartbeats 4000000 in
set_option maxRecDepth 100000 in
theorem c_X3_tryOrder (G : dk_G) (sr : Nat → Option Nat) (hi : Nat → Nat → Int32) (hf : Nat → Nat → UInt32) (z : (Nat → Nat → Int64) × (Nat → Nat → UInt64)) {ns nc nj : Nat} {st nR : Nat → Nat} (hq : qC hi sr ns nc nj st nR) (hF : qF hf) (hns1 : 1 ≤ ns) (num : Nat) (hnum : num < pl_oc ns) :
    dk_MF G yX3_tryOrder cX3_tryOrder 7 (some .float) 4 99 [.ref 30, .ref 14, .retAddr (pl_o ns), .int (nI num)] (hi, hf, dk_RF sr, z) (some (.float (pl_try hi hf (pl_od ns num) st nR nc nj ns).2.2.2)) ((pl_try hi hf (pl_od ns num) st nR nc nj ns).1, (pl_try hi hf (pl_od ns num) st nR nc nj ns).2.1, dk_RF sr, z) := by
  refine dk_met (L := [some (.ref 30), some (.ref 14), some (.retAddr (pl_o ns)), some (.int (nI num)), none, none, none]) pnX3 rfl (Nat.le_of_ble_eq_true rfl) ?_
  intro X C E hNm
  have hns := hq.1.2.1
  have hnc := hq.2.1.2.1
  have hnj := hq.2.2.1.2.1
  have hod : ∀ k, k < ns → dk_sv (pl_o ns) (num * ns + k) = nI (pl_od ns num k) ∧ pl_od ns num k < ns ∧ num * ns + k < dk_sl (pl_o ns) := fun k hk => pl_od_ok ns (by omega) hns1 num hnum k hk
  have hsl : dk_sl (pl_o ns) ≤ 18 := by
    unfold pl_o; split
    · decide
    · split <;> decide
  have hpo : pl_o ns < 3 := by
    unfold pl_o; split
    · decide
    · split <;> decide
  have loop : ∀ r k, k + r = ns → dk_W X 9 [some (.ref 30), some (.ref 14), some (.retAddr (pl_o ns)), some (.int (nI num)), some (.float (pl_try hi hf (pl_od ns num) st nR nc nj k).2.2.1), some (.float (pl_try hi hf (pl_od ns num) st nR nc nj k).2.2.2), some (.int (nI k))] [] 63 ((pl_try hi hf (pl_od ns num) st nR nc nj k).1, (pl_try hi hf (pl_od ns num) st nR nc nj k).2.1, dk_RF sr, z) 0 0 := by
    intro r
    induction r with
    | zero =>
      intro k hk
      obtain rfl : k = ns := by omega
      obtain ⟨f1, f2⟩ := pl_try_fr (hi := hi) (hf := hf) (od := pl_od k num) (st := st) (nR := nR) (nc := nc) (nj := nj) k
      refine dk_iload C dX3_tryOrder_9 rfl ?_
      refine dk_aload_n C dX3_tryOrder_11 rfl rfl ?_
      refine ek_getI C fX3_40 rfl (by decide) rfl dX3_tryOrder_12 ?_
      rw [f1 14 4 (by omega), hq.1.1]
      refine dk_icmp_ge C 72 dX3_tryOrder_15 (by decide) (fun _ => ?_) (fun hz => absurd (Int32.le_refl _) hz)
      refine dk_fload C dX3_tryOrder_72 rfl ?_
      exact dk_fret C E dX3_tryOrder_74 (Nat.zero_le _) (Nat.zero_le _) (⟨rfl, rfl⟩)
    | succ r ih =>
      intro k hk
      obtain ⟨f1, f2⟩ := pl_try_fr (hi := hi) (hf := hf) (od := pl_od ns num) (st := st) (nR := nR) (nc := nc) (nj := nj) k
      obtain ⟨o1, o2, o3⟩ := hod k (by omega)
      obtain ⟨b1, b2⟩ := pl_try_fb (hi := hi) (od := pl_od ns num) (st := st) (nR := nR) hF hnc hnj k (by omega) (fun i h => (hq.1.2.2 _ (hod i (by omega)).2.1).2.2.2)
      have hnk := (hq.1.2.2 _ o2).2.2.2
      have e14 := f1 14 4 (by omega)
      rw [hq.1.1] at e14
      have hqk : qC (dk_up (pl_try hi hf (pl_od ns num) st nR nc nj k).1 34 k (nI (pl_od ns num k))) sr ns nc nj st nR := hq.fr (fun i j h => by rw [dk_up_ne _ _ (Or.inl (by omega)), f1 i j (by omega)])
      have hFk : qF (pl_try hi hf (pl_od ns num) st nR nc nj k).2.1 := hF.fr f2
      have hstep : pl_try hi hf (pl_od ns num) st nR nc nj (k + 1) = (pl_hi (dk_up (pl_try hi hf (pl_od ns num) st nR nc nj k).1 34 k (nI (pl_od ns num k))) k (pl_best (dk_up (pl_try hi hf (pl_od ns num) st nR nc nj k).1 34 k (nI (pl_od ns num k))) (pl_try hi hf (pl_od ns num) st nR nc nj k).2.1 k (st (pl_od ns num k)) (nR (pl_od ns num k)) nc nj), pl_hf (pl_try hi hf (pl_od ns num) st nR nc nj k).2.1 (pl_best (dk_up (pl_try hi hf (pl_od ns num) st nR nc nj k).1 34 k (nI (pl_od ns num k))) (pl_try hi hf (pl_od ns num) st nR nc nj k).2.1 k (st (pl_od ns num k)) (nR (pl_od ns num k)) nc nj), pl_cnt (pl_hi (dk_up (pl_try hi hf (pl_od ns num) st nR nc nj k).1 34 k (nI (pl_od ns num k))) k (pl_best (dk_up (pl_try hi hf (pl_od ns num) st nR nc nj k).1 34 k (nI (pl_od ns num k))) (pl_try hi hf (pl_od ns num) st nR nc nj k).2.1 k (st (pl_od ns num k)) (nR (pl_od ns num k)) nc nj)) (pl_hf (pl_try hi hf (pl_od ns num) st nR nc nj k).2.1 (pl_best (dk_up (pl_try hi hf (pl_od ns num) st nR nc nj k).1 34 k (nI (pl_od ns num k))) (pl_try hi hf (pl_od ns num) st nR nc nj k).2.1 k (st (pl_od ns num k)) (nR (pl_od ns num k)) nc nj)) k (nR (pl_od ns num k)) nc nj (pl_try hi hf (pl_od ns num) st nR nc nj k).2.2.1, FP.fadd (pl_try hi hf (pl_od ns num) st nR nc nj k).2.2.2 (FP.fmul (pl_try hi hf (pl_od ns num) st nR nc nj k).2.2.1 (pl_best (dk_up (pl_try hi hf (pl_od ns num) st nR nc nj k).1 34 k (nI (pl_od ns num k))) (pl_try hi hf (pl_od ns num) st nR nc nj k).2.1 k (st (pl_od ns num k)) (nR (pl_od ns num k)) nc nj).1)) := rfl
      generalize pl_try hi hf (pl_od ns num) st nR nc nj k = p at *
      obtain ⟨ph, pf, pc9, pcost⟩ := p
      dsimp only at *
      refine dk_iload C dX3_tryOrder_9 rfl ?_
      refine dk_aload_n C dX3_tryOrder_11 rfl rfl ?_
      refine ek_getI C fX3_40 rfl (by decide) rfl dX3_tryOrder_12 ?_
      rw [e14]
      refine dk_icmp_ge C 72 dX3_tryOrder_15 (by decide) (fun hz => absurd hz (nI_ge (by omega) (by omega))) (fun _ => ?_)
      refine dk_aload_n C dX3_tryOrder_18 rfl rfl ?_
      refine ek_getR C fX3_23 rfl (by decide) rfl 34 rfl dX3_tryOrder_19 ?_
      refine dk_iload C dX3_tryOrder_22 rfl ?_
      refine dk_rload_n C dX3_tryOrder_24 rfl rfl ?_
      refine dk_iload_n C dX3_tryOrder_25 rfl rfl ?_
      refine dk_aload_n C dX3_tryOrder_26 rfl rfl ?_
      refine ek_getI C fX3_40 rfl (by decide) rfl dX3_tryOrder_27 ?_
      refine dk_imul C dX3_tryOrder_30 ?_
      refine dk_iload C dX3_tryOrder_31 rfl ?_
      refine dk_iadd C dX3_tryOrder_33 ?_
      rw [e14, pk_mul, nI_add]
      refine dk_saldS C (pl_o ns) hpo (vp_in_nI o3 (by omega)) dX3_tryOrder_34 ?_
      rw [nI_clamp (by omega), o1]
      refine ek_iast C rfl (by decide) (k) (rfl) (by omega) (by decide) dX3_tryOrder_35 ?_
      have hb := fb_best (hi := dk_up ph 34 k (nI (pl_od ns num k))) hFk k (st (pl_od ns num k)) hnk hnc hnj
      have m1 := fb_mul b1 hb (by omega) (by decide)
      generalize hbest : pl_best (dk_up ph 34 k (nI (pl_od ns num k))) pf k (st (pl_od ns num k)) (nR (pl_od ns num k)) nc nj = b at *
      have e30 : pl_hf pf b 30 7 = b.1 := dk_up_same _ _ _ _
      have cbest := c_X3_takeBestWay G sr _ _ z hqk hFk k (pl_od ns num k) (by omega) (dk_up_same _ _ _ _) o2
      rw [hbest] at cbest
      refine dk_aload_n C dX3_tryOrder_36 rfl rfl ?_
      refine dk_aload_n C dX3_tryOrder_37 rfl rfl ?_
      refine dk_iload C dX3_tryOrder_38 rfl ?_
      refine ek_callVv C mX3_148 (cbest) rfl (by decide) rfl rfl (Nat.le_of_ble_eq_true rfl) (by decide) (by decide) (Nat.zero_le _) (Nat.zero_le _) dX3_tryOrder_40 ?_
      refine dk_fload C dX3_tryOrder_43 rfl ?_
      refine dk_fload C dX3_tryOrder_45 rfl ?_
      refine dk_aload_n C dX3_tryOrder_47 rfl rfl ?_
      refine ek_getF C fX3_152 rfl (by decide) rfl dX3_tryOrder_48 ?_
      rw [e30]
      refine dk_fmul C dX3_tryOrder_51 (fb_n m1 (by omega)) ?_
      refine dk_fadd C dX3_tryOrder_52 (fb_n (fb_add (K := 142 + 42 * k) (fb_w b2 (by omega)) (fb_w m1 (by omega)) (by omega)) (by omega)) ?_
      refine dk_fstore C dX3_tryOrder_53 (by decide) rfl ?_
      refine dk_aload_n C dX3_tryOrder_55 rfl rfl ?_
      refine dk_aload_n C dX3_tryOrder_56 rfl rfl ?_
      refine dk_iload C dX3_tryOrder_57 rfl ?_
      refine dk_fload C dX3_tryOrder_59 rfl ?_
      refine ek_callV C mX3_156 (c_X3_countBehind _ _ _ _ _ (hqk.fr (fun i j h => pl_hi_ne (by omega))) (hFk.fr (fun i j h => pl_hf_ne h)) k (pl_od ns num k) (by omega) (by rw [pl_hi_ne (by omega)]; exact dk_up_same _ _ _ _) o2 b1 (by omega)) rfl (by decide) rfl rfl (Nat.le_of_ble_eq_true rfl) (by decide) (by decide) (Nat.zero_le _) (Nat.zero_le _) dX3_tryOrder_61 ?_
      refine dk_fstore C dX3_tryOrder_64 (by decide) rfl ?_
      refine dk_iinc C (nI (k + 1)) dX3_tryOrder_66 rfl (nI_1 k) (by decide) rfl ?_
      refine dk_goto C 9 dX3_tryOrder_69 (by decide) ?_
      have h9 := ih (k + 1) (by omega)
      rw [hstep] at h9
      exact h9
  refine dk_fconst1 C dX3_tryOrder_0 ?_
  refine dk_fstore C dX3_tryOrder_1 (by decide) rfl ?_
  refine dk_fconst0 C dX3_tryOrder_3 ?_
  refine dk_fstore C dX3_tryOrder_4 (by decide) rfl ?_
  refine dk_iconst C (0) dX3_tryOrder_6 rfl ?_
  refine dk_istore C dX3_tryOrder_7 (by decide) rfl ?_
  exact loop ns 0 (by omega)
