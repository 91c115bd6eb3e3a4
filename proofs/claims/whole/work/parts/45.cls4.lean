/-! ===== QueryDesk: run ===== -/
set_option maxHeartbeats 4000000 in
set_option maxRecDepth 100000 in
theorem c_X7_run (G : dk_G) (sr : Nat → Option Nat) (hi : Nat → Nat → Int32) (hf : Nat → Nat → UInt32) (z : (Nat → Nat → Int64) × (Nat → Nat → UInt64)) (n : Int32) (hno : rn_ok (hi 0 4) n = false) :
    dk_MF G yX7_run cX7_run 3 (some .int) 5 121 [.ref 0, .int n] (hi, hf, dk_RF sr, z) (some (.int (-1))) (hi, hf, dk_RF sr, z) := by
  refine dk_met (L := [some (.ref 0), some (.int n), none]) pnX7 rfl (Nat.le_of_ble_eq_true rfl) ?_
  intro X C E hNm
  refine dk_iload_n C dX7_run_0 rfl rfl ?_
  refine dk_iconst C (1) dX7_run_1 rfl ?_
  refine dk_icmp_lt C 20 dX7_run_2 (by decide) (fun c1 => ?_) (fun c1 => ?_)
  · refine dk_iconst C (-1) dX7_run_20 rfl ?_
    exact dk_iret C E dX7_run_21 (Nat.zero_le _) (Nat.zero_le _) (⟨rfl, rfl⟩)
  · refine dk_iload_n C dX7_run_5 rfl rfl ?_
    refine dk_sipush C (200) dX7_run_6 rfl ?_
    refine dk_icmp_gt C 20 dX7_run_9 (by decide) (fun c2 => ?_) (fun c2 => ?_)
    · refine dk_iconst C (-1) dX7_run_20 rfl ?_
      exact dk_iret C E dX7_run_21 (Nat.zero_le _) (Nat.zero_le _) (⟨rfl, rfl⟩)
    · refine dk_aload_n C dX7_run_12 rfl rfl ?_
      refine ek_getI C fX7_37 rfl (by decide) rfl dX7_run_13 ?_
      refine dk_iconst C (1) dX7_run_16 rfl ?_
      refine dk_icmp_eq C 22 dX7_run_17 (by decide) (fun c3 => ?_) (fun c3 => ?_)
      · rw [rn_ok, decide_eq_true ⟨Int32.not_lt.mp c1, Int32.not_lt.mp c2⟩, decide_eq_true c3] at hno
        cases hno
      · refine dk_iconst C (-1) dX7_run_20 rfl ?_
        exact dk_iret C E dX7_run_21 (Nat.zero_le _) (Nat.zero_le _) (⟨rfl, rfl⟩)
def clim (hi : Nat → Nat → Int32) : Int32 := if hi 14 8 = -1 then hi 14 10 else 64
theorem dpI_m1 (d : Nat) (h : d < 2 ^ 31) : dpI d = -1 ↔ d = 0 := by
  cases d with
  | zero => exact ⟨fun _ => rfl, fun _ => dpI_0⟩
  | succ d => exact ⟨fun e => absurd (by rw [dpI_s] at e; exact e) (nI_ne_m1 (n := d) (by omega)), fun e => by omega⟩
theorem aC.done {hi : Nat → Nat → Int32} {no : Nat} {R rk : Nat → Nat} {m : aM} (h : aC hi no R rk m) {lim : Nat} (hl : clim hi = nI lim) (hl64 : lim ≤ 64) (hD : mD m ≤ 3) (ha : ma m ≤ 64) : decide (hi 38 8 = -1 ∨ (if hi 14 8 = -1 then hi 14 10 else 64) ≤ hi 38 6) = bP (dnM lim m) := by
  have e1 : (hi 38 8 = -1 ∨ (if hi 14 8 = -1 then hi 14 10 else 64) ≤ hi 38 6) ↔ dnM lim m := by
    have hle := paD_le (ml m) (mx m) (mD m)
    rw [show (if hi 14 8 = -1 then hi 14 10 else 64) = nI lim from hl, h.1, h.2.2.2.1, dpI_m1 _ (by omega)]
    unfold dnM
    have e2 : nI lim ≤ nI (ma m) ↔ lim ≤ ma m := ⟨fun y => Nat.not_lt.mp (fun z => nI_ge z (by omega) y), fun y => nI_le y (by omega)⟩
    rw [e2]
  by_cases e : dnM lim m
  · rw [bP_t e]; exact decide_eq_true (e1.mpr e)
  · rw [bP_f e]; exact decide_eq_false (fun y => e (e1.mp y))
def rc_Po (hi : Nat → Nat → Int32) (hf : Nat → Nat → UInt32) (sr : Nat → Option Nat) (z : (Nat → Nat → Int64) × (Nat → Nat → UInt64)) (no lim cnt : Nat) (m : aM) : Option Value → dk_H → Prop := fun r' h' => r' = some (.int (nI cnt)) ∧ ∃ hi' R rk, h' = (hi', hf, dk_RF sr, z) ∧ (∀ i j, ¬ (38 ≤ i ∧ i ≤ 44) → ¬ (i = 0 ∧ j = 4) → hi' i j = hi i j) ∧ hi' 38 7 = hi 38 7 + nI cnt ∧ aC hi' no R rk m ∧ hi' 0 4 = (if bP (dnM lim m) = true then 2 else 1)
set_option maxHeartbeats 16000000 in
set_option maxRecDepth 100000 in
theorem c_X7_runM (G : dk_G) (sr : Nat → Option Nat) (hi : Nat → Nat → Int32) (hf : Nat → Nat → UInt32) (z : (Nat → Nat → Int64) × (Nat → Nat → UInt64)) {q : aQ} {p : aP} {ns nc nj no : Nat} {st : Nat → Nat} (hQ : cQ hi sr q ns nc nj no st) (hp : cPl hi p ns) (hW : aW q p ns nc nj) (hsur : aSur p ns) (lim : Nat) (hlim : clim hi = nI lim) (hl64 : lim ≤ 64) (n0 : Nat) (hn1 : 1 ≤ n0) (hn2 : n0 ≤ 200) (h4 : hi 0 4 = 1) (M0 : aM) (R0 rk0 : Nat → Nat) (hI0 : mI q p ns M0) (hA0 : aC hi no R0 rk0 M0) (ha0 : ma M0 ≤ lim) :
    dk_M G yX7_run cX7_run 3 (some .int) { frames := 5, cells := 0, slots := 0, locals := 121 } [.ref 0, .int (nI n0)] 63 (hi, hf, dk_RF sr, z) 63 (rc_Po hi hf sr z no lim (arM q p ns nc nj lim n0 M0).1 (arM q p ns nc nj lim n0 M0).2) := by
  refine dk_met (L := [some (.ref 0), some (.int (nI n0)), none]) pnX7 rfl (Nat.le_of_ble_eq_true rfl) ?_
  intro X C E hNm
  have hns := hQ.1.1.2.1
  have hnj := hQ.1.2.2.1.2.1
  generalize hcnt : (arM q p ns nc nj lim n0 M0).1 = cnt at *
  generalize hMf : (arM q p ns nc nj lim n0 M0).2 = Mf at *
  have nI0 : ∀ x : Int32, x + nI 0 = x := fun x => by rw [show nI 0 = (0 : Int32) from rfl]; exact Int32.add_zero x
  have fin : ∀ h R rk, cf2 hi h → h 38 7 = hi 38 7 + nI cnt → aC h no R rk Mf → mD Mf ≤ 3 → ma Mf ≤ 64 → dk_W X 64 [some (.ref 0), some (.int (nI n0)), some (.int (nI cnt))] [] 63 (h, hf, dk_RF sr, z) 0 0 := by
    intro h R rk g1 g2 g3 g4 g5
    have hl : clim h = nI lim := by rw [← hlim]; unfold clim; rw [g1 14 8 (by omega), g1 14 10 (by omega)]
    refine dk_aload_n C dX7_run_64 rfl rfl ?_
    refine ek_getR C fX7_33 rfl (by decide) rfl 38 rfl dX7_run_65 ?_
    refine dk_aload_n C dX7_run_68 rfl rfl ?_
    refine ek_getR C fX7_19 rfl (by decide) rfl 14 rfl dX7_run_69 ?_
    refine ek_callV C mX7_176 (c_X6_isDone _ _ _ _ _) rfl (by decide) rfl rfl (Nat.le_of_ble_eq_true rfl) (by decide) (by decide) (Nat.zero_le _) (Nat.zero_le _) dX7_run_72 ?_
    rw [g3.done hl hl64 g4 g5]
    refine dk_if_eq C 83 dX7_run_75 (by decide) (fun c1 => ?_) (fun c1 => ?_)
    · refine dk_iload_n C dX7_run_83 rfl rfl ?_
      exact dk_iret C E dX7_run_84 (Nat.zero_le _) (Nat.zero_le _) (⟨rfl, h, R, rk, rfl, fun i j y1 _ => g1 i j y1, g2, g3, by rw [if_neg (by rw [bI_n0 c1]; decide), g1 0 4 (by omega)]; exact h4⟩)
    · refine dk_aload_n C dX7_run_78 rfl rfl ?_
      refine dk_iconst C (2) dX7_run_79 rfl ?_
      refine ek_putI C fX7_37 fwX7_4 rfl (by decide) rfl dX7_run_80 ?_
      refine dk_iload_n C dX7_run_83 rfl rfl ?_
      exact dk_iret C E dX7_run_84 (Nat.zero_le _) (Nat.zero_le _) (⟨rfl, _, R, rk, rfl, fun i j y1 y2 => by rw [dk_up_ne _ _ (by omega)]; exact g1 i j y1, g2, g3, by rw [if_pos (bI_n1 c1)]; exact dk_up_same _ _ _ _⟩)
  have loop : ∀ r c h m R rk, c + r = n0 → cf2 hi h → h 38 7 = hi 38 7 + nI c → aC h no R rk m → mI q p ns m → ma m ≤ lim → c + (arM q p ns nc nj lim r m).1 = cnt → (arM q p ns nc nj lim r m).2 = Mf → dk_W X 24 [some (.ref 0), some (.int (nI n0)), some (.int (nI c))] [] 63 (h, hf, dk_RF sr, z) 0 0 := by
    intro r
    induction r with
    | zero =>
      intro c h m R rk hc g1 g2 g3 hI ha hct hmf
      have ec : c = cnt := hct
      have em : m = Mf := hmf
      refine dk_iload_n C dX7_run_24 rfl rfl ?_
      refine dk_iload_n C dX7_run_25 rfl rfl ?_
      refine dk_icmp_ge C 64 dX7_run_26 (by decide) (fun _ => ?_) (fun hz => absurd (by rw [show c = n0 by omega]; exact Int32.le_refl _) hz)
      rw [ec] at g2 ⊢
      exact fin h R rk g1 g2 (by rw [← em]; exact g3) (by rw [← em]; have := hI.1; omega) (by rw [← em]; omega)
    | succ r ih =>
      intro c h m R rk hc g1 g2 g3 hI ha hct hmf
      have hD3 : mD m ≤ 3 := by have := hI.1; omega
      have hl : clim h = nI lim := by rw [← hlim]; unfold clim; rw [g1 14 8 (by omega), g1 14 10 (by omega)]
      refine dk_iload_n C dX7_run_24 rfl rfl ?_
      refine dk_iload_n C dX7_run_25 rfl rfl ?_
      refine dk_icmp_ge C 64 dX7_run_26 (by decide) (fun hz => absurd hz (nI_ge (by omega) (by omega))) (fun _ => ?_)
      refine dk_aload_n C dX7_run_29 rfl rfl ?_
      refine ek_getR C fX7_33 rfl (by decide) rfl 38 rfl dX7_run_30 ?_
      refine dk_aload_n C dX7_run_33 rfl rfl ?_
      refine ek_getR C fX7_19 rfl (by decide) rfl 14 rfl dX7_run_34 ?_
      refine ek_callV C mX7_176 (c_X6_isDone _ _ _ _ _) rfl (by decide) rfl rfl (Nat.le_of_ble_eq_true rfl) (by decide) (by decide) (Nat.zero_le _) (Nat.zero_le _) dX7_run_37 ?_
      rw [g3.done hl hl64 hD3 (by omega)]
      refine dk_if_ne C 64 dX7_run_40 (by decide) (fun c1 => ?_) (fun c1 => ?_)
      · have hdn := bP_1 (bI_n1 c1)
        rw [arM_done hdn] at hct hmf
        have ec : c = cnt := hct
        have em : m = Mf := hmf
        rw [ec] at g2 ⊢
        exact fin h R rk g1 g2 (by rw [← em]; exact g3) (by rw [← em]; omega) (by rw [← em]; omega)
      · have hdn := bP_0 (bI_n0 c1)
        rw [arM_step hdn] at hct hmf
        have hA := g3.pa
        have hIp := hI.pa
        have hmp : ma (paM m) = ma m := rfl
        have hlt : ma m < lim := Nat.not_le.mp (fun y => hdn (Or.inr y))
        have h0 : 0 < mD (paM m) := Nat.pos_of_ne_zero (fun y => hdn (Or.inl y))
        have hr : rdP (paM m) := ⟨h0, paD_top (ml m) (mx m) (mD m) h0⟩
        generalize paM m = M at *
        have hDn := hIp.1
        have hQ' := hQ.fr (hi' := h) (fun i j y => g1 i j (by omega))
        have hp' := hp.fr (hi' := h) (fun i j y1 y2 => g1 i j (by omega))
        obtain ⟨d, hd⟩ : ∃ d, mD M = d + 1 := ⟨mD M - 1, by omega⟩
        have hd1 : mD M - 1 = d := by omega
        obtain ⟨b1, b2, b3, b4, b5, b6, b7⟩ := hA
        have hdn' : d < ns := by omega
        obtain ⟨hpo, hinj, -⟩ := hW d hdn'
        have h24 : qn q (po p d) ≤ 24 := (hQ'.1.1.2.2 _ hpo).2.2.2
        have hrtop := rdR_top p M
        have hrlt := rdR_lt hIp hr
        have hr2 := hr.2
        rw [hd1] at hrtop hrlt hr2
        obtain ⟨wl, wx⟩ := b2 d (by omega)
        have hpD : paD (ml M) (mx M) (mD M) = mD M := by rw [hd, paD, if_pos hr2]
        have h38 : h 38 8 = nI d := by rw [b1, hpD, hd, dpI_s]
        have hlen := wl.2.1
        -- the rows read, behind this read
        have r42 : ∀ s, s < 3 → wk_read h d (po p d) ((ml M d).getD (mx M d) 0) (mx M d) 42 s = nI (rdR p M s) ∧ rdR p M s < 24 := by
          intro s hs
          by_cases e : s = po p d
          · rw [e]
            refine ⟨?_, by omega⟩
            rw [hrtop, wk_read, dk_up_ne _ _ (Or.inl (by decide)), dk_up_ne _ _ (Or.inl (by decide)), dk_up_same]
          · have e2 : rdR p M s = mr M s := by unfold rdR; rw [hd1, if_neg e]
            rw [e2]
            refine ⟨?_, (b3 s hs).2⟩
            rw [wk_read, dk_up_ne _ _ (Or.inl (by decide)), dk_up_ne _ _ (Or.inl (by decide)), dk_up_ne _ _ (Or.inr e)]
            exact (b3 s hs).1
        have hrp : ∀ i, i ≤ d → rdR p M (po p i) < qn q (po p i) := by
          intro i hi9
          rcases Nat.lt_or_eq_of_le hi9 with y | y
          · rw [rdR_low hW hDn h0 (by omega)]
            exact hIp.lt (by omega) ((hIp.2 i (by omega)).2.2.1 (by omega))
          · rw [y]; exact hrlt
        have hQ3 : cQ (wk_read h d (po p d) ((ml M d).getD (mx M d) 0) (mx M d)) sr q ns nc nj no st := hQ'.fr (fun i j y => wk_read_ne (by omega))
        have hp3 : cPl (wk_read h d (po p d) ((ml M d).getD (mx M d) 0) (mx M d)) p ns := hp'.fr (fun i j y1 y2 => wk_read_ne (by omega))
        obtain ⟨P, srt, f, hop⟩ : ∃ (P : Nat → Bool) (srt : Bool) (f : Nat → Int32), d + 1 < ns → dk_T (st (po p (d + 1))) ∧ h 34 (d + 1) = nI (po p (d + 1)) ∧ po p (d + 1) < 3 ∧ sr (po p (d + 1)) = some (st (po p (d + 1))) ∧ (∃ n9, h (st (po p (d + 1))) 4 = nI n9 ∧ n9 ≤ 24 ∧ lvL q p (rdR p M) (d + 1) = op_L P srt f n9) ∧ op_W (wk_read h d (po p d) ((ml M d).getD (mx M d) 0) (mx M d)) sr (d + 1) (po p (d + 1)) (st (po p (d + 1))) P srt f := by
          by_cases e : d + 1 < ns
          · obtain ⟨P, srt, f, o1, o2⟩ := cOpen hQ3 hp3 hW e r42 (fun i hi9 => hrp i (by omega))
            obtain ⟨s1, s2, s3, s4⟩ := hQ'.1.1.2.2 _ (hW (d + 1) e).1
            exact ⟨P, srt, f, fun _ => ⟨s2, (hp' (d + 1) e).1, by have := (hW (d + 1) e).1; omega, s1, ⟨_, s3, s4, o2.symm⟩, o1⟩⟩
          · exact ⟨fun _ => true, false, fun _ => 0, fun y => absurd y e⟩
        have hms := c_X6_makeStep G sr h hf z hQ'.1 hQ'.2.1 (rdR p M) R d (po p d) ((ml M d).getD (mx M d) 0) (mx M d) (ma M) r42 b4 (by omega) b6 h38 hdn' (hp' d hdn').1 hpo wx (by omega) (wl.2.2.1 _ hr2) (lvL q p (rdR p M) (d + 1)) (st (po p (d + 1))) (po p (d + 1)) P srt f hop
        refine dk_aload_n C dX7_run_43 rfl rfl ?_
        refine ek_getR C fX7_33 rfl (by decide) rfl 38 rfl dX7_run_44 ?_
        refine dk_aload_n C dX7_run_47 rfl rfl ?_
        refine ek_getR C fX7_19 rfl (by decide) rfl 14 rfl dX7_run_48 ?_
        refine dk_aload_n C dX7_run_51 rfl rfl ?_
        refine ek_getR C fX7_26 rfl (by decide) rfl 30 rfl dX7_run_52 ?_
        refine dk_callV C mX7_180 hms rfl (by decide) rfl rfl (Nat.le_of_ble_eq_true rfl) ⟨by decide, by decide⟩ ⟨Nat.zero_le _, Nat.zero_le _⟩ dX7_run_55 ?_
        intro r9 h9 hpost
        rw [← hd1] at hpost
        obtain ⟨rfl, hi', R', rk', rfl, u1, u2, u3⟩ := aC_post hQ' hp' hW hsur hIp ⟨b1, b2, b3, b4, b5, b6, b7⟩ hr (by omega) hpost
        refine dk_iinc C (nI (c + 1)) dX7_run_58 rfl (nI_1 c) (by decide) rfl ?_
        refine dk_goto C 24 dX7_run_61 (by decide) ?_
        refine ih (c + 1) hi' _ R' rk' (by omega) (g1.trans u1) ?_ u3 (hIp.rd hW hnj hr) ?_ (by omega) hmf
        · rw [u2, g2, Int32.add_assoc, show nI c + 1 = nI (c + 1) from nI_1 c]
        · unfold rdM
          split
          · split
            · show ma M + 1 ≤ lim; omega
            · show ma M ≤ lim; omega
          · show ma M ≤ lim; omega
  refine dk_iload_n C dX7_run_0 rfl rfl ?_
  refine dk_iconst C (1) dX7_run_1 rfl ?_
  refine dk_icmp_lt C 20 dX7_run_2 (by decide) (fun hz => absurd hz (Int32.not_lt.mpr (nI_le (a := 1) hn1 (by omega)))) (fun _ => ?_)
  refine dk_iload_n C dX7_run_5 rfl rfl ?_
  refine dk_sipush C (200) dX7_run_6 rfl ?_
  refine dk_icmp_gt C 20 dX7_run_9 (by decide) (fun hz => absurd hz (Int32.not_lt.mpr (nI_le (b := 200) hn2 (by decide)))) (fun _ => ?_)
  refine dk_aload_n C dX7_run_12 rfl rfl ?_
  refine ek_getI C fX7_37 rfl (by decide) rfl dX7_run_13 ?_
  refine dk_iconst C (1) dX7_run_16 rfl ?_
  rw [h4]
  refine dk_icmp_eq C 22 dX7_run_17 (by decide) (fun _ => ?_) (fun hz => absurd (rfl) hz)
  refine dk_iconst C (0) dX7_run_22 rfl ?_
  refine dk_istore_n C dX7_run_23 rfl (by decide) rfl ?_
  exact loop n0 0 hi M0 R0 rk0 (by omega) (cf2.refl hi) (nI0 _).symm hA0 hI0 ha0 (by rw [← hcnt]; omega) hMf
