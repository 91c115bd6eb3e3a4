/-! ===== QueryDeskModel: run ===== -/
def rn_ok (s n : Int32) : Bool := decide (1 ≤ n ∧ n ≤ 200) && decide (s = 1)
set_option maxHeartbeats 4000000 in
set_option maxRecDepth 100000 in
theorem c_X8_run (G : dk_G) (sr : Nat → Option Nat) (hi : Nat → Nat → Int32) (hf : Nat → Nat → UInt32) (z : (Nat → Nat → Int64) × (Nat → Nat → UInt64)) (n : Int32) (hno : rn_ok (hi 45 6) n = false) :
    dk_MF G yX8_run cX8_run 5 (some .int) 4 93 [.ref 45, .int n] (hi, hf, dk_RF sr, z) (some (.int (-1))) (dk_up hi 45 0 0, hf, dk_RF sr, z) := by
  refine dk_met (L := [some (.ref 45), some (.int n), none, none, none]) pnX8 rfl (Nat.le_of_ble_eq_true rfl) ?_
  intro X C E hNm
  refine dk_aload_n C dX8_run_0 rfl rfl ?_
  refine dk_iconst C (0) dX8_run_1 rfl ?_
  refine ek_putI C fX8_59 fwX8_0 rfl (by decide) rfl dX8_run_2 ?_
  refine dk_iload_n C dX8_run_5 rfl rfl ?_
  refine dk_iconst C (1) dX8_run_6 rfl ?_
  refine dk_sipush C (200) dX8_run_7 rfl ?_
  refine ek_callS C mX8_63 (c_X8_in _ _ _ _ _ n 1 200) rfl rfl (Nat.le_of_ble_eq_true rfl) (by decide) (by decide) (Nat.zero_le _) (Nat.zero_le _) dX8_run_10 ?_
  refine dk_if_eq C 24 dX8_run_13 (by decide) (fun c1 => ?_) (fun c1 => ?_)
  · refine dk_iconst C (-1) dX8_run_24 rfl ?_
    exact dk_iret C E dX8_run_25 (Nat.zero_le _) (Nat.zero_le _) (⟨rfl, rfl⟩)
  · refine dk_aload_n C dX8_run_16 rfl rfl ?_
    refine ek_getI C fX8_71 rfl (by decide) rfl dX8_run_17 ?_
    refine dk_iconst C (1) dX8_run_20 rfl ?_
    rw [show dk_up hi 45 0 0 45 6 = hi 45 6 from rfl]
    refine dk_icmp_eq C 26 dX8_run_21 (by decide) (fun c2 => ?_) (fun c2 => ?_)
    · rw [rn_ok, bI_n1 c1, decide_eq_true c2] at hno
      cases hno
    · refine dk_iconst C (-1) dX8_run_24 rfl ?_
      exact dk_iret C E dX8_run_25 (Nat.zero_le _) (Nat.zero_le _) (⟨rfl, rfl⟩)
/-- answered, as the model has it -/
def fM (hi' hi : Nat → Nat → Int32) (m : aM) (R : Nat → Nat) (no : Nat) : Prop := hi' 45 6 = 2 ∧ hi' 45 28 = (if nI (ma m) < hi 45 17 then nI (ma m) else hi 45 17) ∧ ∀ i o, i < ma m → o < no → hi' 60 (4 * i + o) = mF m (if hi 45 15 = -1 then i else R i) o
/-- sorted answers, if there is an order -/
def sM (hi : Nat → Nat → Int32) (m : aM) (R rk : Nat → Nat) (no : Nat) : Prop := hi 45 15 = -1 ∨ ∃ o, o < no ∧ hi 45 15 = nI o ∧ RS (fun x => mF m x o) (hi 45 16) (ma m) R rk
theorem RS.congr {key key' : Nat → Int32} {fl : Int32} {a : Nat} {R rk : Nat → Nat} (h : RS key fl a R rk) (hk : ∀ x, x < a → key' x = key x) : RS key' fl a R rk := by
  refine ⟨h.1, h.2.1, fun u v huv hv => ?_⟩
  rw [hk _ (h.1 v hv).1, hk _ (h.1 u (by omega)).1]
  exact h.2.2 u v huv hv
theorem sM.finP {hi h : Nat → Nat → Int32} {m : aM} {R rk : Nat → Nat} {no : Nat} (hs : sM hi m R rk no) (hno : no ≤ 4) (h15 : h 45 15 = hi 45 15) (h16 : h 45 16 = hi 45 16) (hF : ∀ i o, i < ma m → o < no → h 60 (4 * i + o) = mF m i o) : fin_P h (ma m) R rk := by
  rcases hs with e | ⟨o, o1, o2, o3⟩
  · exact Or.inl (by rw [h15]; exact e)
  · exact Or.inr ⟨o, by omega, by rw [h15]; exact o2, by rw [h16]; exact o3.congr (fun x hx => hF x o hx o1)⟩
theorem fin_hi_fr (hi : Nat → Nat → Int32) (R : Nat → Nat) (a : Nat) : mf2 hi (fin_hi hi R a) := fun i j h => by
  unfold fin_hi fin_s
  rw [dk_up_ne _ _ (by omega)]
  split
  · rw [dk_up_ne _ _ (by omega)]
  · rw [bh_ne _ _ _ (by omega), dk_up_ne _ _ (by omega)]
theorem fin_hi_45 (hi : Nat → Nat → Int32) (R : Nat → Nat) (a : Nat) {j : Nat} (h : j ≠ 6 ∧ j ≠ 28) : fin_hi hi R a 45 j = hi 45 j := by
  unfold fin_hi fin_s
  rw [dk_up_ne _ _ (by omega)]
  split
  · rw [dk_up_ne _ _ (by omega)]
  · rw [bh_ne _ _ _ (by omega), dk_up_ne _ _ (by omega)]
theorem fin_hi_M {hi h : Nat → Nat → Int32} {m : aM} {R rk : Nat → Nat} {no : Nat} (hs : sM hi m R rk no) (hno : no ≤ 4) (h15 : h 45 15 = hi 45 15) (h17 : h 45 17 = hi 45 17) (hF : ∀ i o, i < ma m → o < no → h 60 (4 * i + o) = mF m i o) : fM (fin_hi h R (ma m)) hi m R no := by
  have e45 : ∀ x y : Nat, dk_up h 45 6 2 60 x = h 60 x := fun x y => dk_up_ne _ _ (Or.inl (by decide))
  refine ⟨?_, ?_, fun i o hi' ho => ?_⟩
  · unfold fin_hi fin_s
    rw [dk_up_ne _ _ (by omega)]
    split
    · exact dk_up_same _ _ _ _
    · rw [bh_ne _ _ _ (by omega)]; exact dk_up_same _ _ _ _
  · unfold fin_hi
    rw [dk_up_same, h17]
  · unfold fin_hi fin_s
    rw [dk_up_ne _ _ (by omega), show dk_up h 45 6 2 45 15 = hi 45 15 from h15]
    by_cases e : hi 45 15 = -1
    · rw [if_pos e, if_pos e, e45 _ 0]; exact hF i o hi' ho
    · rw [if_neg e, if_neg e, bh_at _ _ _ hi' (by omega), e45 _ 0]
      rcases hs with y | ⟨o', o1, o2, o3⟩
      · exact absurd y e
      · exact hF _ o (o3.1 i hi').1 ho
def rn_Po (hi : Nat → Nat → Int32) (hf : Nat → Nat → UInt32) (sr : Nat → Option Nat) (z : (Nat → Nat → Int64) × (Nat → Nat → UInt64)) (p : aP) (en : Nat → Nat → Nat) (no lim cnt : Nat) (m : aM) (R : Nat → Nat) : Option Value → dk_H → Prop := fun r' h' => r' = some (.int (nI cnt)) ∧ ∃ hi', h' = (hi', hf, dk_RF sr, z) ∧ mf2 hi hi' ∧ hi' 45 0 = 0 ∧ hi' 45 27 = hi 45 27 + nI cnt ∧ ((¬ dnM lim m ∧ hi' 45 6 = 1 ∧ bM hi' p en no m) ∨ (dnM lim m ∧ fM hi' hi m R no))
theorem paM_fix (m : aM) : paM (paM m) = paM m := by
  show (paD (ml m) (mx m) (paD (ml m) (mx m) (mD m)), m.2) = (paD (ml m) (mx m) (mD m), m.2)
  rw [paD_fix]
theorem dnM_pa (lim : Nat) (m : aM) : dnM lim (paM m) ↔ dnM lim m := by
  show (paD (ml m) (mx m) (paD (ml m) (mx m) (mD m)) = 0 ∨ lim ≤ ma m) ↔ _
  rw [paD_fix]
  exact Iff.rfl
/-- a level finished: the machine is the same without it -/
theorem arM_pop (q : aQ) (p : aP) (ns nc nj lim : Nat) (n : Nat) (m m2 : aM) (h : paM m2 = paM m) : (arM q p ns nc nj lim n m2).1 = (arM q p ns nc nj lim n m).1 ∧ paM (arM q p ns nc nj lim n m2).2 = paM (arM q p ns nc nj lim n m).2 := by
  cases n with
  | zero => exact ⟨rfl, h⟩
  | succ n =>
    have hd : dnM lim m2 ↔ dnM lim m := by rw [← dnM_pa, h, dnM_pa]
    unfold arM
    rw [bP_iff hd, h]
    by_cases e : bP (dnM lim m) = true
    · rw [if_pos e, if_pos e]; exact ⟨rfl, h⟩
    · rw [if_neg e, if_neg e]; exact ⟨rfl, rfl⟩
theorem arM_done {q : aQ} {p : aP} {ns nc nj lim : Nat} {m : aM} (h : dnM lim m) : ∀ n, arM q p ns nc nj lim n m = (0, m)
  | 0 => rfl
  | n + 1 => by rw [arM, if_pos (bP_t h)]
theorem arM_step {q : aQ} {p : aP} {ns nc nj lim : Nat} {m : aM} (h : ¬ dnM lim m) (n : Nat) : arM q p ns nc nj lim (n + 1) m = ((arM q p ns nc nj lim n (rdM q p ns nc nj (paM m))).1 + 1, (arM q p ns nc nj lim n (rdM q p ns nc nj (paM m))).2) := by
  rw [arM, if_neg (by rw [bP_f h]; decide)]
set_option maxHeartbeats 16000000 in
set_option maxRecDepth 100000 in
theorem c_X8_runM (G : dk_G) (sr : Nat → Option Nat) (hi : Nat → Nat → Int32) (hf : Nat → Nat → UInt32) (z : (Nat → Nat → Int64) × (Nat → Nat → UInt64)) {q : aQ} {p : aP} {ns nc nj no : Nat} {jt : Nat → Nat} {en : Nat → Nat → Nat} (hQ : mQ hi q ns nc nj no jt en) (hp : mPl hi p ns) (hW : aW q p ns nc nj) (hsur : aSur p ns) (lim : Nat) (hlim : mlim hi = nI lim) (hl1 : 1 ≤ lim) (hl64 : lim ≤ 64) (n0 : Nat) (hn1 : 1 ≤ n0) (hn2 : n0 ≤ 200) (h6 : hi 45 6 = 1) (M0 : aM) (hI0 : mI q p ns M0) (hB0 : bM hi p en no M0) (ha0 : ma M0 < lim) (hD0 : 0 < mD M0) (R rk : Nat → Nat) (hS : dnM lim (paM (arM q p ns nc nj lim n0 M0).2) → sM hi (paM (arM q p ns nc nj lim n0 M0).2) R rk no) :
    dk_M G yX8_run cX8_run 5 (some .int) { frames := 4, cells := 0, slots := 0, locals := 93 } [.ref 45, .int (nI n0)] 63 (hi, hf, dk_RF sr, z) 63 (rn_Po hi hf sr z p en no lim (arM q p ns nc nj lim n0 M0).1 (paM (arM q p ns nc nj lim n0 M0).2) R) := by
  refine dk_met (L := [some (.ref 45), some (.int (nI n0)), none, none, none]) pnX8 rfl (Nat.le_of_ble_eq_true rfl) ?_
  intro X C E hNm
  have hn3 := hQ.1.2.1
  have hno := hQ.2.2.2.2.2.2.1
  have hnc := hQ.2.2.2.1.2.1
  have hnj := hQ.2.2.2.2.1.2.1
  generalize hcnt : (arM q p ns nc nj lim n0 M0).1 = cnt at *
  generalize hMf : paM (arM q p ns nc nj lim n0 M0).2 = Mf at *
  have ex : ∀ h a4, mf2 hi h → h 45 0 = 0 → h 45 27 = hi 45 27 → ((¬ dnM lim Mf ∧ h 45 6 = 1 ∧ bM h p en no Mf) ∨ (dnM lim Mf ∧ fM h hi Mf R no)) → dk_W X 122 [some (.ref 45), some (.int (nI n0)), some (.int (nI cnt)), some (.int 0), a4] [] 63 (h, hf, dk_RF sr, z) 0 0 := by
    intro h a4 g1 g2 g3 g4
    refine dk_aload_n C dX8_run_122 rfl rfl ?_
    refine dk_dup C dX8_run_123 rfl ?_
    refine ek_getI C fX8_118 rfl (by decide) rfl dX8_run_124 ?_
    rw [g3]
    refine dk_iload_n C dX8_run_127 rfl rfl ?_
    refine dk_iadd C dX8_run_128 ?_
    refine ek_putI C fX8_118 fwX8_27 rfl (by decide) rfl dX8_run_129 ?_
    refine dk_iload_n C dX8_run_132 rfl rfl ?_
    exact dk_iret C E dX8_run_133 (Nat.zero_le _) (Nat.zero_le _) (⟨rfl, _, rfl, fun i j hij => by rw [dk_up_ne _ _ (by omega)]; exact g1 i j hij, g2, dk_up_same _ _ _ _, g4⟩)
  have body : ∀ r d c h m, mD m = d + 1 → mf2 hi h → h 45 0 = 0 → h 45 27 = hi 45 27 → h 45 6 = 1 → bM h p en no m → mI q p ns m → ma m < lim → c + (arM q p ns nc nj lim r m).1 = cnt → paM (arM q p ns nc nj lim r m).2 = Mf →
      (0 < d → paM (d, m.2) = paM m → mI q p ns (d, m.2) → bM (dk_up h 45 26 (nI d - 1)) p en no (d, m.2) → dk_W X 30 [some (.ref 45), some (.int (nI n0)), some (.int (nI c)), some (.int 1), none] [] 63 (dk_up h 45 26 (nI d - 1), hf, dk_RF sr, z) 0 0) →
      (rdP m → (∀ i, i < d → mAt h q p en (mr m) i) → dk_W X 73 [some (.ref 45), some (.int (nI n0)), some (.int (nI c)), some (.int 1), some (.int (nI (en (po p d) ((ml m d).getD (mx m d) 0))))] [] 63 (h, hf, dk_RF sr, z) 0 0) →
      dk_W X 30 [some (.ref 45), some (.int (nI n0)), some (.int (nI c)), some (.int 1), none] [] 63 (h, hf, dk_RF sr, z) 0 0 := by
    intro r d c h m hD g1 g2 g3 g4 hB hI hal hct hmf popK readK
    have hDn := hI.1
    have hd : d < ns := by omega
    have hQ' := hQ.fr g1
    have hp' := hp.fr g1
    obtain ⟨i1, i2, i3, i4⟩ := hI.2 d (by omega)
    have hat : ∀ i, i < d → mAt h q p en (mr m) i := fun i hid => by
      have hx := (hI.2 i (by omega)).2.2.1 (by omega)
      exact ⟨(hB.2.1 i (by omega)).trans (if_neg (by omega)), hI.lt (by omega) hx⟩
    have hcur : mCur h (en (po p d)) (qn q (po p d)) d (if mx m d = 0 then none else some ((ml m d).getD (mx m d - 1) 0)) := by
      by_cases e : mx m d = 0
      · exact Or.inl ⟨if_pos e, (hB.2.1 d (by omega)).trans (if_pos e)⟩
      · refine Or.inr ⟨_, if_neg e, ?_, ?_⟩
        · rw [← i4 (by omega)]; exact hI.lt (by omega) (by omega)
        · rw [← i4 (by omega)]; exact (hB.2.1 d (by omega)).trans (if_neg e)
    have cf := c_X8_following G sr h hf z hQ' hp' hW (mr m) d hd hat _ hcur
    rw [i1, fw_list (lvL_pw hW hnc hnj (mr m) hd) (fun x => op_L_mem _ _ _ _ x) (mx m d) (by rw [← i1]; exact i2), ← i1] at cf
    have h26 : h 45 26 = nI d := by rw [hB.1, hD, dpI_s]
    refine dk_iload_n C dX8_run_30 rfl rfl ?_
    refine dk_if_eq C 122 dX8_run_31 (by decide) (fun hz => absurd hz (by decide)) (fun _ => ?_)
    refine dk_aload_n C dX8_run_34 rfl rfl ?_
    refine dk_aload_n C dX8_run_35 rfl rfl ?_
    refine ek_getI C fX8_163 rfl (by decide) rfl dX8_run_36 ?_
    rw [h26]
    refine ek_callV C mX8_185 (cf) rfl (by decide) rfl rfl (Nat.le_of_ble_eq_true rfl) (by decide) (by decide) (Nat.zero_le _) (Nat.zero_le _) dX8_run_39 ?_
    refine dk_istore C dX8_run_42 (by decide) rfl ?_
    refine dk_iload C dX8_run_44 rfl ?_
    by_cases hlt : mx m d < (ml m d).length
    · have hx60 : en (po p d) ((ml m d).getD (mx m d) 0) < 60 := by
        have h9 := getD_mem hlt
        have h8 : (ml m d).getD (mx m d) 0 < qn q (po p d) := by
          rw [i1] at h9 ⊢; exact lvL_mem h9
        exact (hQ'.2.1 _ (hW d hd).1).2.1 _ h8
      rw [if_pos hlt]
      refine dk_if_ge C 73 dX8_run_46 (by decide) (fun _ => ?_) (fun hz => absurd (nI_pos' (by omega)) hz)
      exact readK ⟨by omega, by rw [hD]; exact hlt⟩ hat
    · rw [if_neg hlt]
      have hpa : paM (d, m.2) = paM m := by
        show (paD (ml m) (mx m) d, m.2) = (paD (ml m) (mx m) (mD m), m.2)
        rw [hD, show paD (ml m) (mx m) (d + 1) = paD (ml m) (mx m) d by rw [paD, if_neg hlt]]
      refine dk_if_ge C 73 dX8_run_46 (by decide) (fun hz => absurd hz ((by decide : ¬ (0 : Int32) ≤ -1))) (fun _ => ?_)
      refine dk_aload_n C dX8_run_49 rfl rfl ?_
      refine dk_dup C dX8_run_50 rfl ?_
      refine ek_getI C fX8_163 rfl (by decide) rfl dX8_run_51 ?_
      rw [h26]
      refine dk_iconst C (1) dX8_run_54 rfl ?_
      refine dk_isub C dX8_run_55 ?_
      refine ek_putI C fX8_163 fwX8_26 rfl (by decide) rfl dX8_run_56 ?_
      refine dk_aload_n C dX8_run_59 rfl rfl ?_
      refine ek_getI C fX8_163 rfl (by decide) rfl dX8_run_60 ?_
      rw [dk_up_same]
      refine dk_forgetAt 4 ?_
      rcases Nat.eq_zero_or_pos d with e0 | e0
      · subst e0
        have hdn : dnM lim m := Or.inl (by rw [hD, paD, if_neg hlt]; rfl)
        rw [arM_done hdn] at hct hmf
        have hdf : dnM lim Mf := by rw [← hmf]; exact (dnM_pa _ _).mpr hdn
        have hsm := hS hdf
        have hma : ma Mf = ma m := by rw [← hmf]; rfl
        have hFf : ∀ i o, i < ma Mf → o < no → dk_up h 45 26 (nI 0 - 1) 60 (4 * i + o) = mF Mf i o := by
          rw [← hmf]
          exact fun i o q1 q2 => hB.2.2.2 i o q1 q2
        refine dk_if_ge C 101 dX8_run_63 (by decide) (fun hz => absurd hz ((by decide : ¬ (0 : Int32) ≤ nI 0 - 1))) (fun _ => ?_)
        have h15 : dk_up h 45 26 (nI 0 - 1) 45 15 = hi 45 15 := g1 45 15 (by omega)
        have h17 : dk_up h 45 26 (nI 0 - 1) 45 17 = hi 45 17 := g1 45 17 (by omega)
        have hfm := fin_hi_M hsm hno h15 h17 hFf
        have hfr : mf2 hi (fin_hi (dk_up h 45 26 (nI 0 - 1)) R (ma Mf)) := (g1.trans (fun i j hij => dk_up_ne _ _ (by omega))).trans (fin_hi_fr _ _ _)
        have e0 : fin_hi (dk_up h 45 26 (nI 0 - 1)) R (ma Mf) 45 0 = 0 := (fin_hi_45 _ _ _ (by decide)).trans g2
        have e27 : fin_hi (dk_up h 45 26 (nI 0 - 1)) R (ma Mf) 45 27 = hi 45 27 := (fin_hi_45 _ _ _ (by decide)).trans g3
        have ec : c = cnt := hct
        refine dk_aload_n C dX8_run_66 rfl rfl ?_
        refine ek_callVv C mX8_179 (c_X8_finish _ _ (dk_up h 45 26 (nI 0 - 1)) _ _ (ma Mf) (by rw [hma]; exact hB.2.2.1) (by omega) R rk (hsm.finP hno h15 (g1 45 16 (by omega)) hFf)) rfl (by decide) rfl rfl (Nat.le_of_ble_eq_true rfl) (by decide) (by decide) (Nat.zero_le _) (Nat.zero_le _) dX8_run_67 ?_
        refine dk_goto C 101 dX8_run_70 (by decide) ?_
        refine dk_iload_n C dX8_run_101 rfl rfl ?_
        refine dk_if_eq C 117 dX8_run_102 (by decide) (fun hz => absurd hz (by decide)) (fun _ => ?_)
        refine dk_aload_n C dX8_run_105 rfl rfl ?_
        refine ek_getI C fX8_71 rfl (by decide) rfl dX8_run_106 ?_
        refine dk_iconst C (1) dX8_run_109 rfl ?_
        rw [hfm.1]
        refine dk_icmp_ne C 117 dX8_run_110 (by decide) (fun _ => ?_) (fun hz => absurd hz (by decide))
        refine dk_iconst C (0) dX8_run_117 rfl ?_
        refine dk_istore_n C dX8_run_118 rfl (by decide) rfl ?_
        refine dk_goto C 30 dX8_run_119 (by decide) ?_
        refine dk_iload_n C dX8_run_30 rfl rfl ?_
        refine dk_if_eq C 122 dX8_run_31 (by decide) (fun _ => ?_) (fun hz => absurd (rfl) hz)
        rw [ec]
        exact ex _ _ hfr e0 e27 (Or.inr ⟨hdf, hfm⟩)
      · refine dk_if_ge C 101 dX8_run_63 (by decide) (fun _ => ?_) (fun hz => absurd (by rw [nIm1 e0]; exact nI_pos' (by omega)) hz)
        refine dk_iload_n C dX8_run_101 rfl rfl ?_
        refine dk_if_eq C 117 dX8_run_102 (by decide) (fun hz => absurd hz (by decide)) (fun _ => ?_)
        refine dk_aload_n C dX8_run_105 rfl rfl ?_
        refine ek_getI C fX8_71 rfl (by decide) rfl dX8_run_106 ?_
        refine dk_iconst C (1) dX8_run_109 rfl ?_
        rw [show dk_up h 45 26 (nI d - 1) 45 6 = 1 from g4]
        refine dk_icmp_ne C 117 dX8_run_110 (by decide) (fun hz => absurd hz (by decide)) (fun _ => ?_)
        refine dk_iconst C (1) dX8_run_113 rfl ?_
        refine dk_goto C 118 dX8_run_114 (by decide) ?_
        refine dk_istore_n C dX8_run_118 rfl (by decide) rfl ?_
        refine dk_goto C 30 dX8_run_119 (by decide) ?_
        refine popK e0 hpa ⟨by show d ≤ ns; omega, fun k hk => ?_⟩ ⟨?_, ?_, hB.2.2.1, hB.2.2.2⟩
        · have hk' : k < d := hk
          obtain ⟨y1, y2, y3, y4⟩ := hI.2 k (by omega)
          exact ⟨y1, y2, fun z9 => y3 (by have : k + 1 < d := z9; omega), y4⟩
        · rw [dk_up_same]; rfl
        · intro k hk
          have hk' : k < d := hk
          exact hB.2.1 k (by omega)
  have loop : ∀ r D c h m, mD m = D → c + r = n0 → mf2 hi h → h 45 0 = 0 → h 45 27 = hi 45 27 → h 45 6 = 1 → bM h p en no m → mI q p ns m → ma m < lim → 0 < mD m → c + (arM q p ns nc nj lim r m).1 = cnt → paM (arM q p ns nc nj lim r m).2 = Mf → dk_W X 30 [some (.ref 45), some (.int (nI n0)), some (.int (nI c)), some (.int 1), none] [] 63 (h, hf, dk_RF sr, z) 0 0 := by
    intro r
    induction r with
    | zero =>
      intro D
      induction D with
      | zero => intro c h m hD _ _ _ _ _ _ _ _ h0; omega
      | succ d ihD =>
        intro c h m hD hc g1 g2 g3 g4 hB hI hal h0 hct hmf
        refine body 0 d c h m hD g1 g2 g3 g4 hB hI hal hct hmf (fun d0 hpa hI2 hB2 => ?_) (fun hr hat => ?_)
        · refine ihD c _ (d, m.2) rfl hc (g1.trans (fun i j hij => dk_up_ne _ _ (by omega))) g2 g3 g4 hB2 hI2 hal d0 ?_ ?_
          · rw [(arM_pop q p ns nc nj lim 0 m (d, m.2) hpa).1]; exact hct
          · rw [(arM_pop q p ns nc nj lim 0 m (d, m.2) hpa).2]; exact hmf
        · have hm : paM m = m := by
            show (paD (ml m) (mx m) (mD m), m.2) = m
            rw [show paD (ml m) (mx m) (mD m) = mD m by
              rw [hD, paD, if_pos (by have := hr.2; rw [hD] at this; exact this)]]
          have hmf' : m = Mf := by rw [← hm]; exact hmf
          have hnd : ¬ dnM lim m := fun y => by
            rcases y with y | y
            · have : paD (ml m) (mx m) (mD m) = mD m := by rw [hD, paD, if_pos (by have := hr.2; rw [hD] at this; exact this)]
              omega
            · omega
          have ec : c = cnt := hct
          refine dk_iload_n C dX8_run_73 rfl rfl ?_
          refine dk_iload_n C dX8_run_74 rfl rfl ?_
          refine dk_icmp_ge C 99 dX8_run_75 (by decide) (fun _ => ?_) (fun hz => absurd (by rw [show c = n0 by omega]; exact Int32.le_refl _) hz)
          refine dk_iconst C (0) dX8_run_99 rfl ?_
          refine dk_istore_n C dX8_run_100 rfl (by decide) rfl ?_
          refine dk_iload_n C dX8_run_101 rfl rfl ?_
          refine dk_if_eq C 117 dX8_run_102 (by decide) (fun _ => ?_) (fun hz => absurd (rfl) hz)
          refine dk_iconst C (0) dX8_run_117 rfl ?_
          refine dk_istore_n C dX8_run_118 rfl (by decide) rfl ?_
          refine dk_goto C 30 dX8_run_119 (by decide) ?_
          refine dk_iload_n C dX8_run_30 rfl rfl ?_
          refine dk_if_eq C 122 dX8_run_31 (by decide) (fun _ => ?_) (fun hz => absurd (rfl) hz)
          rw [ec]
          exact ex _ _ g1 g2 g3 (Or.inl ⟨by rw [← hmf']; exact hnd, g4, by rw [← hmf']; exact hB⟩)
    | succ r ihr =>
      intro D
      induction D with
      | zero => intro c h m hD _ _ _ _ _ _ _ _ h0; omega
      | succ d ihD =>
        intro c h m hD hc g1 g2 g3 g4 hB hI hal h0 hct hmf
        refine body (r + 1) d c h m hD g1 g2 g3 g4 hB hI hal hct hmf (fun d0 hpa hI2 hB2 => ?_) (fun hr hat => ?_)
        · refine ihD c _ (d, m.2) rfl hc (g1.trans (fun i j hij => dk_up_ne _ _ (by omega))) g2 g3 g4 hB2 hI2 hal d0 ?_ ?_
          · rw [(arM_pop q p ns nc nj lim (r + 1) m (d, m.2) hpa).1]; exact hct
          · rw [(arM_pop q p ns nc nj lim (r + 1) m (d, m.2) hpa).2]; exact hmf
        · have hlt : mx m d < (ml m d).length := by have := hr.2; rw [hD] at this; exact this
          have hpD : paD (ml m) (mx m) (mD m) = mD m := by rw [hD, paD, if_pos hlt]
          have hm : paM m = m := by
            show (paD (ml m) (mx m) (mD m), m.2) = m
            rw [hpD]
          have hnd : ¬ dnM lim m := fun y => by
            rcases y with y | y
            · omega
            · omega
          rw [arM_step hnd, hm] at hct hmf
          have hd1 : mD m - 1 = d := by omega
          have hdn : d < ns := by have := hI.1; omega
          have hIr := hI.rd (nc := nc) hW hnj hr
          have etop : rdR p m (po p d) = (ml m d).getD (mx m d) 0 := by have := rdR_top p m; rw [hd1] at this; exact this
          have etlt : rdR p m (po p d) < qn q (po p d) := by have := rdR_lt hI hr; rw [hd1] at this; exact this
          have elow : ∀ i, i < d → rdR p m (po p i) = mr m (po p i) := fun i hid => rdR_low hW hI.1 h0 (by omega)
          have h26 : h 45 26 = nI d := by rw [hB.1, hD, dpI_s]
          have hx60 : en (po p d) (rdR p m (po p d)) < 60 := ((hQ.fr g1).2.1 _ (hW d hdn).1).2.1 _ etlt
          rw [← etop]
          generalize hh1 : dk_up h 59 d (nI (en (po p d) (rdR p m (po p d)))) = h1 at *
          have hf1 : mf2 h h1 := by rw [← hh1]; exact fun i j hij => dk_up_ne _ _ (by omega)
          have hat1 : ∀ i, i ≤ d → mAt h1 q p en (rdR p m) i := by
            intro i hid
            rw [← hh1]
            rcases Nat.lt_or_eq_of_le hid with y | y
            · refine ⟨?_, by rw [elow i y]; exact (hat i y).2⟩
              rw [dk_up_ne _ _ (Or.inr (by omega)), elow i y]; exact (hat i y).1
            · subst y
              exact ⟨dk_up_same _ _ _ _, etlt⟩
          have k0 : h1 45 0 = 0 := by rw [← hh1]; exact g2
          have k27 : h1 45 27 = hi 45 27 := by rw [← hh1]; exact g3
          have k6 : h1 45 6 = 1 := by rw [← hh1]; exact g4
          have k26 : h1 45 26 = nI d := by rw [← hh1]; exact h26
          have k28 : h1 45 28 = nI (ma m) := by rw [← hh1]; exact hB.2.2.1
          have k60 : ∀ i o, i < ma m → o < no → h1 60 (4 * i + o) = mF m i o := by rw [← hh1]; exact hB.2.2.2
          have k59 : ∀ k, k < mD m → h1 59 k = nI (en (po p k) (rdR p m (po p k))) := fun k hk => (hat1 k (by omega)).1
          have hg1 : mf2 hi h1 := g1.trans hf1
          have hml : mlim h1 = nI lim := by rw [← hlim]; unfold mlim; rw [hg1 45 15 (by omega), hg1 45 17 (by omega)]
          have x59 : ∀ k, k < mD m → ¬ rdX m k = 0 := fun k hk => by
            unfold rdX
            split
            · omega
            · have := (hI.2 k hk).2.2.1 (by omega); omega
          -- the answer given
          have gF : ∀ i o, i < ma m + 1 → o < no → gvf h1 q (rdR p m) (ma m) no 60 (4 * i + o) = (if i = ma m then gvv q (rdR p m) o else mF m i o) := by
            intro i o y1 y2
            unfold gvf
            rw [dk_up_ne _ _ (Or.inl (by decide)), gvw_at]
            by_cases e : i = ma m
            · rw [if_pos (by omega), if_pos e, show 4 * i + o - 4 * ma m = o by omega]
            · rw [if_neg (by omega), if_neg e]; exact k60 i o (by omega) y2
          have hful : aPS q p (rdR p m) d nc nj → d + 1 = ns → rdM q p ns nc nj m = (mD m, ml m, rdX m, rdR p m, ma m + 1, fun i o => if i = ma m then gvv q (rdR p m) o else mF m i o) := by
            intro y1 y2
            unfold rdM
            rw [hd1, if_pos (bP_t y1), if_pos (by omega)]
          have hend : aPS q p (rdR p m) d nc nj → d + 1 = ns → nI (ma m + 1) = mlim h1 → dnM lim Mf ∧ sM hi Mf R rk no ∧ ma Mf = ma m + 1 ∧ (mF Mf = fun i o => if i = ma m then gvv q (rdR p m) o else mF m i o) ∧ c + 1 = cnt := by
            intro y1 y2 y3
            have e1 : ma m + 1 = lim := (nI_eq (by omega) (by omega)).mp (y3.trans hml)
            have hdn2 : dnM lim (rdM q p ns nc nj m) := by rw [hful y1 y2]; exact Or.inr (by show lim ≤ ma m + 1; omega)
            rw [arM_done hdn2] at hct hmf
            have hdf : dnM lim Mf := by rw [← hmf]; exact (dnM_pa _ _).mpr hdn2
            refine ⟨hdf, hS hdf, ?_, ?_, ?_⟩
            · rw [← hmf, hful y1 y2]; rfl
            · rw [← hmf, hful y1 y2]; rfl
            · exact hct
          have hfinP : aPS q p (rdR p m) d nc nj → d + 1 = ns → nI (ma m + 1) = mlim h1 → fin_P (gvf h1 q (rdR p m) (ma m) no) (ma m + 1) R rk := by
            intro y1 y2 y3
            obtain ⟨e1, e2, e3, e4, e5⟩ := hend y1 y2 y3
            have hg := gvf_fr h1 q (rdR p m) (ma m) no
            have h9 := e2.finP (h := gvf h1 q (rdR p m) (ma m) no) hno ((hg 45 15 (by omega)).trans (hg1 45 15 (by omega))) ((hg 45 16 (by omega)).trans (hg1 45 16 (by omega))) (by rw [e3, e4]; exact gF)
            rw [e3] at h9
            exact h9
          have cont : ∀ h2 a4, mf2 hi h2 → h2 45 0 = 0 → h2 45 27 = hi 45 27 → h2 45 6 = 1 → bM h2 p en no (rdM q p ns nc nj m) → ma (rdM q p ns nc nj m) < lim → 0 < mD (rdM q p ns nc nj m) → dk_W X 101 [some (.ref 45), some (.int (nI n0)), some (.int (nI (c + 1))), some (.int 1), a4] [] 63 (h2, hf, dk_RF sr, z) 0 0 := by
            intro h2 a4 y1 y2 y3 y4 y5 y6 y7
            refine dk_iload_n C dX8_run_101 rfl rfl ?_
            refine dk_if_eq C 117 dX8_run_102 (by decide) (fun hz => absurd hz (by decide)) (fun _ => ?_)
            refine dk_aload_n C dX8_run_105 rfl rfl ?_
            refine ek_getI C fX8_71 rfl (by decide) rfl dX8_run_106 ?_
            refine dk_iconst C (1) dX8_run_109 rfl ?_
            rw [y4]
            refine dk_icmp_ne C 117 dX8_run_110 (by decide) (fun hz => absurd hz (by decide)) (fun _ => ?_)
            refine dk_iconst C (1) dX8_run_113 rfl ?_
            refine dk_goto C 118 dX8_run_114 (by decide) ?_
            refine dk_istore_n C dX8_run_118 rfl (by decide) rfl ?_
            refine dk_goto C 30 dX8_run_119 (by decide) ?_
            refine dk_forgetAt 4 ?_
            exact ihr (mD (rdM q p ns nc nj m)) (c + 1) h2 _ rfl (by omega) y1 y2 y3 y4 y5 hIr y6 y7 (by omega) hmf
          refine dk_iload_n C dX8_run_73 rfl rfl ?_
          refine dk_iload_n C dX8_run_74 rfl rfl ?_
          refine dk_icmp_ge C 99 dX8_run_75 (by decide) (fun hz => absurd hz (nI_ge (by omega) (by omega))) (fun _ => ?_)
          refine dk_aload_n C dX8_run_78 rfl rfl ?_
          refine ek_getR C fX8_50 rfl (by decide) rfl 59 rfl dX8_run_79 ?_
          refine dk_aload_n C dX8_run_82 rfl rfl ?_
          refine ek_getI C fX8_163 rfl (by decide) rfl dX8_run_83 ?_
          refine dk_iload C dX8_run_86 rfl ?_
          refine ek_iast C rfl (by decide) (d) (h26) (by omega) (by decide) dX8_run_88 ?_
          rw [hh1]
          refine dk_iinc C (nI (c + 1)) dX8_run_89 rfl (nI_1 c) (by decide) rfl ?_
          refine dk_aload_n C dX8_run_92 rfl rfl ?_
          refine ek_callVv C mX8_188 (c_X8_step _ _ _ _ _ (hQ.fr hg1) (hp.fr hg1) hW hsur (rdR p m) d hdn k26 hat1 (ma m) k28 (by omega) R rk hfinP) rfl (by decide) rfl rfl (Nat.le_of_ble_eq_true rfl) (by decide) (by decide) (Nat.zero_le _) (Nat.zero_le _) dX8_run_93 ?_
          refine dk_goto C 101 dX8_run_96 (by decide) ?_
          unfold st_hi
          by_cases hps : aPS q p (rdR p m) d nc nj
          · rw [if_pos (bP_t hps)]
            by_cases hns : d + 1 = ns
            · rw [if_pos hns]
              unfold gv_hi
              by_cases hl : nI (ma m + 1) = mlim h1
              · obtain ⟨e1, e2, e3, e4, e5⟩ := hend hps hns hl
                rw [if_pos hl]
                have hg := gvf_fr h1 q (rdR p m) (ma m) no
                have hfm := fin_hi_M (h := gvf h1 q (rdR p m) (ma m) no) e2 hno ((hg 45 15 (by omega)).trans (hg1 45 15 (by omega))) ((hg 45 17 (by omega)).trans (hg1 45 17 (by omega))) (by rw [e3, e4]; exact gF)
                rw [e3] at hfm
                have hfr : mf2 hi (fin_hi (gvf h1 q (rdR p m) (ma m) no) R (ma m + 1)) := (hg1.trans hg).trans (fin_hi_fr _ _ _)
                have f0 : fin_hi (gvf h1 q (rdR p m) (ma m) no) R (ma m + 1) 45 0 = 0 := by
                  rw [fin_hi_45 _ _ _ (by decide), gvf, dk_up_ne _ _ (by omega), gvw_ne (by decide)]; exact k0
                have f27 : fin_hi (gvf h1 q (rdR p m) (ma m) no) R (ma m + 1) 45 27 = hi 45 27 := by
                  rw [fin_hi_45 _ _ _ (by decide), gvf, dk_up_ne _ _ (by omega), gvw_ne (by decide)]; exact k27
                refine dk_iload_n C dX8_run_101 rfl rfl ?_
                refine dk_if_eq C 117 dX8_run_102 (by decide) (fun hz => absurd hz (by decide)) (fun _ => ?_)
                refine dk_aload_n C dX8_run_105 rfl rfl ?_
                refine ek_getI C fX8_71 rfl (by decide) rfl dX8_run_106 ?_
                refine dk_iconst C (1) dX8_run_109 rfl ?_
                rw [hfm.1]
                refine dk_icmp_ne C 117 dX8_run_110 (by decide) (fun _ => ?_) (fun hz => absurd hz (by decide))
                refine dk_iconst C (0) dX8_run_117 rfl ?_
                refine dk_istore_n C dX8_run_118 rfl (by decide) rfl ?_
                refine dk_goto C 30 dX8_run_119 (by decide) ?_
                refine dk_iload_n C dX8_run_30 rfl rfl ?_
                refine dk_if_eq C 122 dX8_run_31 (by decide) (fun _ => ?_) (fun hz => absurd (rfl) hz)
                rw [e5]
                exact ex _ _ hfr f0 f27 (Or.inr ⟨e1, hfm⟩)
              · rw [if_neg hl]
                have hg := gvf_fr h1 q (rdR p m) (ma m) no
                have g45 : ∀ j, j ≠ 28 → gvf h1 q (rdR p m) (ma m) no 45 j = h1 45 j := fun j hj => by rw [gvf, dk_up_ne _ _ (by omega), gvw_ne (by decide)]
                refine cont _ _ (hg1.trans hg) (by rw [g45 _ (by decide)]; exact k0) (by rw [g45 _ (by decide)]; exact k27) (by rw [g45 _ (by decide)]; exact k6) ?_ ?_ ?_
                · rw [hful hps hns]
                  refine ⟨by rw [g45 _ (by decide), k26]; show nI d = dpI (mD m); rw [hD, dpI_s], fun k hk => ?_, dk_up_same _ _ _ _, gF⟩
                  have hk' : k < mD m := hk
                  show gvf h1 q (rdR p m) (ma m) no 59 k = if rdX m k = 0 then -1 else _
                  rw [if_neg (x59 k hk'), gvf, dk_up_ne _ _ (Or.inl (by decide)), gvw_ne (by decide)]
                  exact k59 k hk'
                · rw [hful hps hns]
                  show ma m + 1 < lim
                  have : ma m + 1 ≠ lim := fun y => hl (by rw [hml, y])
                  omega
                · rw [hful hps hns]; exact h0
            · rw [if_neg hns]
              have hrd : rdM q p ns nc nj m = (mD m + 1, (fun k => if k = mD m then lvL q p (rdR p m) (mD m) else ml m k), (fun k => if k = mD m then 0 else rdX m k), rdR p m, ma m, mF m) := by
                unfold rdM
                rw [hd1, if_pos (bP_t hps), if_neg (by omega)]
              refine cont _ _ (hg1.trans (fun i j hij => by rw [dk_up_ne _ _ (by omega), dk_up_ne _ _ (by omega)])) k0 k27 k6 ?_ ?_ ?_
              · rw [hrd]
                refine ⟨?_, fun k hk => ?_, k28, k60⟩
                · show nI (d + 1) = dpI (mD m + 1)
                  rw [hD, dpI_s]
                · have hk' : k < mD m + 1 := hk
                  show dk_up (dk_up h1 45 26 (nI (d + 1))) 59 (d + 1) (-1) 59 k = if (if k = mD m then 0 else rdX m k) = 0 then -1 else _
                  by_cases e : k = mD m
                  · rw [if_pos e, if_pos rfl, e, hD]; exact dk_up_same _ _ _ _
                  · rw [if_neg e, if_neg (x59 k (by omega)), dk_up_ne _ _ (Or.inr (by omega)), dk_up_ne _ _ (Or.inl (by decide))]
                    exact k59 k (by omega)
              · rw [hrd]; exact hal
              · rw [hrd]; exact Nat.succ_pos _
          · rw [if_neg (by rw [bP_f hps]; decide)]
            have hrd : rdM q p ns nc nj m = (mD m, ml m, rdX m, rdR p m, ma m, mF m) := by
              unfold rdM
              rw [hd1, if_neg (by rw [bP_f hps]; decide)]
            refine cont _ _ hg1 k0 k27 k6 ?_ ?_ ?_
            · rw [hrd]
              refine ⟨by rw [k26]; show nI d = dpI (mD m); rw [hD, dpI_s], fun k hk => ?_, k28, k60⟩
              have hk' : k < mD m := hk
              show h1 59 k = if rdX m k = 0 then -1 else _
              rw [if_neg (x59 k hk')]
              exact k59 k hk'
            · rw [hrd]; exact hal
            · rw [hrd]; exact h0
  refine dk_aload_n C dX8_run_0 rfl rfl ?_
  refine dk_iconst C (0) dX8_run_1 rfl ?_
  refine ek_putI C fX8_59 fwX8_0 rfl (by decide) rfl dX8_run_2 ?_
  refine dk_iload_n C dX8_run_5 rfl rfl ?_
  refine dk_iconst C (1) dX8_run_6 rfl ?_
  refine dk_sipush C (200) dX8_run_7 rfl ?_
  refine ek_callS C mX8_63 (c_X8_in _ _ _ _ _ (nI n0) 1 200) rfl rfl (Nat.le_of_ble_eq_true rfl) (by decide) (by decide) (Nat.zero_le _) (Nat.zero_le _) dX8_run_10 ?_
  rw [show decide ((1 : Int32) ≤ nI n0 ∧ nI n0 ≤ 200) = true from decide_eq_true ⟨nI_le (a := 1) hn1 (by omega), nI_le (b := 200) hn2 (by decide)⟩]
  refine dk_if_eq C 24 dX8_run_13 (by decide) (fun hz => absurd hz (by decide)) (fun _ => ?_)
  refine dk_aload_n C dX8_run_16 rfl rfl ?_
  refine ek_getI C fX8_71 rfl (by decide) rfl dX8_run_17 ?_
  refine dk_iconst C (1) dX8_run_20 rfl ?_
  rw [show dk_up hi 45 0 0 45 6 = 1 from h6]
  refine dk_icmp_eq C 26 dX8_run_21 (by decide) (fun _ => ?_) (fun hz => absurd (rfl) hz)
  refine dk_iconst C (0) dX8_run_26 rfl ?_
  refine dk_istore_n C dX8_run_27 rfl (by decide) rfl ?_
  refine dk_iconst C (1) dX8_run_28 rfl ?_
  refine dk_istore_n C dX8_run_29 rfl (by decide) rfl ?_
  exact loop n0 (mD M0) 0 _ M0 rfl (by omega) (fun i j hij => dk_up_ne _ _ (by omega)) rfl rfl h6 hB0 hI0 ha0 hD0 (by rw [← hcnt]; omega) hMf
