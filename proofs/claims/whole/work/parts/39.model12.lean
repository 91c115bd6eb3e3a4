/-! ===== QueryDeskModel: give, step ===== -/
/-- what the working off may change of the model -/
def mf2 (hi hi' : Nat → Nat → Int32) : Prop := ∀ i j, ¬ (i = 60 ∨ i = 59 ∨ (i = 45 ∧ (j = 0 ∨ j = 6 ∨ 26 ≤ j))) → hi' i j = hi i j
theorem mf2.refl (hi : Nat → Nat → Int32) : mf2 hi hi := fun _ _ _ => rfl
theorem mf2.trans {hi h2 h3 : Nat → Nat → Int32} (a : mf2 hi h2) (b : mf2 h2 h3) : mf2 hi h3 := fun i j h => (b i j h).trans (a i j h)
theorem mQ.fr {hi hi' : Nat → Nat → Int32} {q : aQ} {ns nc nj no : Nat} {jt : Nat → Nat} {en : Nat → Nat → Nat} (h : mQ hi q ns nc nj no jt en) (hh : mf2 hi hi') : mQ hi' q ns nc nj no jt en := by
  obtain ⟨⟨a1, a2, a3⟩, h2, h3, ⟨b1, b2, b3⟩, ⟨c1, c2, c3⟩, d1, d2, d3⟩ := h
  refine ⟨⟨by rw [hh 45 7 (by omega)]; exact a1, a2, fun k hk => ?_⟩, fun s hs => ?_, fun s c p hs hc hp => by rw [hh 49 _ (by omega)]; exact h3 s c p hs hc hp, ⟨by rw [hh 45 9 (by omega)]; exact b1, b2, fun i hi9 => ?_⟩, ⟨by rw [hh 45 11 (by omega)]; exact c1, c2, fun j hj => ⟨(c3 j hj).1, fun e he => ?_⟩⟩, by rw [hh 45 13 (by omega)]; exact d1, d2, fun i hi9 => ?_⟩
  · obtain ⟨q1, q2, q3⟩ := a3 k hk
    exact ⟨by rw [hh 51 k (by omega)]; exact q1, q2, by rw [hh 46 _ (by omega)]; exact q3⟩
  · obtain ⟨q1, q2, q3, q4⟩ := h2 s hs
    exact ⟨q1, q2, fun r hr => by rw [hh 48 _ (by omega)]; exact q3 r hr, q4⟩
  · obtain ⟨q1, q2, q3, q4, q5⟩ := b3 i hi9
    exact ⟨q1, by rw [hh 52 _ (by omega)]; exact q2, by rw [hh 52 _ (by omega)]; exact q3, by rw [hh 52 _ (by omega)]; exact q4, by rw [hh 52 _ (by omega)]; exact q5⟩
  · obtain ⟨q1, q2, q3⟩ := (c3 j hj).2 e he
    exact ⟨q1, by rw [hh 53 _ (by omega)]; exact q2, by rw [hh 53 _ (by omega)]; exact q3⟩
  · obtain ⟨q1, q2, q3⟩ := d3 i hi9
    exact ⟨q1, by rw [hh 54 _ (by omega)]; exact q2, by rw [hh 54 _ (by omega)]; exact q3⟩
theorem mPl.fr {hi hi' : Nat → Nat → Int32} {p : aP} {ns : Nat} (h : mPl hi p ns) (hh : mf2 hi hi') : mPl hi' p ns := fun k hk => by
  obtain ⟨q1, q2, q3, q4⟩ := h k hk
  exact ⟨by rw [hh 55 _ (by omega)]; exact q1, by rw [hh 56 _ (by omega)]; exact q2, by rw [hh 57 _ (by omega)]; exact q3, by rw [hh 58 _ (by omega)]; exact q4⟩
def aSur (p : aP) (ns : Nat) : Prop := ∀ s, s < ns → ∃ k, k < ns ∧ po p k = s
/-- an answer's values -/
def gvv (q : aQ) (rp : Nat → Nat) (i : Nat) : Int32 := qV q (qu q i 0) (qu q i 1) (rp (qu q i 0))
def gvw (hi : Nat → Nat → Int32) (q : aQ) (rp : Nat → Nat) (a : Nat) : Nat → Nat → Nat → Int32
  | 0 => hi
  | i + 1 => dk_up (gvw hi q rp a i) 60 (4 * a + i) (gvv q rp i)
theorem gvw_ne {hi : Nat → Nat → Int32} {q : aQ} {rp : Nat → Nat} {a i j : Nat} (h : i ≠ 60) : ∀ n, gvw hi q rp a n i j = hi i j
  | 0 => rfl
  | n + 1 => by
    show dk_up _ _ _ _ i j = _
    rw [dk_up_ne _ _ (Or.inl h), gvw_ne h n]
theorem gvw_at {hi : Nat → Nat → Int32} {q : aQ} {rp : Nat → Nat} {a : Nat} : ∀ n j, gvw hi q rp a n 60 j = if 4 * a ≤ j ∧ j < 4 * a + n then gvv q rp (j - 4 * a) else hi 60 j
  | 0, j => by rw [if_neg (by omega)]; rfl
  | n + 1, j => by
    show dk_up _ _ _ _ 60 j = _
    by_cases e : j = 4 * a + n
    · subst e
      rw [dk_up_same, if_pos (by omega)]
      congr 1
      omega
    · rw [dk_up_ne _ _ (Or.inr e), gvw_at n j]
      by_cases e2 : 4 * a ≤ j ∧ j < 4 * a + n
      · rw [if_pos e2, if_pos (by omega)]
      · rw [if_neg e2, if_neg (by omega)]
def gvf (hi : Nat → Nat → Int32) (q : aQ) (rp : Nat → Nat) (a no : Nat) : Nat → Nat → Int32 := dk_up (gvw hi q rp a no) 45 28 (nI (a + 1))
theorem gvf_fr (hi : Nat → Nat → Int32) (q : aQ) (rp : Nat → Nat) (a no : Nat) : mf2 hi (gvf hi q rp a no) := fun i j h => by
  unfold gvf
  rw [dk_up_ne _ _ (by omega), gvw_ne (by omega)]
def mlim (hi : Nat → Nat → Int32) : Int32 := if hi 45 15 < 0 then hi 45 17 else 64
def gv_hi (hi : Nat → Nat → Int32) (q : aQ) (rp R : Nat → Nat) (a no : Nat) : Nat → Nat → Int32 := if nI (a + 1) = mlim hi then fin_hi (gvf hi q rp a no) R (a + 1) else gvf hi q rp a no
set_option maxHeartbeats 8000000 in
set_option maxRecDepth 100000 in
theorem c_X8_give (G : dk_G) (sr : Nat → Option Nat) (hi : Nat → Nat → Int32) (hf : Nat → Nat → UInt32) (z : (Nat → Nat → Int64) × (Nat → Nat → UInt64)) {q : aQ} {p : aP} {ns nc nj no : Nat} {jt : Nat → Nat} {en : Nat → Nat → Nat} (hQ : mQ hi q ns nc nj no jt en) (hp : mPl hi p ns) (hW : aW q p ns nc nj) (hsur : aSur p ns) (rp : Nat → Nat) (hat : ∀ i, i < ns → mAt hi q p en rp i) (a : Nat) (ha : hi 45 28 = nI a) (ha' : a < 64) (R rk : Nat → Nat) (hfin : nI (a + 1) = mlim hi → fin_P (gvf hi q rp a no) (a + 1) R rk) :
    dk_MF G yX8_give cX8_give 3 none 2 47 [.ref 45] (hi, hf, dk_RF sr, z) none (gv_hi hi q rp R a no, hf, dk_RF sr, z) := by
  refine dk_met (L := [some (.ref 45), none, none]) pnX8 rfl (Nat.le_of_ble_eq_true rfl) ?_
  intro X C E hNm
  have hn3 := hQ.1.2.1
  have hno := hQ.2.2.2.2.2.2.1
  have fin : dk_W X 63 [some (.ref 45), some (.int (nI no)), none] [] 63 (gvw hi q rp a no, hf, dk_RF sr, z) 0 0 := by
    refine dk_aload_n C dX8_give_63 rfl rfl ?_
    refine dk_dup C dX8_give_64 rfl ?_
    refine ek_getI C fX8_121 rfl (by decide) rfl dX8_give_65 ?_
    rw [gvw_ne (by decide), ha]
    refine dk_iconst C (1) dX8_give_68 rfl ?_
    refine dk_iadd C dX8_give_69 ?_
    rw [show nI a + 1 = nI (a + 1) from nI_1 a]
    refine ek_putI C fX8_121 fwX8_28 rfl (by decide) rfl dX8_give_70 ?_
    refine dk_aload_n C dX8_give_73 rfl rfl ?_
    refine ek_getI C fX8_121 rfl (by decide) rfl dX8_give_74 ?_
    rw [show dk_up (gvw hi q rp a no) 45 28 (nI (a + 1)) = gvf hi q rp a no from rfl, show gvf hi q rp a no 45 28 = nI (a + 1) from dk_up_same _ _ _ _]
    have tail : dk_W X 93 [some (.ref 45), some (.int (nI no)), none] [.int (mlim hi), .int (nI (a + 1))] 63 (gvf hi q rp a no, hf, dk_RF sr, z) 0 0 := by
      refine dk_icmp_ne C 100 dX8_give_93 (by decide) (fun c1 => ?_) (fun c1 => ?_)
      · exact dk_vret C E dX8_give_100 (Nat.zero_le _) (Nat.zero_le _) (⟨rfl, by rw [gv_hi, if_neg c1]⟩)
      · refine dk_aload_n C dX8_give_96 rfl rfl ?_
        refine ek_callVv C mX8_179 (c_X8_finish _ _ _ _ _ (a + 1) (dk_up_same _ _ _ _) (by omega) R rk (hfin c1)) rfl (by decide) rfl rfl (Nat.le_of_ble_eq_true rfl) (by decide) (by decide) (Nat.zero_le _) (Nat.zero_le _) dX8_give_97 ?_
        exact dk_vret C E dX8_give_100 (Nat.zero_le _) (Nat.zero_le _) (⟨rfl, by rw [gv_hi, if_pos c1]; rfl⟩)
    refine dk_aload_n C dX8_give_77 rfl rfl ?_
    refine ek_getI C fX8_108 rfl (by decide) rfl dX8_give_78 ?_
    rw [gvf_fr hi q rp a no 45 15 (by omega)]
    refine dk_if_ge C 91 dX8_give_81 (by decide) (fun c1 => ?_) (fun c1 => ?_)
    · refine dk_bipush C (64) dX8_give_91 rfl ?_
      have hh := tail
      rw [show mlim hi = 64 from if_neg (Int32.not_lt.mpr c1)] at hh
      exact hh
    · refine dk_aload_n C dX8_give_84 rfl rfl ?_
      refine ek_getI C fX8_115 rfl (by decide) rfl dX8_give_85 ?_
      rw [gvf_fr hi q rp a no 45 17 (by omega)]
      refine dk_goto C 93 dX8_give_88 (by decide) ?_
      have hh := tail
      rw [show mlim hi = hi 45 17 from if_pos (Int32.not_le.mp c1)] at hh
      exact hh
  have loop : ∀ r i, i + r = no → dk_W X 2 [some (.ref 45), some (.int (nI i)), none] [] 63 (gvw hi q rp a i, hf, dk_RF sr, z) 0 0 := by
    intro r
    induction r with
    | zero =>
      intro i hi'
      obtain rfl : i = no := by omega
      refine dk_iload_n C dX8_give_2 rfl rfl ?_
      refine dk_aload_n C dX8_give_3 rfl rfl ?_
      refine ek_getI C fX8_105 rfl (by decide) rfl dX8_give_4 ?_
      rw [gvw_ne (by decide), hQ.2.2.2.2.2.1]
      refine dk_icmp_ge C 63 dX8_give_7 (by decide) (fun _ => ?_) (fun hz => absurd (Int32.le_refl _) hz)
      exact fin
    | succ r ih =>
      intro i hi'
      have hfr : mf2 hi (gvw hi q rp a i) := fun x y h => gvw_ne (by omega) i
      have hQ' := hQ.fr hfr
      have hp' := hp.fr hfr
      obtain ⟨⟨q1, q2⟩, q3, q4⟩ := hQ'.2.2.2.2.2.2.2 i (by omega)
      obtain ⟨k1, k2, k3⟩ := hQ'.1.2.2 _ q1
      obtain ⟨k, hk, ek⟩ := hsur _ q1
      obtain ⟨a1, a2⟩ := hat k hk
      rw [ek] at a1 a2
      have hE := hQ'.2.1 _ q1
      have h60 := hE.2.1 _ a2
      refine dk_iload_n C dX8_give_2 rfl rfl ?_
      refine dk_aload_n C dX8_give_3 rfl rfl ?_
      refine ek_getI C fX8_105 rfl (by decide) rfl dX8_give_4 ?_
      rw [gvw_ne (by decide), hQ.2.2.2.2.2.1]
      refine dk_icmp_ge C 63 dX8_give_7 (by decide) (fun hz => absurd hz (nI_ge (by omega) (by omega))) (fun _ => ?_)
      refine dk_aload_n C dX8_give_10 rfl rfl ?_
      refine ek_getR C fX8_35 rfl (by decide) rfl 54 rfl dX8_give_11 ?_
      refine dk_iconst C (2) dX8_give_14 rfl ?_
      refine dk_iload_n C dX8_give_15 rfl rfl ?_
      refine dk_imul C dX8_give_16 ?_
      refine ek_iald C rfl (by decide) (2 * i) (m2_0 i) (by omega) (by decide) dX8_give_17 ?_
      rw [q3]
      refine dk_istore_n C dX8_give_18 rfl (by decide) rfl ?_
      refine dk_aload_n C dX8_give_19 rfl rfl ?_
      refine ek_getR C fX8_53 rfl (by decide) rfl 60 rfl dX8_give_20 ?_
      refine dk_iconst C (4) dX8_give_23 rfl ?_
      refine dk_aload_n C dX8_give_24 rfl rfl ?_
      refine ek_getI C fX8_121 rfl (by decide) rfl dX8_give_25 ?_
      rw [gvw_ne (by decide), ha]
      refine dk_imul C dX8_give_28 ?_
      refine dk_iload_n C dX8_give_29 rfl rfl ?_
      refine dk_iadd C dX8_give_30 ?_
      refine dk_aload_n C dX8_give_31 rfl rfl ?_
      refine dk_aload_n C dX8_give_32 rfl rfl ?_
      refine ek_getR C fX8_26 rfl (by decide) rfl 51 rfl dX8_give_33 ?_
      refine dk_iload_n C dX8_give_36 rfl rfl ?_
      refine ek_iald C rfl (by decide) (qu q i 0) (rfl) (by omega) (by decide) dX8_give_37 ?_
      rw [k1]
      have cr := c_X8_rowAt G sr (gvw hi q rp a i) hf z p ns k hn3 hp' hk (fun x hx => Nat.lt_of_lt_of_le (hW x hx).1 hn3) (hW k hk).2.1
      rw [ek, gvw_ne (show 59 ≠ 60 by decide), a1] at cr
      refine dk_aload_n C dX8_give_38 rfl rfl ?_
      refine dk_iload_n C dX8_give_39 rfl rfl ?_
      refine ek_callV C mX8_166 (cr) rfl (by decide) rfl rfl (Nat.le_of_ble_eq_true rfl) (by decide) (by decide) (Nat.zero_le _) (Nat.zero_le _) dX8_give_40 ?_
      refine dk_aload_n C dX8_give_43 rfl rfl ?_
      refine ek_getR C fX8_35 rfl (by decide) rfl 54 rfl dX8_give_44 ?_
      refine dk_iconst C (2) dX8_give_47 rfl ?_
      refine dk_iload_n C dX8_give_48 rfl rfl ?_
      refine dk_imul C dX8_give_49 ?_
      refine dk_iconst C (1) dX8_give_50 rfl ?_
      refine dk_iadd C dX8_give_51 ?_
      refine ek_iald C rfl (by decide) (2 * i + 1) (m2_k i 1) (by omega) (by decide) dX8_give_52 ?_
      rw [q4]
      refine ek_callV C mX8_88 (c_X8_get _ _ _ _ _ (jt (qu q i 0)) _ (qu q i 1) k2 h60 q2) rfl (by decide) rfl rfl (Nat.le_of_ble_eq_true rfl) (by decide) (by decide) (Nat.zero_le _) (Nat.zero_le _) dX8_give_53 ?_
      rw [hQ'.2.2.1 _ _ _ q1 q2 a2]
      refine ek_iast C rfl (by decide) (4 * a + i) (m4_k a i) (by omega) (by decide) dX8_give_56 ?_
      refine dk_iinc C (nI (i + 1)) dX8_give_57 rfl (nI_1 i) (by decide) rfl ?_
      refine dk_goto C 2 dX8_give_60 (by decide) ?_
      refine dk_forgetAt 2 ?_
      exact ih (i + 1) (by omega)
  refine dk_iconst C (0) dX8_give_0 rfl ?_
  refine dk_istore_n C dX8_give_1 rfl (by decide) rfl ?_
  exact loop no 0 (by omega)
noncomputable def st_hi (hi : Nat → Nat → Int32) (q : aQ) (p : aP) (rp R : Nat → Nat) (k a ns nc nj no : Nat) : Nat → Nat → Int32 :=
  if bP (aPS q p rp k nc nj) = true then (if k + 1 = ns then gv_hi hi q rp R a no else dk_up (dk_up hi 45 26 (nI (k + 1))) 59 (k + 1) (-1)) else hi
set_option maxHeartbeats 8000000 in
set_option maxRecDepth 100000 in
theorem c_X8_step (G : dk_G) (sr : Nat → Option Nat) (hi : Nat → Nat → Int32) (hf : Nat → Nat → UInt32) (z : (Nat → Nat → Int64) × (Nat → Nat → UInt64)) {q : aQ} {p : aP} {ns nc nj no : Nat} {jt : Nat → Nat} {en : Nat → Nat → Nat} (hQ : mQ hi q ns nc nj no jt en) (hp : mPl hi p ns) (hW : aW q p ns nc nj) (hsur : aSur p ns) (rp : Nat → Nat) (k : Nat) (hk : k < ns) (hd : hi 45 26 = nI k) (hat : ∀ i, i ≤ k → mAt hi q p en rp i) (a : Nat) (ha : hi 45 28 = nI a) (ha' : a < 64) (R rk : Nat → Nat) (hfin : aPS q p rp k nc nj → k + 1 = ns → nI (a + 1) = mlim hi → fin_P (gvf hi q rp a no) (a + 1) R rk) :
    dk_MF G yX8_step cX8_step 1 none 3 73 [.ref 45] (hi, hf, dk_RF sr, z) none (st_hi hi q p rp R k a ns nc nj no, hf, dk_RF sr, z) := by
  refine dk_met (L := [some (.ref 45)]) pnX8 rfl (Nat.le_of_ble_eq_true rfl) ?_
  intro X C E hNm
  have hn3 := hQ.1.2.1
  refine dk_aload_n C dX8_step_0 rfl rfl ?_
  refine dk_aload_n C dX8_step_1 rfl rfl ?_
  refine ek_getI C fX8_163 rfl (by decide) rfl dX8_step_2 ?_
  rw [hd]
  refine ek_callV C mX8_191 (c_X8_passes _ _ _ _ _ hQ hp hW rp k hk hat) rfl (by decide) rfl rfl (Nat.le_of_ble_eq_true rfl) (by decide) (by decide) (Nat.zero_le _) (Nat.zero_le _) dX8_step_5 ?_
  refine dk_if_ne C 12 dX8_step_8 (by decide) (fun c1 => ?_) (fun c1 => ?_)
  · have hb := bI_n1 c1
    refine dk_aload_n C dX8_step_12 rfl rfl ?_
    refine ek_getI C fX8_163 rfl (by decide) rfl dX8_step_13 ?_
    refine dk_aload_n C dX8_step_16 rfl rfl ?_
    refine ek_getI C fX8_96 rfl (by decide) rfl dX8_step_17 ?_
    rw [hd, hQ.1.1]
    refine dk_iconst C (1) dX8_step_20 rfl ?_
    refine dk_isub C dX8_step_21 ?_
    rw [nIm1 (by omega)]
    refine dk_icmp_ne C 32 dX8_step_22 (by decide) (fun c2 => ?_) (fun c2 => ?_)
    · have hne : ¬ k + 1 = ns := fun e => c2 (by rw [← e]; rfl)
      refine dk_aload_n C dX8_step_32 rfl rfl ?_
      refine dk_dup C dX8_step_33 rfl ?_
      refine ek_getI C fX8_163 rfl (by decide) rfl dX8_step_34 ?_
      rw [hd]
      refine dk_iconst C (1) dX8_step_37 rfl ?_
      refine dk_iadd C dX8_step_38 ?_
      rw [show nI k + 1 = nI (k + 1) from nI_1 k]
      refine ek_putI C fX8_163 fwX8_26 rfl (by decide) rfl dX8_step_39 ?_
      refine dk_aload_n C dX8_step_42 rfl rfl ?_
      refine ek_getR C fX8_50 rfl (by decide) rfl 59 rfl dX8_step_43 ?_
      refine dk_aload_n C dX8_step_46 rfl rfl ?_
      refine ek_getI C fX8_163 rfl (by decide) rfl dX8_step_47 ?_
      refine dk_iconst C (-1) dX8_step_50 rfl ?_
      refine ek_iast C rfl (by decide) (k + 1) (dk_up_same _ _ _ _) (by omega) (by decide) dX8_step_51 ?_
      exact dk_vret C E dX8_step_52 (Nat.zero_le _) (Nat.zero_le _) (⟨rfl, by rw [st_hi, if_pos hb, if_neg hne]⟩)
    · have he : k + 1 = ns := by
        have := (nI_eq (by omega) (by omega)).mp c2
        omega
      refine dk_aload_n C dX8_step_25 rfl rfl ?_
      refine ek_callVv C mX8_194 (c_X8_give _ _ _ _ _ hQ hp hW hsur rp (fun i hi' => hat i (by omega)) a ha ha' R rk (hfin (bP_1 hb) he)) rfl (by decide) rfl rfl (Nat.le_of_ble_eq_true rfl) (by decide) (by decide) (Nat.zero_le _) (Nat.zero_le _) dX8_step_26 ?_
      refine dk_goto C 52 dX8_step_29 (by decide) ?_
      exact dk_vret C E dX8_step_52 (Nat.zero_le _) (Nat.zero_le _) (⟨rfl, by rw [st_hi, if_pos hb, if_pos he]⟩)
  · exact dk_vret C E dX8_step_11 (Nat.zero_le _) (Nat.zero_le _) (⟨rfl, by rw [st_hi, if_neg (by rw [bI_n0 c1]; decide)]⟩)
set_option maxHeartbeats 4000000 in
set_option maxRecDepth 100000 in
theorem c_X8_look (G : dk_G) (sr : Nat → Option Nat) (hi : Nat → Nat → Int32) (hf : Nat → Nat → UInt32) (z : (Nat → Nat → Int64) × (Nat → Nat → UInt64)) (nR : Nat → Nat) (en : Nat → Nat → Nat) (hE : ∀ j, j < 3 → mE hi j (nR j) (en j)) (x : Int32) (hx0 : 0 ≤ x ∨ x < 0) :
    dk_MF G yX8_look cX8_look 2 (some .int) 1 23 [.ref 45, .int x] (hi, hf, dk_RF sr, z) (some (.int (if x < 3 then (if x = 0 then hi 45 6 else if x = 1 then hi 45 27 else if x = 2 then hi 45 28 else -1) else if x < 6 ∧ 0 < hi 46 (cl (x - 3)) then nI (nR (cl (x - 3))) else -1))) (dk_up hi 45 0 0, hf, dk_RF sr, z) := by
  refine dk_met (L := [some (.ref 45), some (.int x)]) pnX8 rfl (Nat.le_of_ble_eq_true rfl) ?_
  intro X C E hNm
  refine dk_aload_n C dX8_look_0 rfl rfl ?_
  refine dk_iconst C (0) dX8_look_1 rfl ?_
  refine ek_putI C fX8_59 fwX8_0 rfl (by decide) rfl dX8_look_2 ?_
  refine dk_iload_n C dX8_look_5 rfl rfl ?_
  refine dk_iconst C (3) dX8_look_6 rfl ?_
  refine dk_icmp_ge C 47 dX8_look_7 (by decide) (fun c1 => ?_) (fun c1 => ?_)
  · rw [if_neg (Int32.not_lt.mpr c1)] at E
    refine dk_iload_n C dX8_look_47 rfl rfl ?_
    refine dk_bipush C (6) dX8_look_48 rfl ?_
    refine dk_icmp_ge C 74 dX8_look_50 (by decide) (fun c2 => ?_) (fun c2 => ?_)
    · refine dk_iconst C (-1) dX8_look_74 rfl ?_
      exact dk_iret C E dX8_look_75 (Nat.zero_le _) (Nat.zero_le _) (⟨pI (by rw [if_neg (fun q => Int32.not_lt.mpr c2 q.1)]), rfl⟩)
    · obtain ⟨j, hj, e⟩ : ∃ j, j < 3 ∧ x - 3 = nI j := by
        rcases pk_ix x (n := 6) (by decide) with h | h | ⟨j, hj, rfl⟩
        · exact absurd (Int32.le_trans (show (0 : Int32) ≤ 3 by decide) c1) (Int32.not_le.mpr h)
        · exact absurd h c2
        · have h3 : 3 ≤ j := by
            rcases Nat.lt_or_ge j 3 with h | h
            · exact absurd c1 (nI_ge (b := 3) h (by decide))
            · exact h
          exact ⟨j - 3, by omega, by rw [show (3 : Int32) = nI 3 from rfl, pk_sub h3]⟩
      have ec : cl (x - 3) = j := by rw [e, cl_nI (by omega)]
      refine dk_aload_n C dX8_look_53 rfl rfl ?_
      refine ek_getR C fX8_7 rfl (by decide) rfl 46 rfl dX8_look_54 ?_
      refine dk_iload_n C dX8_look_57 rfl rfl ?_
      refine dk_iconst C (3) dX8_look_58 rfl ?_
      refine dk_isub C dX8_look_59 ?_
      refine ek_iald C rfl (by decide) (j) (e) (hj) (by decide) dX8_look_60 ?_
      rw [show dk_up hi 45 0 0 46 j = hi 46 j from rfl]
      refine dk_if_le C 74 dX8_look_61 (by decide) (fun c3 => ?_) (fun c3 => ?_)
      · refine dk_iconst C (-1) dX8_look_74 rfl ?_
        exact dk_iret C E dX8_look_75 (Nat.zero_le _) (Nat.zero_le _) (⟨pI (by rw [ec, if_neg (fun q => Int32.not_le.mpr q.2 c3)]), rfl⟩)
      · refine dk_aload_n C dX8_look_64 rfl rfl ?_
        refine dk_iload_n C dX8_look_65 rfl rfl ?_
        refine dk_iconst C (3) dX8_look_66 rfl ?_
        refine dk_isub C dX8_look_67 ?_
        rw [e]
        refine ek_callV C mX8_74 (c_X8_rowsOf _ _ (dk_up hi 45 0 0) _ _ j (nR j) (en j) hj (hE j hj)) rfl (by decide) rfl rfl (Nat.le_of_ble_eq_true rfl) (by decide) (by decide) (Nat.zero_le _) (Nat.zero_le _) dX8_look_68 ?_
        refine dk_goto C 75 dX8_look_71 (by decide) ?_
        exact dk_iret C E dX8_look_75 (Nat.zero_le _) (Nat.zero_le _) (⟨pI (by rw [ec, if_pos ⟨Int32.not_le.mp c2, Int32.not_le.mp c3⟩]), rfl⟩)
  · rw [if_pos (Int32.not_le.mp c1)] at E
    refine dk_iload_n C dX8_look_10 rfl rfl ?_
    refine dk_if_ne C 21 dX8_look_11 (by decide) (fun c2 => ?_) (fun c2 => ?_)
    · refine dk_iload_n C dX8_look_21 rfl rfl ?_
      refine dk_iconst C (1) dX8_look_22 rfl ?_
      refine dk_icmp_ne C 33 dX8_look_23 (by decide) (fun c3 => ?_) (fun c3 => ?_)
      · refine dk_iload_n C dX8_look_33 rfl rfl ?_
        refine dk_iconst C (2) dX8_look_34 rfl ?_
        refine dk_icmp_ne C 45 dX8_look_35 (by decide) (fun c4 => ?_) (fun c4 => ?_)
        · refine dk_iconst C (-1) dX8_look_45 rfl ?_
          exact dk_iret C E dX8_look_46 (Nat.zero_le _) (Nat.zero_le _) (⟨pI (by rw [if_neg c2, if_neg c3, if_neg c4]), rfl⟩)
        · refine dk_aload_n C dX8_look_38 rfl rfl ?_
          refine ek_getI C fX8_121 rfl (by decide) rfl dX8_look_39 ?_
          refine dk_goto C 46 dX8_look_42 (by decide) ?_
          exact dk_iret C E dX8_look_46 (Nat.zero_le _) (Nat.zero_le _) (⟨pI (by rw [if_neg c2, if_neg c3, if_pos c4]; rfl), rfl⟩)
      · refine dk_aload_n C dX8_look_26 rfl rfl ?_
        refine ek_getI C fX8_118 rfl (by decide) rfl dX8_look_27 ?_
        refine dk_goto C 46 dX8_look_30 (by decide) ?_
        exact dk_iret C E dX8_look_46 (Nat.zero_le _) (Nat.zero_le _) (⟨pI (by rw [if_neg c2, if_pos c3]; rfl), rfl⟩)
    · refine dk_aload_n C dX8_look_14 rfl rfl ?_
      refine ek_getI C fX8_71 rfl (by decide) rfl dX8_look_15 ?_
      refine dk_goto C 46 dX8_look_18 (by decide) ?_
      exact dk_iret C E dX8_look_46 (Nat.zero_le _) (Nat.zero_le _) (⟨pI (by rw [if_pos c2]; rfl), rfl⟩)
/-- what answer throws: 0, 1 or 2 -/
def man_c (hi : Nat → Nat → Int32) (i k : Int32) : Int32 := if hi 45 6 = 2 then (if (0 ≤ i ∧ i < hi 45 28) ∧ 0 ≤ k ∧ k < hi 45 13 then 0 else 2) else 1
set_option maxHeartbeats 4000000 in
set_option maxRecDepth 100000 in
theorem c_X8_answer (G : dk_G) (sr : Nat → Option Nat) (hi : Nat → Nat → Int32) (hf : Nat → Nat → UInt32) (z : (Nat → Nat → Int64) × (Nat → Nat → UInt64)) (a no : Nat) (ha : hi 45 28 = nI a) (ha' : a ≤ 64) (hno : hi 45 13 = nI no) (hno' : no ≤ 4) (i k : Int32) :
    dk_MF G yX8_answer cX8_answer 3 (some .int) 1 22 [.ref 45, .int i, .int k] (hi, hf, dk_RF sr, z) (some (.int (if man_c hi i k = 0 then hi 60 (4 * cl i + cl k) else 0))) (dk_up hi 45 0 (man_c hi i k), hf, dk_RF sr, z) := by
  refine dk_met (L := [some (.ref 45), some (.int i), some (.int k)]) pnX8 rfl (Nat.le_of_ble_eq_true rfl) ?_
  intro X C E hNm
  have bad : ∀ v : Int32, v = man_c hi i k → 0 < v → dk_W X 46 [some (.ref 45), some (.int i), some (.int k)] [.int v, .ref 45] 63 (hi, hf, dk_RF sr, z) 0 0 := by
    intro v e h0
    have n0 : ¬ man_c hi i k = 0 := by rw [← e]; exact fun y => Int32.not_le.mpr h0 (by rw [y]; exact Int32.le_refl _)
    refine ek_putI C fX8_59 fwX8_0 rfl (by decide) rfl dX8_answer_46 ?_
    refine dk_aload_n C dX8_answer_49 rfl rfl ?_
    refine ek_getI C fX8_59 rfl (by decide) rfl dX8_answer_50 ?_
    rw [show dk_up hi 45 0 v 45 0 = v from dk_up_same _ _ _ _]
    refine dk_if_le C 60 dX8_answer_53 (by decide) (fun hz => absurd hz (Int32.not_le.mpr h0)) (fun _ => ?_)
    refine dk_iconst C (0) dX8_answer_56 rfl ?_
    refine dk_goto C 70 dX8_answer_57 (by decide) ?_
    exact dk_iret C E dX8_answer_70 (Nat.zero_le _) (Nat.zero_le _) (⟨pI (by rw [if_neg n0]), by rw [e]⟩)
  have el : decide (0 ≤ i ∧ i ≤ hi 45 28 - 1) = decide (0 ≤ i ∧ i < hi 45 28) := by
    congr 1
    rw [le_sub1 (by rw [ha]; exact nI_pos' (by omega))]
  have el2 : decide (0 ≤ k ∧ k ≤ hi 45 13 - 1) = decide (0 ≤ k ∧ k < hi 45 13) := by
    congr 1
    rw [le_sub1 (by rw [hno]; exact nI_pos' (by omega))]
  refine dk_aload_n C dX8_answer_0 rfl rfl ?_
  refine dk_aload_n C dX8_answer_1 rfl rfl ?_
  refine ek_getI C fX8_71 rfl (by decide) rfl dX8_answer_2 ?_
  refine dk_iconst C (2) dX8_answer_5 rfl ?_
  refine dk_icmp_eq C 13 dX8_answer_6 (by decide) (fun c1 => ?_) (fun c1 => ?_)
  · have two : ¬ ((0 ≤ i ∧ i < hi 45 28) ∧ 0 ≤ k ∧ k < hi 45 13) → dk_W X 41 [some (.ref 45), some (.int i), some (.int k)] [.ref 45] 63 (hi, hf, dk_RF sr, z) 0 0 := by
      intro y
      refine dk_iconst C (2) dX8_answer_41 rfl ?_
      refine dk_goto C 46 dX8_answer_42 (by decide) ?_
      exact bad 2 (by rw [man_c, if_pos c1, if_neg y]) (by decide)
    refine dk_iload_n C dX8_answer_13 rfl rfl ?_
    refine dk_iconst C (0) dX8_answer_14 rfl ?_
    refine dk_aload_n C dX8_answer_15 rfl rfl ?_
    refine ek_getI C fX8_121 rfl (by decide) rfl dX8_answer_16 ?_
    refine dk_iconst C (1) dX8_answer_19 rfl ?_
    refine dk_isub C dX8_answer_20 ?_
    refine ek_callS C mX8_63 (c_X8_in _ _ _ _ _ i 0 (hi 45 28 - 1)) rfl rfl (Nat.le_of_ble_eq_true rfl) (by decide) (by decide) (Nat.zero_le _) (Nat.zero_le _) dX8_answer_21 ?_
    rw [el]
    refine dk_if_eq C 41 dX8_answer_24 (by decide) (fun c2 => ?_) (fun c2 => ?_)
    · exact two (fun y => of_decide_eq_false (bI_n0 c2) y.1)
    · refine dk_iload_n C dX8_answer_27 rfl rfl ?_
      refine dk_iconst C (0) dX8_answer_28 rfl ?_
      refine dk_aload_n C dX8_answer_29 rfl rfl ?_
      refine ek_getI C fX8_105 rfl (by decide) rfl dX8_answer_30 ?_
      refine dk_iconst C (1) dX8_answer_33 rfl ?_
      refine dk_isub C dX8_answer_34 ?_
      refine ek_callS C mX8_63 (c_X8_in _ _ _ _ _ k 0 (hi 45 13 - 1)) rfl rfl (Nat.le_of_ble_eq_true rfl) (by decide) (by decide) (Nat.zero_le _) (Nat.zero_le _) dX8_answer_35 ?_
      rw [el2]
      refine dk_if_ne C 45 dX8_answer_38 (by decide) (fun c3 => ?_) (fun c3 => ?_)
      · have h2 := of_decide_eq_true (bI_n1 c2)
        have h3 := of_decide_eq_true (bI_n1 c3)
        have e0 : man_c hi i k = 0 := by rw [man_c, if_pos c1, if_pos ⟨h2, h3⟩]
        obtain ⟨x, hx, rfl⟩ : ∃ x, x < a ∧ i = nI x := by
          rw [ha] at h2
          rcases pk_ix i (n := a) (by omega) with y | y | y
          · exact absurd h2.1 (Int32.not_le.mpr y)
          · exact absurd h2.2 (Int32.not_lt.mpr y)
          · exact y
        obtain ⟨x2, hx2, rfl⟩ : ∃ x, x < no ∧ k = nI x := by
          rw [hno] at h3
          rcases pk_ix k (n := no) (by omega) with y | y | y
          · exact absurd h3.1 (Int32.not_le.mpr y)
          · exact absurd h3.2 (Int32.not_lt.mpr y)
          · exact y
        rw [e0] at E
        refine dk_iconst C (0) dX8_answer_45 rfl ?_
        refine ek_putI C fX8_59 fwX8_0 rfl (by decide) rfl dX8_answer_46 ?_
        refine dk_aload_n C dX8_answer_49 rfl rfl ?_
        refine ek_getI C fX8_59 rfl (by decide) rfl dX8_answer_50 ?_
        rw [show dk_up hi 45 0 0 45 0 = 0 from dk_up_same _ _ _ _]
        refine dk_if_le C 60 dX8_answer_53 (by decide) (fun _ => ?_) (fun hz => absurd (Int32.le_refl _) hz)
        refine dk_aload_n C dX8_answer_60 rfl rfl ?_
        refine ek_getR C fX8_53 rfl (by decide) rfl 60 rfl dX8_answer_61 ?_
        refine dk_iconst C (4) dX8_answer_64 rfl ?_
        refine dk_iload_n C dX8_answer_65 rfl rfl ?_
        refine dk_imul C dX8_answer_66 ?_
        refine dk_iload_n C dX8_answer_67 rfl rfl ?_
        refine dk_iadd C dX8_answer_68 ?_
        refine ek_iald C rfl (by decide) (4 * x + x2) (m4_k x x2) (by omega) (by decide) dX8_answer_69 ?_
        exact dk_iret C E dX8_answer_70 (Nat.zero_le _) (Nat.zero_le _) (⟨pI (by rw [if_pos rfl, cl_nI (by omega), cl_nI (by omega)]; rfl), rfl⟩)
      · exact two (fun y => of_decide_eq_false (bI_n0 c3) y.2)
  · refine dk_iconst C (1) dX8_answer_9 rfl ?_
    refine dk_goto C 46 dX8_answer_10 (by decide) ?_
    exact bad 1 (by rw [man_c, if_neg c1]) (by decide)
