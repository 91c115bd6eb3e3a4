/-! ===== the working off, whoever does it; QueryDeskModel: explain, holds, rowAt, wanted, before, following ===== -/
/-- values by source, column, place; conditions: source, column, operator, number; joins: source, column by side; rows; outputs -/
abbrev aQ : Type := (Nat → Nat → Nat → Int32) × (Nat → Nat) × (Nat → Nat) × (Nat → Nat) × (Nat → Int32) × (Nat → Nat → Nat) × (Nat → Nat → Nat) × (Nat → Nat) × (Nat → Nat → Nat)
abbrev qV (q : aQ) : Nat → Nat → Nat → Int32 := q.1
abbrev qs (q : aQ) : Nat → Nat := q.2.1
abbrev qc (q : aQ) : Nat → Nat := q.2.2.1
abbrev qo (q : aQ) : Nat → Nat := q.2.2.2.1
abbrev qx (q : aQ) : Nat → Int32 := q.2.2.2.2.1
abbrev qe (q : aQ) : Nat → Nat → Nat := q.2.2.2.2.2.1
abbrev qk (q : aQ) : Nat → Nat → Nat := q.2.2.2.2.2.2.1
abbrev qn (q : aQ) : Nat → Nat := q.2.2.2.2.2.2.2.1
abbrev qu (q : aQ) : Nat → Nat → Nat := q.2.2.2.2.2.2.2.2
def qE (q : aQ) (s j : Nat) : Nat := if qe q j 0 = s then 0 else 1
theorem qE_2 (q : aQ) (s j : Nat) : qE q s j < 2 := by unfold qE; split <;> decide
def qT (q : aQ) (bef : Nat → Bool) (s j : Nat) : Bool := decide (qe q j 0 = s ∨ qe q j 1 = s) && bef (qe q j (1 - qE q s j))
theorem qT_e {q : aQ} {bef : Nat → Bool} {s j : Nat} (h : qT q bef s j = true) : qe q j (qE q s j) = s ∧ bef (qe q j (1 - qE q s j)) = true := by
  rw [qT, Bool.and_eq_true] at h
  refine ⟨?_, h.2⟩
  have := of_decide_eq_true h.1
  unfold qE
  split
  · assumption
  · exact this.resolve_left (by assumption)
/-- the model's question -/
def mQ (hi : Nat → Nat → Int32) (q : aQ) (ns nc nj no : Nat) (jt : Nat → Nat) (en : Nat → Nat → Nat) : Prop :=
  mS hi ns jt ∧ (∀ s, s < ns → mE hi (jt s) (qn q s) (en s)) ∧ (∀ s c p, s < ns → c < 4 → p < qn q s → hi 49 (240 * jt s + 4 * en s p + c) = qV q s c p) ∧
  (hi 45 9 = nI nc ∧ nc ≤ 4 ∧ ∀ i, i < nc → (qs q i < ns ∧ qc q i < 4 ∧ qo q i < 4) ∧ hi 52 (4 * i) = nI (qs q i) ∧ hi 52 (4 * i + 1) = nI (qc q i) ∧ hi 52 (4 * i + 2) = nI (qo q i) ∧ hi 52 (4 * i + 3) = qx q i) ∧
  (hi 45 11 = nI nj ∧ nj ≤ 3 ∧ ∀ j, j < nj → ¬ qe q j 0 = qe q j 1 ∧ ∀ e, e < 2 → (qe q j e < ns ∧ qk q j e < 4) ∧ hi 53 (4 * j + 2 * e) = nI (qe q j e) ∧ hi 53 (4 * j + 2 * e + 1) = nI (qk q j e)) ∧
  (hi 45 13 = nI no ∧ no ≤ 4 ∧ ∀ i, i < no → (qu q i 0 < ns ∧ qu q i 1 < 4) ∧ hi 54 (2 * i) = nI (qu q i 0) ∧ hi 54 (2 * i + 1) = nI (qu q i 1))
noncomputable def gq (hi : Nat → Nat → Int32) (q : aQ) (jt : Nat → Nat) (en : Nat → Nat → Nat) : gG :=
  (qs q, fun i => shO (qo q i) (qx q i) (mv hi (jt (qs q i)) (qc q i) (en (qs q i))) (qn q (qs q i)), fun i => nI (qo q i), fun k i => hi 50 (8 * jt (qs q i) + 4 * k + qc q i), qe q, fun j e => shO 0 0 (mv hi (jt (qe q j e)) (qk q j e) (en (qe q j e))) (qn q (qe q j e)), fun j e k => hi 50 (8 * jt (qe q j e) + 4 * k + qk q j e), qn q)
theorem mQ.G {hi : Nat → Nat → Int32} {q : aQ} {ns nc nj no : Nat} {jt : Nat → Nat} {en : Nat → Nat → Nat} (h : mQ hi q ns nc nj no jt en) : mG hi (gq hi q jt en) ns nc nj jt en := by
  obtain ⟨h1, h2, -, ⟨h3, h4, h5⟩, ⟨h6, h7, h8⟩, -⟩ := h
  refine ⟨h1, h2, ⟨h3, h4, fun i hi' => ?_⟩, h6, h7, fun j hj => ⟨(h8 j hj).1, fun e he => ?_⟩⟩
  · obtain ⟨⟨q1, q2, q3⟩, q4, q5, q6, q7⟩ := h5 i hi'
    exact ⟨qc q i, qo q i, ⟨q1, q2, q3⟩, ⟨q4, q5, q6⟩, rfl, by rw [q7]; rfl, rfl, rfl⟩
  · obtain ⟨⟨q1, q2⟩, q3, q4⟩ := (h8 j hj).2 e he
    exact ⟨qk q j e, ⟨q1, q2⟩, ⟨q3, q4⟩, rfl, rfl, rfl⟩
/-- a plan: order, ways, conditions, joins of the ways -/
abbrev aP : Type := (Nat → Nat) × (Nat → Int32) × (Nat → Int32) × (Nat → Int32)
abbrev po (p : aP) : Nat → Nat := p.1
abbrev pw (p : aP) : Nat → Int32 := p.2.1
abbrev pc9 (p : aP) : Nat → Int32 := p.2.2.1
abbrev pj (p : aP) : Nat → Int32 := p.2.2.2
def aW (q : aQ) (p : aP) (ns nc nj : Nat) : Prop := ∀ k, k < ns → po p k < ns ∧ (∀ i, i < k → ¬ po p i = po p k) ∧ ((∃ i, i < nc ∧ pc9 p k = nI i ∧ pj p k = -1 ∧ qs q i = po p k) ∨ (∃ j, j < nj ∧ pc9 p k = -1 ∧ pj p k = nI j ∧ qT q (bfo (po p) k) (po p k) j = true) ∨ (pc9 p k = -1 ∧ pj p k = -1 ∧ pw p k = 0))
def mPl (hi : Nat → Nat → Int32) (p : aP) (ns : Nat) : Prop := ∀ k, k < ns → hi 55 k = nI (po p k) ∧ hi 56 k = pw p k ∧ hi 57 k = pc9 p k ∧ hi 58 k = pj p k
/-- where the way at k leads to; sorted by value or not; the values -/
def lvP (q : aQ) (p : aP) (rp : Nat → Nat) (k x : Nat) : Bool :=
  if pc9 p k = -1 then (if pj p k = -1 then true else decide (qV q (po p k) (qk q (cl (pj p k)) (qE q (po p k) (cl (pj p k)))) x = qV q (qe q (cl (pj p k)) (1 - qE q (po p k) (cl (pj p k)))) (qk q (cl (pj p k)) (1 - qE q (po p k) (cl (pj p k)))) (rp (qe q (cl (pj p k)) (1 - qE q (po p k) (cl (pj p k)))))))
  else cn_b (qo q (cl (pc9 p k))) (qV q (po p k) (qc q (cl (pc9 p k))) x) (qx q (cl (pc9 p k)))
def lvS (p : aP) (k : Nat) : Bool := decide (¬ pc9 p k = -1 ∧ pw p k = 2)
def lvF (q : aQ) (p : aP) (k : Nat) : Nat → Int32 := if pc9 p k = -1 then qV q (po p k) (qk q (cl (pj p k)) (qE q (po p k) (cl (pj p k)))) else qV q (po p k) (qc q (cl (pc9 p k)))
def lvL (q : aQ) (p : aP) (rp : Nat → Nat) (k : Nat) : List Nat := op_L (lvP q p rp k) (lvS p k) (lvF q p k) (qn q (po p k))
/-- the order in which the model goes -/
def mB (w : Int32) (f : Nat → Int32) (a b : Nat) : Bool := if w = 2 ∧ ¬ f a = f b then decide (f a < f b) else decide (a < b)
def fwd (P : Nat → Bool) (B : Nat → Nat → Bool) (cur : Option Nat) : Nat → Option Nat
  | 0 => none
  | m + 1 => if P m = true ∧ (∀ a, cur = some a → B a m = true) ∧ (∀ x, fwd P B cur m = some x → B m x = true) then some m else fwd P B cur m
def fwI (en : Nat → Nat) (o : Option Nat) : Int32 := match o with
  | none => -1
  | some p => nI (en p)
theorem fwd_lt {P : Nat → Bool} {B : Nat → Nat → Bool} {cur : Option Nat} : ∀ {n x : Nat}, fwd P B cur n = some x → x < n
  | 0, x, h => by cases h
  | n + 1, x, h => by
    unfold fwd at h
    split at h
    · cases h; omega
    · have := fwd_lt h; omega
def mex_ok (hi : Nat → Nat → Int32) (k w : Int32) : Bool := decide (¬ hi 45 6 = 0) && (decide (0 ≤ k ∧ k < hi 45 7) && decide (0 ≤ w ∧ w ≤ 3))
def mex_v (hi : Nat → Nat → Int32) (k w : Int32) : Int32 := if w = 0 then hi 55 (cl k) else if w = 1 then hi 56 (cl k) else if w = 2 then hi 57 (cl k) else hi 58 (cl k)
set_option maxHeartbeats 4000000 in
set_option maxRecDepth 100000 in
theorem c_X8_explain (G : dk_G) (sr : Nat → Option Nat) (hi : Nat → Nat → Int32) (hf : Nat → Nat → UInt32) (z : (Nat → Nat → Int64) × (Nat → Nat → UInt64)) (n : Nat) (hn : hi 45 7 = nI n) (hn3 : n ≤ 3) (k w : Int32) :
    dk_MF G yX8_explain cX8_explain 3 (some .int) 1 22 [.ref 45, .int k, .int w] (hi, hf, dk_RF sr, z) (some (.int (if mex_ok hi k w = true then mex_v hi k w else 0))) (dk_up hi 45 0 (if mex_ok hi k w = true then 0 else 1), hf, dk_RF sr, z) := by
  refine dk_met (L := [some (.ref 45), some (.int k), some (.int w)]) pnX8 rfl (Nat.le_of_ble_eq_true rfl) ?_
  intro X C E hNm
  have no : mex_ok hi k w = false → dk_W X 31 [some (.ref 45), some (.int k), some (.int w)] [.ref 45] 63 (hi, hf, dk_RF sr, z) 0 0 := by
    intro e
    refine dk_iconst C (1) dX8_explain_31 rfl ?_
    refine dk_goto C 36 dX8_explain_32 (by decide) ?_
    refine ek_putI C fX8_59 fwX8_0 rfl (by decide) rfl dX8_explain_36 ?_
    refine dk_aload_n C dX8_explain_39 rfl rfl ?_
    refine ek_getI C fX8_59 rfl (by decide) rfl dX8_explain_40 ?_
    rw [show dk_up hi 45 0 1 45 0 = 1 from dk_up_same _ _ _ _]
    refine dk_if_le C 48 dX8_explain_43 (by decide) (fun hz => absurd hz (by decide)) (fun _ => ?_)
    refine dk_iconst C (0) dX8_explain_46 rfl ?_
    exact dk_iret C E dX8_explain_47 (Nat.zero_le _) (Nat.zero_le _) (⟨pI (by rw [e]; rfl), by rw [e]; rfl⟩)
  have el : decide (0 ≤ k ∧ k ≤ hi 45 7 - 1) = decide (0 ≤ k ∧ k < hi 45 7) := by
    congr 1
    rw [le_sub1 (by rw [hn]; exact nI_pos' (by omega))]
  refine dk_aload_n C dX8_explain_0 rfl rfl ?_
  refine dk_aload_n C dX8_explain_1 rfl rfl ?_
  refine ek_getI C fX8_71 rfl (by decide) rfl dX8_explain_2 ?_
  refine dk_if_eq C 31 dX8_explain_5 (by decide) (fun c1 => ?_) (fun c1 => ?_)
  · exact no (by rw [mex_ok, decide_eq_false (p := ¬ hi 45 6 = 0) (fun q => q c1)]; rfl)
  · refine dk_iload_n C dX8_explain_8 rfl rfl ?_
    refine dk_iconst C (0) dX8_explain_9 rfl ?_
    refine dk_aload_n C dX8_explain_10 rfl rfl ?_
    refine ek_getI C fX8_96 rfl (by decide) rfl dX8_explain_11 ?_
    refine dk_iconst C (1) dX8_explain_14 rfl ?_
    refine dk_isub C dX8_explain_15 ?_
    refine ek_callS C mX8_63 (c_X8_in _ _ _ _ _ k 0 (hi 45 7 - 1)) rfl rfl (Nat.le_of_ble_eq_true rfl) (by decide) (by decide) (Nat.zero_le _) (Nat.zero_le _) dX8_explain_16 ?_
    rw [el]
    refine dk_if_eq C 31 dX8_explain_19 (by decide) (fun c2 => ?_) (fun c2 => ?_)
    · exact no (by rw [mex_ok, bI_n0 c2, Bool.false_and, Bool.and_false])
    · refine dk_iload_n C dX8_explain_22 rfl rfl ?_
      refine dk_iconst C (0) dX8_explain_23 rfl ?_
      refine dk_iconst C (3) dX8_explain_24 rfl ?_
      refine ek_callS C mX8_63 (c_X8_in _ _ _ _ _ w 0 3) rfl rfl (Nat.le_of_ble_eq_true rfl) (by decide) (by decide) (Nat.zero_le _) (Nat.zero_le _) dX8_explain_25 ?_
      refine dk_if_ne C 35 dX8_explain_28 (by decide) (fun c3 => ?_) (fun c3 => ?_)
      · have eo : mex_ok hi k w = true := by rw [mex_ok, decide_eq_true c1, bI_n1 c2, bI_n1 c3]; rfl
        have h2 := of_decide_eq_true (bI_n1 c2)
        obtain ⟨i, hin, rfl⟩ : ∃ i, i < n ∧ k = nI i := by
          rw [hn] at h2
          rcases pk_ix k (n := n) (by omega) with q | q | q
          · exact absurd h2.1 (Int32.not_le.mpr q)
          · exact absurd h2.2 (Int32.not_lt.mpr q)
          · exact q
        have e : cl (nI i) = i := cl_nI (by omega)
        rw [eo] at E
        refine dk_iconst C (0) dX8_explain_35 rfl ?_
        refine ek_putI C fX8_59 fwX8_0 rfl (by decide) rfl dX8_explain_36 ?_
        refine dk_aload_n C dX8_explain_39 rfl rfl ?_
        refine ek_getI C fX8_59 rfl (by decide) rfl dX8_explain_40 ?_
        rw [show dk_up hi 45 0 0 45 0 = 0 from dk_up_same _ _ _ _]
        refine dk_if_le C 48 dX8_explain_43 (by decide) (fun _ => ?_) (fun hz => absurd (by decide) hz)
        refine dk_iload_n C dX8_explain_48 rfl rfl ?_
        refine dk_if_ne C 61 dX8_explain_49 (by decide) (fun c4 => ?_) (fun c4 => ?_)
        · refine dk_iload_n C dX8_explain_61 rfl rfl ?_
          refine dk_iconst C (1) dX8_explain_62 rfl ?_
          refine dk_icmp_ne C 75 dX8_explain_63 (by decide) (fun c5 => ?_) (fun c5 => ?_)
          · refine dk_iload_n C dX8_explain_75 rfl rfl ?_
            refine dk_iconst C (2) dX8_explain_76 rfl ?_
            refine dk_icmp_ne C 89 dX8_explain_77 (by decide) (fun c6 => ?_) (fun c6 => ?_)
            · refine dk_aload_n C dX8_explain_89 rfl rfl ?_
              refine ek_getR C fX8_47 rfl (by decide) rfl 58 rfl dX8_explain_90 ?_
              refine dk_iload_n C dX8_explain_93 rfl rfl ?_
              refine ek_iald C rfl (by decide) (i) (rfl) (by omega) (by decide) dX8_explain_94 ?_
              exact dk_iret C E dX8_explain_95 (Nat.zero_le _) (Nat.zero_le _) (⟨pI (by rw [if_pos rfl, mex_v, if_neg c4, if_neg c5, if_neg c6, e]; rfl), rfl⟩)
            · refine dk_aload_n C dX8_explain_80 rfl rfl ?_
              refine ek_getR C fX8_44 rfl (by decide) rfl 57 rfl dX8_explain_81 ?_
              refine dk_iload_n C dX8_explain_84 rfl rfl ?_
              refine ek_iald C rfl (by decide) (i) (rfl) (by omega) (by decide) dX8_explain_85 ?_
              refine dk_goto C 95 dX8_explain_86 (by decide) ?_
              exact dk_iret C E dX8_explain_95 (Nat.zero_le _) (Nat.zero_le _) (⟨pI (by rw [if_pos rfl, mex_v, if_neg c4, if_neg c5, if_pos c6, e]; rfl), rfl⟩)
          · refine dk_aload_n C dX8_explain_66 rfl rfl ?_
            refine ek_getR C fX8_41 rfl (by decide) rfl 56 rfl dX8_explain_67 ?_
            refine dk_iload_n C dX8_explain_70 rfl rfl ?_
            refine ek_iald C rfl (by decide) (i) (rfl) (by omega) (by decide) dX8_explain_71 ?_
            refine dk_goto C 95 dX8_explain_72 (by decide) ?_
            exact dk_iret C E dX8_explain_95 (Nat.zero_le _) (Nat.zero_le _) (⟨pI (by rw [if_pos rfl, mex_v, if_neg c4, if_pos c5, e]; rfl), rfl⟩)
        · refine dk_aload_n C dX8_explain_52 rfl rfl ?_
          refine ek_getR C fX8_38 rfl (by decide) rfl 55 rfl dX8_explain_53 ?_
          refine dk_iload_n C dX8_explain_56 rfl rfl ?_
          refine ek_iald C rfl (by decide) (i) (rfl) (by omega) (by decide) dX8_explain_57 ?_
          refine dk_goto C 95 dX8_explain_58 (by decide) ?_
          exact dk_iret C E dX8_explain_95 (Nat.zero_le _) (Nat.zero_le _) (⟨pI (by rw [if_pos rfl, mex_v, if_pos c4, e]; rfl), rfl⟩)
      · exact no (by rw [mex_ok, bI_n0 c3, Bool.and_false, Bool.and_false])
set_option maxHeartbeats 4000000 in
set_option maxRecDepth 100000 in
theorem c_X8_holds (G : dk_G) (sr : Nat → Option Nat) (hi : Nat → Nat → Int32) (hf : Nat → Nat → UInt32) (z : (Nat → Nat → Int64) × (Nat → Nat → UInt64)) (v num : Int32) (o : Nat) (ho : o < 4) :
    dk_MF G yX8_holds cX8_holds 3 (some .boolean) 0 0 [.int v, .int (nI o), .int num] (hi, hf, dk_RF sr, z) (some (.int (bI (cn_b o v num)))) (hi, hf, dk_RF sr, z) := by
  refine dk_met (L := [some (.int v), some (.int (nI o)), some (.int num)]) pnX8 rfl (Nat.le_of_ble_eq_true rfl) ?_
  intro X C E hNm
  refine dk_iload_n C dX8_holds_0 rfl rfl ?_
  rcases (show o = 0 ∨ o = 1 ∨ o = 2 ∨ o = 3 by omega) with rfl | rfl | rfl | rfl
  · refine dk_if_ne C 17 dX8_holds_1 (by decide) (fun hz => absurd hz (by decide)) (fun _ => ?_)
    refine dk_iload_n C dX8_holds_4 rfl rfl ?_
    refine dk_iload_n C dX8_holds_5 rfl rfl ?_
    refine dk_icmp_ne C 13 dX8_holds_6 (by decide) (fun c1 => ?_) (fun c1 => ?_)
    · refine dk_iconst C (0) dX8_holds_13 rfl ?_
      refine dk_goto C 63 dX8_holds_14 (by decide) ?_
      exact dk_zret C E rfl dX8_holds_63 (Nat.zero_le _) (Nat.zero_le _) (⟨pI (bI_f (by simpa [cn_b] using c1)), rfl⟩)
    · refine dk_iconst C (1) dX8_holds_9 rfl ?_
      refine dk_goto C 63 dX8_holds_10 (by decide) ?_
      exact dk_zret C E rfl dX8_holds_63 (Nat.zero_le _) (Nat.zero_le _) (⟨pI (bI_t (by simpa [cn_b] using c1)), rfl⟩)
  · refine dk_if_ne C 17 dX8_holds_1 (by decide) (fun _ => ?_) (fun hz => absurd hz (by decide))
    refine dk_iload_n C dX8_holds_17 rfl rfl ?_
    refine dk_iconst C (1) dX8_holds_18 rfl ?_
    refine dk_icmp_ne C 35 dX8_holds_19 (by decide) (fun hz => absurd hz (by decide)) (fun _ => ?_)
    refine dk_iload_n C dX8_holds_22 rfl rfl ?_
    refine dk_iload_n C dX8_holds_23 rfl rfl ?_
    refine dk_icmp_ge C 31 dX8_holds_24 (by decide) (fun c1 => ?_) (fun c1 => ?_)
    · refine dk_iconst C (0) dX8_holds_31 rfl ?_
      refine dk_goto C 63 dX8_holds_32 (by decide) ?_
      exact dk_zret C E rfl dX8_holds_63 (Nat.zero_le _) (Nat.zero_le _) (⟨pI (bI_f (by simpa [cn_b] using c1)), rfl⟩)
    · refine dk_iconst C (1) dX8_holds_27 rfl ?_
      refine dk_goto C 63 dX8_holds_28 (by decide) ?_
      exact dk_zret C E rfl dX8_holds_63 (Nat.zero_le _) (Nat.zero_le _) (⟨pI (bI_t (by simpa [cn_b] using c1)), rfl⟩)
  · refine dk_if_ne C 17 dX8_holds_1 (by decide) (fun _ => ?_) (fun hz => absurd hz (by decide))
    refine dk_iload_n C dX8_holds_17 rfl rfl ?_
    refine dk_iconst C (1) dX8_holds_18 rfl ?_
    refine dk_icmp_ne C 35 dX8_holds_19 (by decide) (fun _ => ?_) (fun hz => absurd hz (by decide))
    refine dk_iload_n C dX8_holds_35 rfl rfl ?_
    refine dk_iconst C (2) dX8_holds_36 rfl ?_
    refine dk_icmp_ne C 53 dX8_holds_37 (by decide) (fun hz => absurd hz (by decide)) (fun _ => ?_)
    refine dk_iload_n C dX8_holds_40 rfl rfl ?_
    refine dk_iload_n C dX8_holds_41 rfl rfl ?_
    refine dk_icmp_le C 49 dX8_holds_42 (by decide) (fun c1 => ?_) (fun c1 => ?_)
    · refine dk_iconst C (0) dX8_holds_49 rfl ?_
      refine dk_goto C 63 dX8_holds_50 (by decide) ?_
      exact dk_zret C E rfl dX8_holds_63 (Nat.zero_le _) (Nat.zero_le _) (⟨pI (bI_f (by simpa [cn_b] using c1)), rfl⟩)
    · refine dk_iconst C (1) dX8_holds_45 rfl ?_
      refine dk_goto C 63 dX8_holds_46 (by decide) ?_
      exact dk_zret C E rfl dX8_holds_63 (Nat.zero_le _) (Nat.zero_le _) (⟨pI (bI_t (by simpa [cn_b] using c1)), rfl⟩)
  · refine dk_if_ne C 17 dX8_holds_1 (by decide) (fun _ => ?_) (fun hz => absurd hz (by decide))
    refine dk_iload_n C dX8_holds_17 rfl rfl ?_
    refine dk_iconst C (1) dX8_holds_18 rfl ?_
    refine dk_icmp_ne C 35 dX8_holds_19 (by decide) (fun _ => ?_) (fun hz => absurd hz (by decide))
    refine dk_iload_n C dX8_holds_35 rfl rfl ?_
    refine dk_iconst C (2) dX8_holds_36 rfl ?_
    refine dk_icmp_ne C 53 dX8_holds_37 (by decide) (fun _ => ?_) (fun hz => absurd hz (by decide))
    refine dk_iload_n C dX8_holds_53 rfl rfl ?_
    refine dk_iload_n C dX8_holds_54 rfl rfl ?_
    refine dk_icmp_eq C 62 dX8_holds_55 (by decide) (fun c1 => ?_) (fun c1 => ?_)
    · refine dk_iconst C (0) dX8_holds_62 rfl ?_
      exact dk_zret C E rfl dX8_holds_63 (Nat.zero_le _) (Nat.zero_le _) (⟨pI (bI_f (by simpa [cn_b] using c1)), rfl⟩)
    · refine dk_iconst C (1) dX8_holds_58 rfl ?_
      refine dk_goto C 63 dX8_holds_59 (by decide) ?_
      exact dk_zret C E rfl dX8_holds_63 (Nat.zero_le _) (Nat.zero_le _) (⟨pI (bI_t (by simpa [cn_b] using c1)), rfl⟩)
set_option maxHeartbeats 4000000 in
set_option maxRecDepth 100000 in
theorem c_X8_rowAt (G : dk_G) (sr : Nat → Option Nat) (hi : Nat → Nat → Int32) (hf : Nat → Nat → UInt32) (z : (Nat → Nat → Int64) × (Nat → Nat → UInt64)) (p : aP) (ns k : Nat) (hn3 : ns ≤ 3) (hp : mPl hi p ns) (hk : k < ns) (hlt : ∀ i, i < ns → po p i < 3) (hinj : ∀ i, i < k → ¬ po p i = po p k) :
    dk_MF G yX8_rowAt cX8_rowAt 3 (some .int) 0 0 [.ref 45, .int (nI (po p k))] (hi, hf, dk_RF sr, z) (some (.int (hi 59 k))) (hi, hf, dk_RF sr, z) := by
  refine dk_met (L := [some (.ref 45), some (.int (nI (po p k))), none]) pnX8 rfl (Nat.le_of_ble_eq_true rfl) ?_
  intro X C E hNm
  have loop : ∀ r i, i + r = k → dk_W X 2 [some (.ref 45), some (.int (nI (po p k))), some (.int (nI i))] [] 63 (hi, hf, dk_RF sr, z) 0 0 := by
    intro r
    induction r with
    | zero =>
      intro i hik
      obtain rfl : i = k := by omega
      refine dk_aload_n C dX8_rowAt_2 rfl rfl ?_
      refine ek_getR C fX8_38 rfl (by decide) rfl 55 rfl dX8_rowAt_3 ?_
      refine dk_iload_n C dX8_rowAt_6 rfl rfl ?_
      refine ek_iald C rfl (by decide) (i) (rfl) (by omega) (by decide) dX8_rowAt_7 ?_
      refine dk_iload_n C dX8_rowAt_8 rfl rfl ?_
      rw [(hp i hk).1]
      refine dk_icmp_eq C 18 dX8_rowAt_9 (by decide) (fun _ => ?_) (fun hz => absurd (rfl) hz)
      refine dk_aload_n C dX8_rowAt_18 rfl rfl ?_
      refine ek_getR C fX8_50 rfl (by decide) rfl 59 rfl dX8_rowAt_19 ?_
      refine dk_iload_n C dX8_rowAt_22 rfl rfl ?_
      refine ek_iald C rfl (by decide) (i) (rfl) (by omega) (by decide) dX8_rowAt_23 ?_
      exact dk_iret C E dX8_rowAt_24 (Nat.zero_le _) (Nat.zero_le _) (⟨rfl, rfl⟩)
    | succ r ih =>
      intro i hik
      refine dk_aload_n C dX8_rowAt_2 rfl rfl ?_
      refine ek_getR C fX8_38 rfl (by decide) rfl 55 rfl dX8_rowAt_3 ?_
      refine dk_iload_n C dX8_rowAt_6 rfl rfl ?_
      refine ek_iald C rfl (by decide) (i) (rfl) (by omega) (by decide) dX8_rowAt_7 ?_
      refine dk_iload_n C dX8_rowAt_8 rfl rfl ?_
      rw [(hp i (by omega)).1]
      refine dk_icmp_eq C 18 dX8_rowAt_9 (by decide) (fun hz => absurd hz (fun q => hinj i (by omega) ((nI_eq (by have := hlt i (by omega); omega) (by have := hlt k hk; omega)).mp q))) (fun _ => ?_)
      refine dk_iinc C (nI (i + 1)) dX8_rowAt_12 rfl (nI_1 i) (by decide) rfl ?_
      refine dk_goto C 2 dX8_rowAt_15 (by decide) ?_
      exact ih (i + 1) (by omega)
  refine dk_iconst C (0) dX8_rowAt_0 rfl ?_
  refine dk_istore_n C dX8_rowAt_1 rfl (by decide) rfl ?_
  exact loop k 0 (by omega)
theorem m4s (j e : Nat) (he : e < 2) : (4 : Int32) * nI j + 2 - nI (2 * e) = nI (4 * j + 2 * (1 - e)) ∧ (4 : Int32) * nI j + 3 - nI (2 * e) = nI (4 * j + 2 * (1 - e) + 1) := by
  rcases (show e = 0 ∨ e = 1 by omega) with rfl | rfl
  · exact ⟨(Int32.sub_zero _).trans (m4_k j 2), (Int32.sub_zero _).trans (m4_k j 3)⟩
  · refine ⟨(Int32.add_sub_cancel _ _).trans (m4_0 j), ?_⟩
    have e3 : (4 : Int32) * nI j + 3 = 4 * nI j + 1 + 2 := by rw [Int32.add_assoc]; rfl
    rw [e3]
    exact (Int32.add_sub_cancel _ _).trans (m4_k j 1)
/-- the rows read: at level k, of source po k, the place rp -/
def mAt (hi : Nat → Nat → Int32) (q : aQ) (p : aP) (en : Nat → Nat → Nat) (rp : Nat → Nat) (k : Nat) : Prop := hi 59 k = nI (en (po p k) (rp (po p k))) ∧ rp (po p k) < qn q (po p k)
set_option maxHeartbeats 4000000 in
set_option maxRecDepth 100000 in
theorem c_X8_wanted (G : dk_G) (sr : Nat → Option Nat) (hi : Nat → Nat → Int32) (hf : Nat → Nat → UInt32) (z : (Nat → Nat → Int64) × (Nat → Nat → UInt64)) {q : aQ} {p : aP} {ns nc nj no : Nat} {jt : Nat → Nat} {en : Nat → Nat → Nat} (hQ : mQ hi q ns nc nj no jt en) (hp : mPl hi p ns) (hW : aW q p ns nc nj) (rp : Nat → Nat) (j e k : Nat) (hj : j < nj) (he : e < 2) (hk : k < ns) (hs : qe q j (1 - e) = po p k) (hat : mAt hi q p en rp k) :
    dk_MF G yX8_wanted cX8_wanted 4 (some .int) 1 23 [.ref 45, .int (nI j), .int (nI (2 * e))] (hi, hf, dk_RF sr, z) (some (.int (qV q (qe q j (1 - e)) (qk q j (1 - e)) (rp (qe q j (1 - e)))))) (hi, hf, dk_RF sr, z) := by
  refine dk_met (L := [some (.ref 45), some (.int (nI j)), some (.int (nI (2 * e))), none]) pnX8 rfl (Nat.le_of_ble_eq_true rfl) ?_
  intro X C E hNm
  obtain ⟨⟨hn, hn3, h1⟩, h2, h3, -, ⟨h6, h7, h8⟩, -⟩ := hQ
  obtain ⟨⟨q1, q2⟩, q3, q4⟩ := (h8 j hj).2 (1 - e) (by omega)
  obtain ⟨k1, k2, k3⟩ := h1 _ q1
  rw [hs] at q1 q3 k1 k2
  have hE := h2 _ q1
  have h60 := hE.2.1 _ hat.2
  refine dk_aload_n C dX8_wanted_0 rfl rfl ?_
  refine ek_getR C fX8_32 rfl (by decide) rfl 53 rfl dX8_wanted_1 ?_
  refine dk_iconst C (4) dX8_wanted_4 rfl ?_
  refine dk_iload_n C dX8_wanted_5 rfl rfl ?_
  refine dk_imul C dX8_wanted_6 ?_
  refine dk_iconst C (2) dX8_wanted_7 rfl ?_
  refine dk_iadd C dX8_wanted_8 ?_
  refine dk_iload_n C dX8_wanted_9 rfl rfl ?_
  refine dk_isub C dX8_wanted_10 ?_
  refine ek_iald C rfl (by decide) (4 * j + 2 * (1 - e)) ((m4s j e he).1) (by omega) (by decide) dX8_wanted_11 ?_
  rw [q3]
  refine dk_istore_n C dX8_wanted_12 rfl (by decide) rfl ?_
  refine dk_aload_n C dX8_wanted_13 rfl rfl ?_
  refine dk_aload_n C dX8_wanted_14 rfl rfl ?_
  refine ek_getR C fX8_26 rfl (by decide) rfl 51 rfl dX8_wanted_15 ?_
  refine dk_iload_n C dX8_wanted_18 rfl rfl ?_
  refine ek_iald C rfl (by decide) (po p k) (rfl) (by omega) (by decide) dX8_wanted_19 ?_
  rw [k1]
  refine dk_aload_n C dX8_wanted_20 rfl rfl ?_
  refine dk_iload_n C dX8_wanted_21 rfl rfl ?_
  refine ek_callV C mX8_166 (c_X8_rowAt _ _ _ _ _ p ns k hn3 hp hk (fun i hi' => Nat.lt_of_lt_of_le (hW i hi').1 hn3) (hW k hk).2.1) rfl (by decide) rfl rfl (Nat.le_of_ble_eq_true rfl) (by decide) (by decide) (Nat.zero_le _) (Nat.zero_le _) dX8_wanted_22 ?_
  rw [hat.1]
  refine dk_aload_n C dX8_wanted_25 rfl rfl ?_
  refine ek_getR C fX8_32 rfl (by decide) rfl 53 rfl dX8_wanted_26 ?_
  refine dk_iconst C (4) dX8_wanted_29 rfl ?_
  refine dk_iload_n C dX8_wanted_30 rfl rfl ?_
  refine dk_imul C dX8_wanted_31 ?_
  refine dk_iconst C (3) dX8_wanted_32 rfl ?_
  refine dk_iadd C dX8_wanted_33 ?_
  refine dk_iload_n C dX8_wanted_34 rfl rfl ?_
  refine dk_isub C dX8_wanted_35 ?_
  refine ek_iald C rfl (by decide) (4 * j + 2 * (1 - e) + 1) ((m4s j e he).2) (by omega) (by decide) dX8_wanted_36 ?_
  rw [q4]
  refine ek_callV C mX8_88 (c_X8_get _ _ _ _ _ (jt (po p k)) _ (qk q j (1 - e)) k2 h60 q2) rfl (by decide) rfl rfl (Nat.le_of_ble_eq_true rfl) (by decide) (by decide) (Nat.zero_le _) (Nat.zero_le _) dX8_wanted_37 ?_
  rw [h3 _ _ _ q1 q2 hat.2, ← hs]
  exact dk_iret C E dX8_wanted_40 (Nat.zero_le _) (Nat.zero_le _) (⟨rfl, rfl⟩)
set_option maxHeartbeats 4000000 in
set_option maxRecDepth 100000 in
theorem c_X8_before (G : dk_G) (sr : Nat → Option Nat) (hi : Nat → Nat → Int32) (hf : Nat → Nat → UInt32) (z : (Nat → Nat → Int64) × (Nat → Nat → UInt64)) (j k a b c : Nat) (cv : Int32) (hj : j < 3) (hk : k < 3) (ha : a < 60) (hb : b < 60) (hcv : hi 56 k = 2 → cv = nI c ∧ c < 4) :
    dk_MF G yX8_before cX8_before 6 (some .boolean) 1 23 [.ref 45, .int (nI j), .int (nI k), .int cv, .int (nI a), .int (nI b)] (hi, hf, dk_RF sr, z) (some (.int (bI (if hi 56 k = 2 ∧ ¬ hi 49 (240 * j + 4 * a + c) = hi 49 (240 * j + 4 * b + c) then decide (hi 49 (240 * j + 4 * a + c) < hi 49 (240 * j + 4 * b + c)) else decide (a < b))))) (hi, hf, dk_RF sr, z) := by
  refine dk_met (L := [some (.ref 45), some (.int (nI j)), some (.int (nI k)), some (.int cv), some (.int (nI a)), some (.int (nI b))]) pnX8 rfl (Nat.le_of_ble_eq_true rfl) ?_
  intro X C E hNm
  have tail : ¬ (hi 56 k = 2 ∧ ¬ hi 49 (240 * j + 4 * a + c) = hi 49 (240 * j + 4 * b + c)) → dk_W X 54 [some (.ref 45), some (.int (nI j)), some (.int (nI k)), some (.int cv), some (.int (nI a)), some (.int (nI b))] [] 63 (hi, hf, dk_RF sr, z) 0 0 := by
    intro q
    rw [if_neg q] at E
    refine dk_iload C dX8_before_54 rfl ?_
    refine dk_iload C dX8_before_56 rfl ?_
    refine dk_icmp_ge C 65 dX8_before_58 (by decide) (fun c3 => ?_) (fun c3 => ?_)
    · refine dk_iconst C (0) dX8_before_65 rfl ?_
      exact dk_zret C E rfl dX8_before_66 (Nat.zero_le _) (Nat.zero_le _) (⟨pI (bI_f (decide_eq_false (fun q => nI_ge q (by omega) c3))), rfl⟩)
    · refine dk_iconst C (1) dX8_before_61 rfl ?_
      refine dk_goto C 66 dX8_before_62 (by decide) ?_
      exact dk_zret C E rfl dX8_before_66 (Nat.zero_le _) (Nat.zero_le _) (⟨pI (bI_t (decide_eq_true ((nI_ltI (by omega) (by omega)).mp (Int32.not_le.mp c3)))), rfl⟩)
  refine dk_aload_n C dX8_before_0 rfl rfl ?_
  refine ek_getR C fX8_41 rfl (by decide) rfl 56 rfl dX8_before_1 ?_
  refine dk_iload_n C dX8_before_4 rfl rfl ?_
  refine ek_iald C rfl (by decide) (k) (rfl) (by omega) (by decide) dX8_before_5 ?_
  refine dk_iconst C (2) dX8_before_6 rfl ?_
  refine dk_icmp_ne C 54 dX8_before_7 (by decide) (fun c1 => ?_) (fun c1 => ?_)
  · exact tail (fun q => c1 q.1)
  · obtain ⟨rfl, hc⟩ := hcv c1
    refine dk_aload_n C dX8_before_10 rfl rfl ?_
    refine dk_iload_n C dX8_before_11 rfl rfl ?_
    refine dk_iload C dX8_before_12 rfl ?_
    refine dk_iload_n C dX8_before_14 rfl rfl ?_
    refine ek_callV C mX8_88 (c_X8_get _ _ _ _ _ j a c hj ha hc) rfl (by decide) rfl rfl (Nat.le_of_ble_eq_true rfl) (by decide) (by decide) (Nat.zero_le _) (Nat.zero_le _) dX8_before_15 ?_
    refine dk_aload_n C dX8_before_18 rfl rfl ?_
    refine dk_iload_n C dX8_before_19 rfl rfl ?_
    refine dk_iload C dX8_before_20 rfl ?_
    refine dk_iload_n C dX8_before_22 rfl rfl ?_
    refine ek_callV C mX8_88 (c_X8_get _ _ _ _ _ j b c hj hb hc) rfl (by decide) rfl rfl (Nat.le_of_ble_eq_true rfl) (by decide) (by decide) (Nat.zero_le _) (Nat.zero_le _) dX8_before_23 ?_
    refine dk_icmp_eq C 54 dX8_before_26 (by decide) (fun c2 => ?_) (fun c2 => ?_)
    · exact tail (fun q => q.2 c2)
    · rw [if_pos ⟨c1, c2⟩] at E
      refine dk_aload_n C dX8_before_29 rfl rfl ?_
      refine dk_iload_n C dX8_before_30 rfl rfl ?_
      refine dk_iload C dX8_before_31 rfl ?_
      refine dk_iload_n C dX8_before_33 rfl rfl ?_
      refine ek_callV C mX8_88 (c_X8_get _ _ _ _ _ j a c hj ha hc) rfl (by decide) rfl rfl (Nat.le_of_ble_eq_true rfl) (by decide) (by decide) (Nat.zero_le _) (Nat.zero_le _) dX8_before_34 ?_
      refine dk_aload_n C dX8_before_37 rfl rfl ?_
      refine dk_iload_n C dX8_before_38 rfl rfl ?_
      refine dk_iload C dX8_before_39 rfl ?_
      refine dk_iload_n C dX8_before_41 rfl rfl ?_
      refine ek_callV C mX8_88 (c_X8_get _ _ _ _ _ j b c hj hb hc) rfl (by decide) rfl rfl (Nat.le_of_ble_eq_true rfl) (by decide) (by decide) (Nat.zero_le _) (Nat.zero_le _) dX8_before_42 ?_
      refine dk_icmp_ge C 52 dX8_before_45 (by decide) (fun c3 => ?_) (fun c3 => ?_)
      · refine dk_iconst C (0) dX8_before_52 rfl ?_
        exact dk_zret C E rfl dX8_before_53 (Nat.zero_le _) (Nat.zero_le _) (⟨pI (bI_f (decide_eq_false (Int32.not_lt.mpr c3))), rfl⟩)
      · refine dk_iconst C (1) dX8_before_48 rfl ?_
        refine dk_goto C 53 dX8_before_49 (by decide) ?_
        exact dk_zret C E rfl dX8_before_53 (Nat.zero_le _) (Nat.zero_le _) (⟨pI (bI_t (decide_eq_true (Int32.not_le.mp c3))), rfl⟩)
