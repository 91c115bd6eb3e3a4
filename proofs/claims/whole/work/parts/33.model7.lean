/-! ===== QueryDeskModel: orders, costs, the plan ===== -/
def od_f (k i : Int32) : Int32 := if i = 0 then k / 2 else if (if i = 1 then (1 : Int32) else 0) = (if k - k / 2 * 2 = 0 then 1 else 0) then (if k / 2 = 0 then 1 else 0) else 3 - k / 2 - (if k / 2 = 0 then 1 else 0)
set_option maxHeartbeats 4000000 in
set_option maxRecDepth 100000 in
theorem c_X8_ordered (G : dk_G) (sr : Nat → Option Nat) (hi : Nat → Nat → Int32) (hf : Nat → Nat → UInt32) (z : (Nat → Nat → Int64) × (Nat → Nat → UInt64)) (k i : Int32) :
    dk_MF G yX8_ordered cX8_ordered 5 (some .int) 0 0 [.int k, .int i] (hi, hf, dk_RF sr, z) (some (.int (od_f k i))) (hi, hf, dk_RF sr, z) := by
  refine dk_met (L := [some (.int k), some (.int i), none, none, none]) pnX8 rfl (Nat.le_of_ble_eq_true rfl) ?_
  intro X C E hNm
  have t3 : ∀ l a : Int32, ¬ i = 0 → l = (if k / 2 = 0 then 1 else 0) → a = (if i = 1 then (1 : Int32) else 0) → dk_W X 37 [some (.int k), some (.int i), some (.int (k / 2)), some (.int l), some (.int (3 - k / 2 - l))] [.int a] 63 (hi, hf, dk_RF sr, z) 0 0 := by
    intro l a h0 hl ha
    have t4 : ∀ b : Int32, b = (if k - k / 2 * 2 = 0 then 1 else 0) → dk_W X 48 [some (.int k), some (.int i), some (.int (k / 2)), some (.int l), some (.int (3 - k / 2 - l))] [.int b, .int a] 63 (hi, hf, dk_RF sr, z) 0 0 := by
      intro b hb
      refine dk_icmp_ne C 55 dX8_ordered_48 (by decide) (fun c1 => ?_) (fun c1 => ?_)
      · refine dk_iload C dX8_ordered_55 rfl ?_
        exact dk_iret C E dX8_ordered_57 (Nat.zero_le _) (Nat.zero_le _) (⟨pI (by rw [od_f, if_neg h0, ← ha, ← hb, if_neg c1, ← hl]), rfl⟩)
      · refine dk_iload_n C dX8_ordered_51 rfl rfl ?_
        refine dk_goto C 57 dX8_ordered_52 (by decide) ?_
        exact dk_iret C E dX8_ordered_57 (Nat.zero_le _) (Nat.zero_le _) (⟨pI (by rw [od_f, if_neg h0, ← ha, ← hb, if_pos c1, ← hl]), rfl⟩)
    refine dk_iload_n C dX8_ordered_37 rfl rfl ?_
    refine dk_iconst C (2) dX8_ordered_38 rfl ?_
    refine dk_irem C dX8_ordered_39 (by decide) ?_
    refine dk_if_ne C 47 dX8_ordered_40 (by decide) (fun c1 => ?_) (fun c1 => ?_)
    · refine dk_iconst C (0) dX8_ordered_47 rfl ?_
      exact t4 0 (by rw [if_neg c1])
    · refine dk_iconst C (1) dX8_ordered_43 rfl ?_
      refine dk_goto C 48 dX8_ordered_44 (by decide) ?_
      exact t4 1 (by rw [if_pos c1])
  have t2 : ∀ l : Int32, ¬ i = 0 → l = (if k / 2 = 0 then 1 else 0) → dk_W X 19 [some (.int k), some (.int i), some (.int (k / 2)), none, none] [.int l] 63 (hi, hf, dk_RF sr, z) 0 0 := by
    intro l h0 hl
    refine dk_istore_n C dX8_ordered_19 rfl (by decide) rfl ?_
    refine dk_iconst C (3) dX8_ordered_20 rfl ?_
    refine dk_iload_n C dX8_ordered_21 rfl rfl ?_
    refine dk_isub C dX8_ordered_22 ?_
    refine dk_iload_n C dX8_ordered_23 rfl rfl ?_
    refine dk_isub C dX8_ordered_24 ?_
    refine dk_istore C dX8_ordered_25 (by decide) rfl ?_
    refine dk_iload_n C dX8_ordered_27 rfl rfl ?_
    refine dk_iconst C (1) dX8_ordered_28 rfl ?_
    refine dk_icmp_ne C 36 dX8_ordered_29 (by decide) (fun c1 => ?_) (fun c1 => ?_)
    · refine dk_iconst C (0) dX8_ordered_36 rfl ?_
      exact t3 l 0 h0 hl (by rw [if_neg c1])
    · refine dk_iconst C (1) dX8_ordered_32 rfl ?_
      refine dk_goto C 37 dX8_ordered_33 (by decide) ?_
      exact t3 l 1 h0 hl (by rw [if_pos c1])
  refine dk_iload_n C dX8_ordered_0 rfl rfl ?_
  refine dk_iconst C (2) dX8_ordered_1 rfl ?_
  refine dk_idiv C dX8_ordered_2 (by decide) ?_
  refine dk_istore_n C dX8_ordered_3 rfl (by decide) rfl ?_
  refine dk_iload_n C dX8_ordered_4 rfl rfl ?_
  refine dk_if_ne C 10 dX8_ordered_5 (by decide) (fun c1 => ?_) (fun c1 => ?_)
  · refine dk_iload_n C dX8_ordered_10 rfl rfl ?_
    refine dk_if_ne C 18 dX8_ordered_11 (by decide) (fun c2 => ?_) (fun c2 => ?_)
    · refine dk_iconst C (0) dX8_ordered_18 rfl ?_
      exact t2 0 c1 (by rw [if_neg c2])
    · refine dk_iconst C (1) dX8_ordered_14 rfl ?_
      refine dk_goto C 19 dX8_ordered_15 (by decide) ?_
      exact t2 1 c1 (by rw [if_pos c2])
  · refine dk_iload_n C dX8_ordered_8 rfl rfl ?_
    exact dk_iret C E dX8_ordered_9 (Nat.zero_le _) (Nat.zero_le _) (⟨pI (by rw [od_f, if_pos c1]), rfl⟩)
def od3 (k i : Nat) : Nat := ([0, 1, 2, 0, 2, 1, 1, 0, 2, 1, 2, 0, 2, 0, 1, 2, 1, 0] : List Nat).getD (3 * k + i) 0
theorem od_ok : ∀ k, k < 6 → ∀ i, i < 3 → od_f (nI k) (nI i) = nI (od3 k i) ∧ od3 k i < 3 := by decide +kernel
/-- the sources in the k-th order, and how many stand among the first i -/
def mo (ns num k : Nat) : Nat := (((List.range 3).map (od3 num)).filter (fun s => decide (s < ns))).getD k 0
def mc (ns num i : Nat) : Nat := (((List.range i).map (od3 num)).filter (fun s => decide (s < ns))).length
theorem mc_a : ∀ ns, ns < 4 → ∀ num, num < 6 → ∀ i, i < 3 → (¬ od3 num i < ns ∨ (mo ns num (mc ns num i) = od3 num i ∧ mc ns num (i + 1) = mc ns num i + 1 ∧ mc ns num i < ns)) ∧ (od3 num i < ns ∨ mc ns num (i + 1) = mc ns num i) := by decide +kernel
theorem mc_b : ∀ ns, ns < 4 → ∀ num, num < 6 → mc ns num 3 = ns ∧ mc ns num 0 = 0 := by decide +kernel
theorem mo_lt : ∀ ns, ns < 4 → ∀ num, num < 6 → ∀ k, k < ns → mo ns num k < ns := by decide +kernel
theorem mc_ok (ns : Nat) (h : ns < 4) (num : Nat) (hm : num < 6) : (∀ i, i < 3 → (od3 num i < ns → mo ns num (mc ns num i) = od3 num i ∧ mc ns num (i + 1) = mc ns num i + 1 ∧ mc ns num i < ns) ∧ (¬ od3 num i < ns → mc ns num (i + 1) = mc ns num i)) ∧ mc ns num 3 = ns ∧ mc ns num 0 = 0 ∧ ∀ k, k < ns → mo ns num k < ns :=
  ⟨fun i hi => ⟨fun q => (mc_a ns h num hm i hi).1.resolve_left (fun z => z q), fun q => (mc_a ns h num hm i hi).2.resolve_left q⟩, (mc_b ns h num hm).1, (mc_b ns h num hm).2, mo_lt ns h num hm⟩
/-- the sources before the k-th -/
def bfo (od : Nat → Nat) (k x : Nat) : Bool := (List.range k).any (fun i => decide (od i = x))
/-- count and cost behind k sources -/
def gcc (g : gG) (nc nj : Nat) (od : Nat → Nat) : Nat → UInt32 × UInt32
  | 0 => (FP.fconst1, FP.fconst0)
  | k + 1 => (gN g (bfo od k) nc nj (od k) (gcc g nc nj od k).1, FP.fadd (gcc g nc nj od k).2 (FP.fmul (gcc g nc nj od k).1 (gB g (bfo od k) nc nj (od k)).1))
def mph (g : gG) (nc nj : Nat) (od : Nat → Nat) (hi : Nat → Nat → Int32) : Nat → Nat → Nat → Int32
  | 0 => hi
  | k + 1 => dk_up (dk_up (dk_up (dk_up (md_nw (mph g nc nj od hi k) (gB g (bfo od k) nc nj (od k))) 55 k (nI (od k))) 56 k (gB g (bfo od k) nc nj (od k)).2.1) 57 k (gB g (bfo od k) nc nj (od k)).2.2.1) 58 k (gB g (bfo od k) nc nj (od k)).2.2.2
/-- what a plan doesn't change of the model -/
def mfr (hi hi' : Nat → Nat → Int32) : Prop := ∀ i j, ¬ (i = 45 ∧ 22 ≤ j ∧ j ≤ 24) → ¬ (55 ≤ i ∧ i ≤ 58) → hi' i j = hi i j
theorem md_nw_fr (hi : Nat → Nat → Int32) (b : pl_B) : ∀ i j, ¬ (i = 45 ∧ 22 ≤ j ∧ j ≤ 24) → md_nw hi b i j = hi i j := by
  intro i j h
  unfold md_nw
  rw [dk_up_ne _ _ (by omega), dk_up_ne _ _ (by omega), dk_up_ne _ _ (by omega)]
theorem mph_fr (g : gG) (nc nj : Nat) (od : Nat → Nat) (hi : Nat → Nat → Int32) : ∀ k, mfr hi (mph g nc nj od hi k)
  | 0 => fun _ _ _ _ => rfl
  | k + 1 => by
    intro i j h1 h2
    show dk_up _ _ _ _ i j = _
    rw [dk_up_ne _ _ (by omega), dk_up_ne _ _ (by omega), dk_up_ne _ _ (by omega), dk_up_ne _ _ (by omega), md_nw_fr _ _ i j h1]
    exact mph_fr g nc nj od hi k i j h1 h2
theorem mG.fr {hi hi' : Nat → Nat → Int32} {g : gG} {ns nc nj : Nat} {jt : Nat → Nat} {en : Nat → Nat → Nat} (h : mG hi g ns nc nj jt en) (hh : mfr hi hi') : mG hi' g ns nc nj jt en := by
  obtain ⟨⟨a1, a2, a3⟩, h2, ⟨h3, h4, h5⟩, h6, h7, h8⟩ := h
  have hm : ∀ j c e, mv hi' j c e = mv hi j c e := fun j c e => by funext p; exact hh 49 _ (by omega) (by omega)
  refine ⟨⟨by rw [hh 45 7 (by omega) (by omega)]; exact a1, a2, fun k hk => ?_⟩, fun s hs => ?_, ⟨by rw [hh 45 9 (by omega) (by omega)]; exact h3, h4, fun i hi9 => ?_⟩, by rw [hh 45 11 (by omega) (by omega)]; exact h6, h7, fun j hj => ⟨(h8 j hj).1, fun e he => ?_⟩⟩
  · obtain ⟨q1, q2, q3⟩ := a3 k hk
    exact ⟨by rw [hh 51 k (by omega) (by omega)]; exact q1, q2, by rw [hh 46 _ (by omega) (by omega)]; exact q3⟩
  · obtain ⟨q1, q2, q3, q4⟩ := h2 s hs
    exact ⟨q1, q2, fun r hr => by rw [hh 48 _ (by omega) (by omega)]; exact q3 r hr, q4⟩
  · obtain ⟨c, o, q1, ⟨q2, q3, q4⟩, q5, q6, q7, q8⟩ := h5 i hi9
    exact ⟨c, o, q1, ⟨by rw [hh 52 _ (by omega) (by omega)]; exact q2, by rw [hh 52 _ (by omega) (by omega)]; exact q3, by rw [hh 52 _ (by omega) (by omega)]; exact q4⟩, q5, by rw [hm, hh 52 _ (by omega) (by omega)]; exact q6, by rw [hh 50 _ (by omega) (by omega)]; exact q7, by rw [hh 50 _ (by omega) (by omega)]; exact q8⟩
  · obtain ⟨c, q1, ⟨q2, q3⟩, q5, q6, q7⟩ := (h8 j hj).2 e he
    exact ⟨c, q1, ⟨by rw [hh 53 _ (by omega) (by omega)]; exact q2, by rw [hh 53 _ (by omega) (by omega)]; exact q3⟩, by rw [hm]; exact q5, by rw [hh 50 _ (by omega) (by omega)]; exact q6, by rw [hh 50 _ (by omega) (by omega)]; exact q7⟩
theorem gcc_fb {g : gG} {ns nc nj : Nat} (h : gF g ns nc nj) {od : Nat → Nat} (hod : ∀ k, k < ns → od k < ns) (hn3 : ns ≤ 3) : ∀ k, k ≤ ns → fb (128 + 42 * k) (gcc g nc nj od k).1 ∧ fb (185 + 22 * k) (gcc g nc nj od k).2
  | 0, _ => ⟨fb_w fb_1 (by decide), fb_w fb_0 (by decide)⟩
  | k + 1, hk => by
    obtain ⟨h1, h2⟩ := gcc_fb h hod hn3 k (by omega)
    refine ⟨fb_w (gF_N h (bfo od k) (hod k (by omega)) h1 (by omega)) (by omega), ?_⟩
    have hb := gF_B h (bfo od k) (hod k (by omega))
    have hm : fb (185 + 22 * k + 20) (FP.fmul (gcc g nc nj od k).1 (gB g (bfo od k) nc nj (od k)).1) := fb_w (fb_mul h1 hb (by omega) (by decide)) (by omega)
    exact fb_w (fb_add (fb_w h2 (by omega)) hm (by omega)) (by omega)
set_option maxHeartbeats 4000000 in
set_option maxRecDepth 100000 in
theorem c_X8_cost (G : dk_G) (sr : Nat → Option Nat) (hi : Nat → Nat → Int32) (hf : Nat → Nat → UInt32) (z : (Nat → Nat → Int64) × (Nat → Nat → UInt64)) {g : gG} {ns nc nj : Nat} {jt : Nat → Nat} {en : Nat → Nat → Nat} (hG : mG hi g ns nc nj jt en) (num : Nat) (hnum : num < 6) :
    dk_MF G yX8_cost cX8_cost 9 (some .float) 3 85 [.ref 45, .int (nI num)] (hi, hf, dk_RF sr, z) (some (.float (gcc g nc nj (mo ns num) ns).2)) (mph g nc nj (mo ns num) hi ns, hf, dk_RF sr, z) := by
  refine dk_met (L := [some (.ref 45), some (.int (nI num)), none, none, none, none, none, none, none]) pnX8 rfl (Nat.le_of_ble_eq_true rfl) ?_
  intro X C E hNm
  have hF := hG.F
  have hn3 := hG.1.2.1
  have hn := hG.1.1
  obtain ⟨m1, m2, m3, m4⟩ := mc_ok ns (by omega) num hnum
  have loop : ∀ r i n B, i + r = 3 → n = mc ns num i → bm B (bfo (mo ns num) n) → dk_W X 13 [some (.ref 45), some (.int (nI num)), some (.float ((gcc g nc nj (mo ns num) n).1)), some (.float ((gcc g nc nj (mo ns num) n).2)), some (.int (nI (B))), some (.int (nI (n))), some (.int (nI (i))), none, none] [] 63 (mph g nc nj (mo ns num) hi n, hf, dk_RF sr, z) 0 0 := by
    intro r
    induction r with
    | zero =>
      intro i n B hi' hnn hB
      obtain rfl : i = 3 := by omega
      rw [m2] at hnn
      subst hnn
      refine dk_iload C dX8_cost_13 rfl ?_
      refine dk_iconst C (3) dX8_cost_15 rfl ?_
      refine dk_icmp_ge C 123 dX8_cost_16 (by decide) (fun _ => ?_) (fun hz => absurd (by decide) hz)
      refine dk_fload_n C dX8_cost_123 rfl rfl ?_
      exact dk_fret C E dX8_cost_124 (Nat.zero_le _) (Nat.zero_le _) (⟨rfl, rfl⟩)
    | succ r ih =>
      intro i n B hi' hnn hB
      obtain ⟨o1, o2⟩ := od_ok num hnum i (by omega)
      have hGk := hG.fr (mph_fr g nc nj (mo ns num) hi n)
      refine dk_iload C dX8_cost_13 rfl ?_
      refine dk_iconst C (3) dX8_cost_15 rfl ?_
      refine dk_icmp_ge C 123 dX8_cost_16 (by decide) (fun hz => absurd hz (nI_ge (b := 3) (by omega) (by omega))) (fun _ => ?_)
      refine dk_iload_n C dX8_cost_19 rfl rfl ?_
      refine dk_iload C dX8_cost_20 rfl ?_
      refine ek_callS C mX8_147 (c_X8_ordered _ _ _ _ _ (nI num) (nI i)) rfl rfl (Nat.le_of_ble_eq_true rfl) (by decide) (by decide) (Nat.zero_le _) (Nat.zero_le _) dX8_cost_22 ?_
      rw [o1]
      refine dk_istore C dX8_cost_25 (by decide) rfl ?_
      refine dk_iload C dX8_cost_27 rfl ?_
      refine dk_aload_n C dX8_cost_29 rfl rfl ?_
      refine ek_getI C fX8_96 rfl (by decide) rfl dX8_cost_30 ?_
      rw [show mph g nc nj (mo ns num) hi n 45 7 = nI ns from hGk.1.1]
      refine dk_icmp_ge C 117 dX8_cost_33 (by decide) (fun c1 => ?_) (fun c1 => ?_)
      · have hge : ¬ od3 num i < ns := fun q => Int32.not_lt.mpr c1 (nI_lt q (by omega))
        refine dk_iinc C (nI (i + 1)) dX8_cost_117 rfl (nI_1 i) (by decide) rfl ?_
        refine dk_goto C 13 dX8_cost_120 (by decide) ?_
        refine dk_forgetAt 7 ?_
        exact ih (i + 1) n B (by omega) (by rw [((m1 i (by omega)).2 hge)]; exact hnn) hB
      · have hlt : od3 num i < ns := (nI_ltI (by omega) (by omega)).mp (Int32.not_le.mp c1)
        obtain ⟨p1, p2, p3⟩ := (m1 i (by omega)).1 hlt
        rw [← hnn] at p1 p2 p3
        obtain ⟨f1, f2⟩ := gcc_fb hF m4 hn3 n (by omega)
        have fB := gF_B hF (bfo (mo ns num) n) hlt
        have fm : fb (185 + 22 * n + 20) (FP.fmul (gcc g nc nj (mo ns num) n).1 (gB g (bfo (mo ns num) n) nc nj (od3 num i)).1) := fb_w (fb_mul f1 fB (by omega) (by decide)) (by omega)
        have fa : vf_n32 (FP.fadd (gcc g nc nj (mo ns num) n).2 (FP.fmul (gcc g nc nj (mo ns num) n).1 (gB g (bfo (mo ns num) n) nc nj (od3 num i)).1)) := fb_n (fb_add (fb_w f2 (by omega)) fm (by omega)) (by omega)
        obtain ⟨b1, b2, b3⟩ := bm_or B hB.1 (od3 num i) o2
        have hGk2 : mG (md_nw (mph g nc nj (mo ns num) hi n) (gB g (bfo (mo ns num) n) nc nj (od3 num i))) g ns nc nj jt en := hGk
        refine dk_aload_n C dX8_cost_36 rfl rfl ?_
        refine dk_iload C dX8_cost_37 rfl ?_
        refine dk_iload C dX8_cost_39 rfl ?_
        refine ek_callV C mX8_151 (c_X8_fewest _ _ _ _ _ hGk (od3 num i) B _ hlt hB) rfl (by decide) rfl rfl (Nat.le_of_ble_eq_true rfl) (by decide) (by decide) (Nat.zero_le _) (Nat.zero_le _) dX8_cost_41 ?_
        refine dk_fstore C dX8_cost_44 (by decide) rfl ?_
        refine dk_fload_n C dX8_cost_46 rfl rfl ?_
        refine dk_fload_n C dX8_cost_47 rfl rfl ?_
        refine dk_fload C dX8_cost_48 rfl ?_
        refine dk_fmul C dX8_cost_50 (fb_n fm (by omega)) ?_
        refine dk_fadd C dX8_cost_51 (fa) ?_
        refine dk_fstore_n C dX8_cost_52 rfl (by decide) rfl ?_
        refine dk_aload_n C dX8_cost_53 rfl rfl ?_
        refine dk_fload_n C dX8_cost_54 rfl rfl ?_
        refine dk_iload C dX8_cost_55 rfl ?_
        refine dk_iload C dX8_cost_57 rfl ?_
        refine ek_callV C mX8_155 (c_X8_lessened _ _ _ _ _ hGk2 (od3 num i) B _ hlt hB f1 (by omega)) rfl (by decide) rfl rfl (Nat.le_of_ble_eq_true rfl) (by decide) (by decide) (Nat.zero_le _) (Nat.zero_le _) dX8_cost_59 ?_
        refine dk_fstore_n C dX8_cost_62 rfl (by decide) rfl ?_
        refine dk_iload C dX8_cost_63 rfl ?_
        refine dk_iconst C (1) dX8_cost_65 rfl ?_
        refine dk_iload C dX8_cost_66 rfl ?_
        refine dk_ishl C dX8_cost_68 ?_
        refine dk_ior C dX8_cost_69 ?_
        rw [b1]
        have hbm : bm (B ||| 2 ^ od3 num i) (bfo (mo ns num) (n + 1)) := by
          refine ⟨b2, fun p hp => ?_⟩
          rw [b3 p hp, hB.2 p hp, bfo, bfo, List.range_succ, List.any_append]
          simp [p1, eq_comm]
        generalize hk : gB g (bfo (mo ns num) n) nc nj (od3 num i) = bb at *
        refine dk_istore C dX8_cost_70 (by decide) rfl ?_
        refine dk_aload_n C dX8_cost_72 rfl rfl ?_
        refine ek_getR C fX8_38 rfl (by decide) rfl 55 rfl dX8_cost_73 ?_
        refine dk_iload C dX8_cost_76 rfl ?_
        refine dk_iload C dX8_cost_78 rfl ?_
        refine ek_iast C rfl (by decide) (n) (rfl) (by omega) (by decide) dX8_cost_80 ?_
        refine dk_aload_n C dX8_cost_81 rfl rfl ?_
        refine ek_getR C fX8_41 rfl (by decide) rfl 56 rfl dX8_cost_82 ?_
        refine dk_iload C dX8_cost_85 rfl ?_
        refine dk_aload_n C dX8_cost_87 rfl rfl ?_
        refine ek_getI C fX8_127 rfl (by decide) rfl dX8_cost_88 ?_
        refine ek_iast C rfl (by decide) (n) (rfl) (by omega) (by decide) dX8_cost_91 ?_
        refine dk_aload_n C dX8_cost_92 rfl rfl ?_
        refine ek_getR C fX8_44 rfl (by decide) rfl 57 rfl dX8_cost_93 ?_
        refine dk_iload C dX8_cost_96 rfl ?_
        refine dk_aload_n C dX8_cost_98 rfl rfl ?_
        refine ek_getI C fX8_130 rfl (by decide) rfl dX8_cost_99 ?_
        refine ek_iast C rfl (by decide) (n) (rfl) (by omega) (by decide) dX8_cost_102 ?_
        refine dk_aload_n C dX8_cost_103 rfl rfl ?_
        refine ek_getR C fX8_47 rfl (by decide) rfl 58 rfl dX8_cost_104 ?_
        refine dk_iload C dX8_cost_107 rfl ?_
        refine dk_aload_n C dX8_cost_109 rfl rfl ?_
        refine ek_getI C fX8_133 rfl (by decide) rfl dX8_cost_110 ?_
        refine ek_iast C rfl (by decide) (n) (rfl) (by omega) (by decide) dX8_cost_113 ?_
        refine dk_iinc C (nI (n + 1)) dX8_cost_114 rfl (nI_1 n) (by decide) rfl ?_
        refine dk_iinc C (nI (i + 1)) dX8_cost_117 rfl (nI_1 i) (by decide) rfl ?_
        refine dk_goto C 13 dX8_cost_120 (by decide) ?_
        refine dk_forgetAt 7 (dk_forgetAt 8 ?_)
        have hh := ih (i + 1) (n + 1) (B ||| 2 ^ od3 num i) (by omega) p2.symm hbm
        have e1 : (gcc g nc nj (mo ns num) (n + 1)).1 = gN g (bfo (mo ns num) n) nc nj (od3 num i) (gcc g nc nj (mo ns num) n).1 := by rw [← p1]; rfl
        have e2 : (gcc g nc nj (mo ns num) (n + 1)).2 = FP.fadd (gcc g nc nj (mo ns num) n).2 (FP.fmul (gcc g nc nj (mo ns num) n).1 bb.1) := by rw [← hk, ← p1]; rfl
        have e3 : mph g nc nj (mo ns num) hi (n + 1) = dk_up (dk_up (dk_up (dk_up (md_nw (mph g nc nj (mo ns num) hi n) bb) 55 n (nI (od3 num i))) 56 n bb.2.1) 57 n bb.2.2.1) 58 n bb.2.2.2 := by rw [← hk, ← p1]; rfl
        rw [e1, e2, e3] at hh
        exact hh
  refine dk_fconst1 C dX8_cost_0 ?_
  refine dk_fstore_n C dX8_cost_1 rfl (by decide) rfl ?_
  refine dk_fconst0 C dX8_cost_2 ?_
  refine dk_fstore_n C dX8_cost_3 rfl (by decide) rfl ?_
  refine dk_iconst C (0) dX8_cost_4 rfl ?_
  refine dk_istore C dX8_cost_5 (by decide) rfl ?_
  refine dk_iconst C (0) dX8_cost_7 rfl ?_
  refine dk_istore C dX8_cost_8 (by decide) rfl ?_
  refine dk_iconst C (0) dX8_cost_10 rfl ?_
  refine dk_istore C dX8_cost_11 (by decide) rfl ?_
  exact loop 3 0 0 0 (by omega) m3.symm ⟨by decide, fun p hp => by rw [bfo]; simp⟩
/-- orders tried one behind the other -/
def mch (g : gG) (ns nc nj : Nat) (hi : Nat → Nat → Int32) : Nat → (Nat → Nat → Int32) × Nat × UInt32
  | 0 => (mph g nc nj (mo ns 0) hi ns, 0, (gcc g nc nj (mo ns 0) ns).2)
  | i + 1 =>
    (mph g nc nj (mo ns (i + 1)) (mch g ns nc nj hi i).1 ns, if 0 ≤ Op.cmpValue (FP.fcmp (gcc g nc nj (mo ns (i + 1)) ns).2 (mch g ns nc nj hi i).2.2) .g then (mch g ns nc nj hi i).2.1 else i + 1, if 0 ≤ Op.cmpValue (FP.fcmp (gcc g nc nj (mo ns (i + 1)) ns).2 (mch g ns nc nj hi i).2.2) .g then (mch g ns nc nj hi i).2.2 else (gcc g nc nj (mo ns (i + 1)) ns).2)
theorem mch_fr (g : gG) (ns nc nj : Nat) (hi : Nat → Nat → Int32) : ∀ k, mfr hi (mch g ns nc nj hi k).1 ∧ (mch g ns nc nj hi k).2.1 ≤ k
  | 0 => ⟨mph_fr g nc nj _ hi ns, Nat.le_refl _⟩
  | k + 1 => by
    obtain ⟨h1, h2⟩ := mch_fr g ns nc nj hi k
    refine ⟨fun i j q1 q2 => ?_, ?_⟩
    · exact (mph_fr g nc nj (mo ns (k + 1)) (mch g ns nc nj hi k).1 ns i j q1 q2).trans (h1 i j q1 q2)
    · show (if _ then _ else _) ≤ _
      split
      · exact Nat.le_succ_of_le h2
      · exact Nat.le_refl _
def mfin (g : gG) (ns nc nj : Nat) (hi : Nat → Nat → Int32) : Nat → Nat → Int32 := mph g nc nj (mo ns (mch g ns nc nj hi 5).2.1) (mch g ns nc nj hi 5).1 ns
def mpl_ok (hi : Nat → Nat → Int32) : Bool := decide (¬ hi 45 7 = 0) && (decide (¬ hi 45 13 = 0) && decide (hi 45 6 = 0))
def mpl_hi (h : Nat → Nat → Int32) : Nat → Nat → Int32 := dk_up (dk_up (dk_up h 45 6 1) 45 26 0) 59 0 (-1)
set_option maxHeartbeats 4000000 in
set_option maxRecDepth 100000 in
theorem c_X8_plan (G : dk_G) (sr : Nat → Option Nat) (hi : Nat → Nat → Int32) (hf : Nat → Nat → UInt32) (z : (Nat → Nat → Int64) × (Nat → Nat → UInt64)) {g : gG} {ns nc nj : Nat} {jt : Nat → Nat} {en : Nat → Nat → Nat} (hG : mG hi g ns nc nj jt en) :
    dk_MF G yX8_plan cX8_plan 5 (some .float) 4 113 [.ref 45] (hi, hf, dk_RF sr, z) (some (.float (if mpl_ok hi = true then (gcc g nc nj (mo ns (mch g ns nc nj (dk_up hi 45 0 0) 5).2.1) ns).2 else FP.fconst0))) (if mpl_ok hi = true then mpl_hi (mfin g ns nc nj (dk_up hi 45 0 0)) else dk_up hi 45 0 1, hf, dk_RF sr, z) := by
  refine dk_met (L := [some (.ref 45), none, none, none, none]) pnX8 rfl (Nat.le_of_ble_eq_true rfl) ?_
  intro X C E hNm
  have no : mpl_ok hi = false → dk_W X 22 [some (.ref 45), none, none, none, none] [.ref 45] 63 (hi, hf, dk_RF sr, z) 0 0 := by
    intro e
    refine dk_iconst C (1) dX8_plan_22 rfl ?_
    refine dk_goto C 27 dX8_plan_23 (by decide) ?_
    refine ek_putI C fX8_59 fwX8_0 rfl (by decide) rfl dX8_plan_27 ?_
    refine dk_aload_n C dX8_plan_30 rfl rfl ?_
    refine ek_getI C fX8_59 rfl (by decide) rfl dX8_plan_31 ?_
    rw [show dk_up hi 45 0 1 45 0 = 1 from dk_up_same _ _ _ _]
    refine dk_if_le C 39 dX8_plan_34 (by decide) (fun hz => absurd hz (by decide)) (fun _ => ?_)
    refine dk_fconst0 C dX8_plan_37 ?_
    exact dk_fret C E dX8_plan_38 (Nat.zero_le _) (Nat.zero_le _) (⟨pF (by rw [e]; rfl), by rw [e]; rfl⟩)
  refine dk_aload_n C dX8_plan_0 rfl rfl ?_
  refine dk_aload_n C dX8_plan_1 rfl rfl ?_
  refine ek_getI C fX8_96 rfl (by decide) rfl dX8_plan_2 ?_
  refine dk_if_eq C 22 dX8_plan_5 (by decide) (fun c1 => ?_) (fun c1 => ?_)
  · exact no (by rw [mpl_ok, decide_eq_false (p := ¬ hi 45 7 = 0) (fun q => q c1)]; rfl)
  · refine dk_aload_n C dX8_plan_8 rfl rfl ?_
    refine ek_getI C fX8_105 rfl (by decide) rfl dX8_plan_9 ?_
    refine dk_if_eq C 22 dX8_plan_12 (by decide) (fun c2 => ?_) (fun c2 => ?_)
    · exact no (by rw [mpl_ok, decide_eq_false (p := ¬ hi 45 13 = 0) (fun q => q c2), Bool.false_and, Bool.and_false])
    · refine dk_aload_n C dX8_plan_15 rfl rfl ?_
      refine ek_getI C fX8_71 rfl (by decide) rfl dX8_plan_16 ?_
      refine dk_if_eq C 26 dX8_plan_19 (by decide) (fun c3 => ?_) (fun c3 => ?_)
      · have eo : mpl_ok hi = true := by rw [mpl_ok, decide_eq_true c1, decide_eq_true c2, decide_eq_true c3]; rfl
        rw [eo] at E
        generalize hh : dk_up hi 45 0 0 = h at *
        have hGh : mG h g ns nc nj jt en := by rw [← hh]; exact hG
        have hGm : ∀ k, mG (mch g ns nc nj h k).1 g ns nc nj jt en := fun k => hGh.fr (mch_fr g ns nc nj h k).1
        have loop : ∀ r k, k + r = 5 → dk_W X 49 [some (.ref 45), some (.int (nI (mch g ns nc nj h k).2.1)), some (.float (mch g ns nc nj h k).2.2), some (.int (nI (k + 1))), none] [] 63 ((mch g ns nc nj h k).1, hf, dk_RF sr, z) 0 0 := by
          intro r
          induction r with
          | zero =>
            intro k hk
            obtain rfl : k = 5 := by omega
            have hle := (mch_fr g ns nc nj h 5).2
            refine dk_iload_n C dX8_plan_49 rfl rfl ?_
            refine dk_bipush C (6) dX8_plan_50 rfl ?_
            refine dk_icmp_ge C 80 dX8_plan_52 (by decide) (fun _ => ?_) (fun hz => absurd (by decide) hz)
            refine dk_aload_n C dX8_plan_80 rfl rfl ?_
            refine dk_iload_n C dX8_plan_81 rfl rfl ?_
            refine ek_callV C mX8_159 (c_X8_cost _ _ _ _ _ (hGm 5) _ (by omega)) rfl (by decide) rfl rfl (Nat.le_of_ble_eq_true rfl) (by decide) (by decide) (Nat.zero_le _) (Nat.zero_le _) dX8_plan_82 ?_
            refine dk_fstore_n C dX8_plan_85 rfl (by decide) rfl ?_
            refine dk_aload_n C dX8_plan_86 rfl rfl ?_
            refine dk_iconst C (1) dX8_plan_87 rfl ?_
            refine ek_putI C fX8_71 fwX8_6 rfl (by decide) rfl dX8_plan_88 ?_
            refine dk_aload_n C dX8_plan_91 rfl rfl ?_
            refine dk_iconst C (0) dX8_plan_92 rfl ?_
            refine ek_putI C fX8_163 fwX8_26 rfl (by decide) rfl dX8_plan_93 ?_
            refine dk_aload_n C dX8_plan_96 rfl rfl ?_
            refine ek_getR C fX8_50 rfl (by decide) rfl 59 rfl dX8_plan_97 ?_
            refine dk_iconst C (0) dX8_plan_100 rfl ?_
            refine dk_iconst C (-1) dX8_plan_101 rfl ?_
            refine ek_iast C rfl (by decide) (0) (rfl) (by decide) (by decide) dX8_plan_102 ?_
            refine dk_fload_n C dX8_plan_103 rfl rfl ?_
            exact dk_fret C E dX8_plan_104 (Nat.zero_le _) (Nat.zero_le _) (⟨rfl, rfl⟩)
          | succ r ih =>
            intro k hk
            refine dk_iload_n C dX8_plan_49 rfl rfl ?_
            refine dk_bipush C (6) dX8_plan_50 rfl ?_
            refine dk_icmp_ge C 80 dX8_plan_52 (by decide) (fun hz => absurd hz (nI_ge (b := 6) (by omega) (by omega))) (fun _ => ?_)
            refine dk_aload_n C dX8_plan_55 rfl rfl ?_
            refine dk_iload_n C dX8_plan_56 rfl rfl ?_
            refine ek_callV C mX8_159 (c_X8_cost _ _ _ _ _ (hGm k) (k + 1) (by omega)) rfl (by decide) rfl rfl (Nat.le_of_ble_eq_true rfl) (by decide) (by decide) (Nat.zero_le _) (Nat.zero_le _) dX8_plan_57 ?_
            refine dk_fstore C dX8_plan_60 (by decide) rfl ?_
            refine dk_fload C dX8_plan_62 rfl ?_
            refine dk_fload_n C dX8_plan_64 rfl rfl ?_
            refine dk_fcmp C dX8_plan_65 ?_
            have hq := ih (k + 1) (by omega)
            refine dk_if_ge C 74 dX8_plan_66 (by decide) (fun c4 => ?_) (fun c4 => ?_)
            · refine dk_iinc C (nI (k + 1 + 1)) dX8_plan_74 rfl (nI_1 (k + 1)) (by decide) rfl ?_
              refine dk_goto C 49 dX8_plan_77 (by decide) ?_
              refine dk_forgetAt 4 ?_
              rw [show (mch g ns nc nj h (k + 1)).2.1 = (mch g ns nc nj h k).2.1 from if_pos c4, show (mch g ns nc nj h (k + 1)).2.2 = (mch g ns nc nj h k).2.2 from if_pos c4] at hq
              exact hq
            · refine dk_fload C dX8_plan_69 rfl ?_
              refine dk_fstore_n C dX8_plan_71 rfl (by decide) rfl ?_
              refine dk_iload_n C dX8_plan_72 rfl rfl ?_
              refine dk_istore_n C dX8_plan_73 rfl (by decide) rfl ?_
              refine dk_iinc C (nI (k + 1 + 1)) dX8_plan_74 rfl (nI_1 (k + 1)) (by decide) rfl ?_
              refine dk_goto C 49 dX8_plan_77 (by decide) ?_
              refine dk_forgetAt 4 ?_
              rw [show (mch g ns nc nj h (k + 1)).2.1 = k + 1 from if_neg c4, show (mch g ns nc nj h (k + 1)).2.2 = (gcc g nc nj (mo ns (k + 1)) ns).2 from if_neg c4] at hq
              exact hq
        refine dk_iconst C (0) dX8_plan_26 rfl ?_
        refine ek_putI C fX8_59 fwX8_0 rfl (by decide) rfl dX8_plan_27 ?_
        refine dk_aload_n C dX8_plan_30 rfl rfl ?_
        refine ek_getI C fX8_59 rfl (by decide) rfl dX8_plan_31 ?_
        rw [show dk_up hi 45 0 0 45 0 = 0 from dk_up_same _ _ _ _, hh]
        refine dk_if_le C 39 dX8_plan_34 (by decide) (fun _ => ?_) (fun hz => absurd (by decide) hz)
        refine dk_iconst C (0) dX8_plan_39 rfl ?_
        refine dk_istore_n C dX8_plan_40 rfl (by decide) rfl ?_
        refine dk_aload_n C dX8_plan_41 rfl rfl ?_
        refine dk_iconst C (0) dX8_plan_42 rfl ?_
        refine ek_callV C mX8_159 (c_X8_cost _ _ _ _ _ hGh 0 (by decide)) rfl (by decide) rfl rfl (Nat.le_of_ble_eq_true rfl) (by decide) (by decide) (Nat.zero_le _) (Nat.zero_le _) dX8_plan_43 ?_
        refine dk_fstore_n C dX8_plan_46 rfl (by decide) rfl ?_
        refine dk_iconst C (1) dX8_plan_47 rfl ?_
        refine dk_istore_n C dX8_plan_48 rfl (by decide) rfl ?_
        exact loop 5 0 (by omega)
      · exact no (by rw [mpl_ok, decide_eq_false c3, Bool.and_false, Bool.and_false])
