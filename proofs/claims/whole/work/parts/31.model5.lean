/-! ===== the planning, whoever does it: sources, shares and marks of conditions and joins ===== -/
/-- of a condition: source, share, operator, marks; of a join: source, share, marks of its two sides; rows of a source -/
abbrev gG : Type := (Nat → Nat) × (Nat → UInt32) × (Nat → Int32) × (Nat → Nat → Int32) × (Nat → Nat → Nat) × (Nat → Nat → UInt32) × (Nat → Nat → Nat → Int32) × (Nat → Nat)
abbrev gsrc (g : gG) : Nat → Nat := g.1
abbrev gsh (g : gG) : Nat → UInt32 := g.2.1
abbrev gop (g : gG) : Nat → Int32 := g.2.2.1
abbrev gx (g : gG) : Nat → Nat → Int32 := g.2.2.2.1
abbrev gje (g : gG) : Nat → Nat → Nat := g.2.2.2.2.1
abbrev gjs (g : gG) : Nat → Nat → UInt32 := g.2.2.2.2.2.1
abbrev gjx (g : gG) : Nat → Nat → Nat → Int32 := g.2.2.2.2.2.2.1
abbrev gnR (g : gG) : Nat → Nat := g.2.2.2.2.2.2.2
/-- the side of a join that lies at s; whether it ties s with one before -/
def gE (g : gG) (s j : Nat) : Nat := if gje g j 0 = s then 0 else 1
def gT (g : gG) (bef : Nat → Bool) (s j : Nat) : Bool := decide (gje g j 0 = s ∨ gje g j 1 = s) && bef (gje g j (1 - gE g s j))
def gC (g : gG) (s : Nat) : Nat → pl_B → pl_B
  | 0, b => b
  | i + 1, b => if gsrc g i = s then pl_cond (gC g s i b) (FP.fmul (FP.i2f (nI (gnR g s))) (gsh g i)) (gop g i) (gx g 0 i) (gx g 1 i) (nI i) (-1) else gC g s i b
def gJ (g : gG) (bef : Nat → Bool) (s : Nat) : Nat → pl_B → pl_B
  | 0, b => b
  | j + 1, b => if gT g bef s j = true then pl_cond (gJ g bef s j b) (FP.fmul (FP.i2f (nI (gnR g s))) (gjs g j (gE g s j))) 0 (gjx g j (gE g s j) 0) (gjx g j (gE g s j) 1) (-1) (nI j) else gJ g bef s j b
def gB (g : gG) (bef : Nat → Bool) (nc nj s : Nat) : pl_B := gJ g bef s nj (gC g s nc (FP.i2f (nI (gnR g s)), 0, -1, -1))
def gNC (g : gG) (s : Nat) : Nat → UInt32 → UInt32
  | 0, c => c
  | i + 1, c => if gsrc g i = s then FP.fmul (gNC g s i c) (gsh g i) else gNC g s i c
def gNJ (g : gG) (bef : Nat → Bool) (s : Nat) : Nat → UInt32 → UInt32
  | 0, c => c
  | j + 1, c => if gT g bef s j = true then FP.fmul (gNJ g bef s j c) (gjs g j (gE g s j)) else gNJ g bef s j c
def gN (g : gG) (bef : Nat → Bool) (nc nj s : Nat) (c : UInt32) : UInt32 := gNJ g bef s nj (gNC g s nc (FP.fmul c (FP.i2f (nI (gnR g s)))))
/-- all that is small -/
def gF (g : gG) (ns nc nj : Nat) : Prop := nc ≤ 4 ∧ nj ≤ 3 ∧ (∀ s, s < ns → gnR g s ≤ 24) ∧ (∀ i, i < nc → fb 131 (gsh g i)) ∧ ∀ j e, j < nj → e < 2 → fb 131 (gjs g j e)
theorem gE_2 (g : gG) (s j : Nat) : gE g s j < 2 := by unfold gE; split <;> decide
theorem gF_C {g : gG} {ns nc nj : Nat} (h : gF g ns nc nj) {s : Nat} (hs : s < ns) {b : pl_B} (hb : fb 140 b.1) : ∀ i, i ≤ nc → fb 140 (gC g s i b).1
  | 0, _ => hb
  | i + 1, hi' => by
    have h2 := gF_C h hs hb i (by omega)
    unfold gC
    split
    · exact fb_cond (h.2.2.1 s hs) (h.2.2.2.1 i (by omega)) h2
    · exact h2
theorem gF_J {g : gG} {ns nc nj : Nat} (h : gF g ns nc nj) (bef : Nat → Bool) {s : Nat} (hs : s < ns) {b : pl_B} (hb : fb 140 b.1) : ∀ j, j ≤ nj → fb 140 (gJ g bef s j b).1
  | 0, _ => hb
  | j + 1, hj => by
    have h2 := gF_J h bef hs hb j (by omega)
    unfold gJ
    split
    · exact fb_cond (h.2.2.1 s hs) (h.2.2.2.2 j _ (by omega) (gE_2 g s j)) h2
    · exact h2
theorem gF_B {g : gG} {ns nc nj : Nat} (h : gF g ns nc nj) (bef : Nat → Bool) {s : Nat} (hs : s < ns) : fb 140 (gB g bef nc nj s).1 :=
  gF_J h bef hs (gF_C h hs (fb_w (fb_i (h.2.2.1 s hs)) (by decide)) nc (Nat.le_refl _)) nj (Nat.le_refl _)
theorem gF_NC {g : gG} {ns nc nj : Nat} (h : gF g ns nc nj) (s : Nat) {K : Nat} {c : UInt32} (hc : fb K c) (hK : K ≤ 235) : ∀ i, i ≤ nc → fb (K + 5 * i) (gNC g s i c)
  | 0, _ => hc
  | i + 1, hi' => by
    have h2 := gF_NC h s hc hK i (by omega)
    have := h.1
    unfold gNC
    split
    · exact fb_w (fb_mul h2 (h.2.2.2.1 i (by omega)) (by omega) (by decide)) (by omega)
    · exact fb_w h2 (by omega)
theorem gF_NJ {g : gG} {ns nc nj : Nat} (h : gF g ns nc nj) (bef : Nat → Bool) (s : Nat) {K : Nat} {c : UInt32} (hc : fb K c) (hK : K ≤ 240) : ∀ j, j ≤ nj → fb (K + 5 * j) (gNJ g bef s j c)
  | 0, _ => hc
  | j + 1, hj => by
    have h2 := gF_NJ h bef s hc hK j (by omega)
    have := h.2.1
    unfold gNJ
    split
    · exact fb_w (fb_mul h2 (h.2.2.2.2 j _ (by omega) (gE_2 g s j)) (by omega) (by decide)) (by omega)
    · exact fb_w h2 (by omega)
theorem gF_N {g : gG} {ns nc nj : Nat} (h : gF g ns nc nj) (bef : Nat → Bool) {s : Nat} (hs : s < ns) {K : Nat} {c : UInt32} (hc : fb K c) (hK : 20 ≤ K ∧ K ≤ 212) : fb (K + 42) (gN g bef nc nj s c) := by
  have h1 := h.1
  have h2 := h.2.1
  exact fb_w (gF_NJ h bef s (gF_NC h s (K := K + 7) (fb_w (fb_mul hc (fb_i (h.2.2.1 s hs)) (by omega) (by decide)) (by omega)) (by omega) nc (Nat.le_refl _)) (by omega) nj (Nat.le_refl _)) (by omega)
/-- the model's question, as the planning has it -/
def mG (hi : Nat → Nat → Int32) (g : gG) (ns nc nj : Nat) (jt : Nat → Nat) (en : Nat → Nat → Nat) : Prop :=
  mS hi ns jt ∧ (∀ s, s < ns → mE hi (jt s) (gnR g s) (en s)) ∧
  (hi 45 9 = nI nc ∧ nc ≤ 4 ∧ ∀ i, i < nc → ∃ c o, (gsrc g i < ns ∧ c < 4 ∧ o < 4) ∧ (hi 52 (4 * i) = nI (gsrc g i) ∧ hi 52 (4 * i + 1) = nI c ∧ hi 52 (4 * i + 2) = nI o) ∧ gop g i = nI o ∧ gsh g i = shO o (hi 52 (4 * i + 3)) (mv hi (jt (gsrc g i)) c (en (gsrc g i))) (gnR g (gsrc g i)) ∧ gx g 0 i = hi 50 (8 * jt (gsrc g i) + c) ∧ gx g 1 i = hi 50 (8 * jt (gsrc g i) + 4 + c)) ∧
  (hi 45 11 = nI nj ∧ nj ≤ 3 ∧ ∀ j, j < nj → ¬ gje g j 0 = gje g j 1 ∧ ∀ e, e < 2 → ∃ c, (gje g j e < ns ∧ c < 4) ∧ (hi 53 (4 * j + 2 * e) = nI (gje g j e) ∧ hi 53 (4 * j + 2 * e + 1) = nI c) ∧ gjs g j e = shO 0 0 (mv hi (jt (gje g j e)) c (en (gje g j e))) (gnR g (gje g j e)) ∧ gjx g j e 0 = hi 50 (8 * jt (gje g j e) + c) ∧ gjx g j e 1 = hi 50 (8 * jt (gje g j e) + 4 + c))
theorem mG.F {hi : Nat → Nat → Int32} {g : gG} {ns nc nj : Nat} {jt : Nat → Nat} {en : Nat → Nat → Nat} (h : mG hi g ns nc nj jt en) : gF g ns nc nj := by
  obtain ⟨h1, h2, ⟨h3, h4, h5⟩, h6, h7, h8⟩ := h
  have hr : ∀ s, s < ns → gnR g s ≤ 24 := fun s hs => (h2 s hs).2.2.2
  refine ⟨h4, h7, hr, fun i hi' => ?_, fun j e hj he => ?_⟩
  · obtain ⟨c, o, q1, q2, q3, q4, q5⟩ := h5 i hi'
    rw [q4]; exact fb_shO _ _ _ (hr _ q1.1)
  · obtain ⟨c, q1, q2, q3, q4⟩ := (h8 j hj).2 e he
    rw [q3]; exact fb_shO _ _ _ (hr _ q1.1)
/-- a mask of sources -/
def bm (B : Nat) (bef : Nat → Bool) : Prop := B < 8 ∧ ∀ p, p < 3 → B.testBit p = bef p
theorem bm_bit : ∀ B, B < 8 → ∀ p, p < 3 → (((nI B >>> (nI p &&& 31)) &&& 1 = 1) ↔ B.testBit p = true) := by decide +kernel
theorem bm_or : ∀ B, B < 8 → ∀ p, p < 3 → nI B ||| ((1 : Int32) <<< (nI p &&& 31)) = nI (B ||| 2 ^ p) ∧ (B ||| 2 ^ p) < 8 ∧ ∀ q, q < 3 → (B ||| 2 ^ p).testBit q = (B.testBit q || decide (q = p)) := by decide +kernel
/-- the side of a join as the model has it: 0, 2 or -1 -/
def gSd (g : gG) (bef : Nat → Bool) (s j : Nat) : Int32 := if gT g bef s j = true then nI (2 * gE g s j) else -1
set_option maxHeartbeats 4000000 in
set_option maxRecDepth 100000 in
theorem c_X8_sideOf (G : dk_G) (sr : Nat → Option Nat) (hi : Nat → Nat → Int32) (hf : Nat → Nat → UInt32) (z : (Nat → Nat → Int64) × (Nat → Nat → UInt64)) {g : gG} {ns nc nj : Nat} {jt : Nat → Nat} {en : Nat → Nat → Nat} (hG : mG hi g ns nc nj jt en) (j s B : Nat) (bef : Nat → Bool) (hj : j < nj) (hs : s < 3) (hB : bm B bef) :
    dk_MF G yX8_sideOf cX8_sideOf 5 (some .int) 0 0 [.ref 45, .int (nI j), .int (nI s), .int (nI B)] (hi, hf, dk_RF sr, z) (some (.int (gSd g bef s j))) (hi, hf, dk_RF sr, z) := by
  refine dk_met (L := [some (.ref 45), some (.int (nI j)), some (.int (nI s)), some (.int (nI B)), none]) pnX8 rfl (Nat.le_of_ble_eq_true rfl) ?_
  intro X C E hNm
  obtain ⟨⟨-, hn3, -⟩, h2, -, h6, h7, h8⟩ := hG
  obtain ⟨hne, h9⟩ := h8 j hj
  obtain ⟨c0, ⟨a1, a2⟩, ⟨a3, a4⟩, -⟩ := h9 0 (by decide)
  obtain ⟨c1, ⟨b1, b2⟩, ⟨b3, b4⟩, -⟩ := h9 1 (by decide)
  have t : ∀ e, e < 2 → (gje g j e = s ∧ (e = 0 ∨ ¬ gje g j 0 = s)) → hi 53 (4 * j + 2 - 2 * e) = nI (gje g j (1 - e)) → dk_W X 35 [some (.ref 45), some (.int (nI j)), some (.int (nI s)), some (.int (nI B)), none] [.int (nI (2 * e))] 63 (hi, hf, dk_RF sr, z) 0 0 := by
    intro e he hse hp
    have eE : gE g s j = e := by
      unfold gE
      rcases (show e = 0 ∨ e = 1 by omega) with rfl | rfl
      · rw [if_pos hse.1]
      · rw [if_neg (hse.2.resolve_left (by decide))]
    have eI : decide (gje g j 0 = s ∨ gje g j 1 = s) = true := by
      rcases (show e = 0 ∨ e = 1 by omega) with rfl | rfl
      · exact decide_eq_true (Or.inl hse.1)
      · exact decide_eq_true (Or.inr hse.1)
    have hlt : gje g j (1 - e) < 3 := by
      rcases (show e = 0 ∨ e = 1 by omega) with rfl | rfl
      · exact Nat.lt_of_lt_of_le b1 hn3
      · exact Nat.lt_of_lt_of_le a1 hn3
    have hix : (4 : Int32) * nI j + 2 - nI (2 * e) = nI (4 * j + 2 - 2 * e) := by
      rcases (show e = 0 ∨ e = 1 by omega) with rfl | rfl
      · exact (Int32.sub_zero _).trans (m4_k j 2)
      · exact (Int32.add_sub_cancel _ _).trans (m4_0 j)
    refine dk_istore C dX8_sideOf_35 (by decide) rfl ?_
    refine dk_iload C dX8_sideOf_37 rfl ?_
    refine dk_if_lt C 68 dX8_sideOf_39 (by decide) (fun hz => absurd hz (nI_pos (by omega))) (fun _ => ?_)
    refine dk_iload_n C dX8_sideOf_42 rfl rfl ?_
    refine dk_aload_n C dX8_sideOf_43 rfl rfl ?_
    refine ek_getR C fX8_32 rfl (by decide) rfl 53 rfl dX8_sideOf_44 ?_
    refine dk_iconst C (4) dX8_sideOf_47 rfl ?_
    refine dk_iload_n C dX8_sideOf_48 rfl rfl ?_
    refine dk_imul C dX8_sideOf_49 ?_
    refine dk_iconst C (2) dX8_sideOf_50 rfl ?_
    refine dk_iadd C dX8_sideOf_51 ?_
    refine dk_iload C dX8_sideOf_52 rfl ?_
    refine dk_isub C dX8_sideOf_54 ?_
    refine ek_iald C rfl (by decide) (4 * j + 2 - 2 * e) (hix) (by omega) (by decide) dX8_sideOf_55 ?_
    rw [hp]
    refine dk_ishr C dX8_sideOf_56 ?_
    refine dk_iconst C (1) dX8_sideOf_57 rfl ?_
    refine dk_iand C dX8_sideOf_58 ?_
    refine dk_iconst C (1) dX8_sideOf_59 rfl ?_
    have hbit := bm_bit B hB.1 (gje g j (1 - e)) hlt
    rw [hB.2 _ hlt] at hbit
    refine dk_icmp_ne C 68 dX8_sideOf_60 (by decide) (fun c3 => ?_) (fun c3 => ?_)
    · refine dk_iconst C (-1) dX8_sideOf_68 rfl ?_
      exact dk_iret C E dX8_sideOf_69 (Nat.zero_le _) (Nat.zero_le _) (⟨pI (by rw [gSd, gT, eI, eE, Bool.true_and, if_neg (fun q => c3 (hbit.mpr q))]), rfl⟩)
    · refine dk_iload C dX8_sideOf_63 rfl ?_
      refine dk_goto C 69 dX8_sideOf_65 (by decide) ?_
      exact dk_iret C E dX8_sideOf_69 (Nat.zero_le _) (Nat.zero_le _) (⟨pI (by rw [gSd, gT, eI, eE, if_pos (show (true && bef (gje g j (1 - e))) = true from hbit.mp c3)]), rfl⟩)
  refine dk_aload_n C dX8_sideOf_0 rfl rfl ?_
  refine ek_getR C fX8_32 rfl (by decide) rfl 53 rfl dX8_sideOf_1 ?_
  refine dk_iconst C (4) dX8_sideOf_4 rfl ?_
  refine dk_iload_n C dX8_sideOf_5 rfl rfl ?_
  refine dk_imul C dX8_sideOf_6 ?_
  refine ek_iald C rfl (by decide) (4 * j) (m4_0 j) (by omega) (by decide) dX8_sideOf_7 ?_
  refine dk_iload_n C dX8_sideOf_8 rfl rfl ?_
  rw [show hi 53 (4 * j) = nI (gje g j 0) from a3]
  refine dk_icmp_ne C 16 dX8_sideOf_9 (by decide) (fun c3 => ?_) (fun c3 => ?_)
  · refine dk_aload_n C dX8_sideOf_16 rfl rfl ?_
    refine ek_getR C fX8_32 rfl (by decide) rfl 53 rfl dX8_sideOf_17 ?_
    refine dk_iconst C (4) dX8_sideOf_20 rfl ?_
    refine dk_iload_n C dX8_sideOf_21 rfl rfl ?_
    refine dk_imul C dX8_sideOf_22 ?_
    refine dk_iconst C (2) dX8_sideOf_23 rfl ?_
    refine dk_iadd C dX8_sideOf_24 ?_
    refine ek_iald C rfl (by decide) (4 * j + 2) (m4_k j 2) (by omega) (by decide) dX8_sideOf_25 ?_
    refine dk_iload_n C dX8_sideOf_26 rfl rfl ?_
    rw [show hi 53 (4 * j + 2) = nI (gje g j 1) from b3]
    have n0 : ¬ gje g j 0 = s := fun q => c3 (by rw [q])
    refine dk_icmp_ne C 34 dX8_sideOf_27 (by decide) (fun c4 => ?_) (fun c4 => ?_)
    · have n1 : ¬ gje g j 1 = s := fun q => c4 (by rw [q])
      refine dk_iconst C (-1) dX8_sideOf_34 rfl ?_
      refine dk_istore C dX8_sideOf_35 (by decide) rfl ?_
      refine dk_iload C dX8_sideOf_37 rfl ?_
      refine dk_if_lt C 68 dX8_sideOf_39 (by decide) (fun _ => ?_) (fun hz => absurd (by decide) hz)
      refine dk_iconst C (-1) dX8_sideOf_68 rfl ?_
      exact dk_iret C E dX8_sideOf_69 (Nat.zero_le _) (Nat.zero_le _) (⟨pI (by rw [gSd, gT, decide_eq_false (fun q => q.elim n0 n1)]; rfl), rfl⟩)
    · refine dk_iconst C (2) dX8_sideOf_30 rfl ?_
      refine dk_goto C 35 dX8_sideOf_31 (by decide) ?_
      exact t 1 (by decide) ⟨(nI_eq (by omega) (by omega)).mp c4, Or.inr n0⟩ a3
  · refine dk_iconst C (0) dX8_sideOf_12 rfl ?_
    refine dk_goto C 35 dX8_sideOf_13 (by decide) ?_
    exact t 0 (by decide) ⟨(nI_eq (by omega) (by omega)).mp c3, Or.inl rfl⟩ b3
/-- the way found so far, as the model holds it -/
def md_nw (hi : Nat → Nat → Int32) (b : pl_B) : Nat → Nat → Int32 := dk_up (dk_up (dk_up hi 45 22 b.2.1) 45 23 b.2.2.1) 45 24 b.2.2.2
theorem md_nw_nw (hi : Nat → Nat → Int32) (b : pl_B) (w c j : Int32) : dk_up (dk_up (dk_up (md_nw hi b) 45 22 w) 45 23 c) 45 24 j = dk_up (dk_up (dk_up hi 45 22 w) 45 23 c) 45 24 j := by
  unfold md_nw
  rw [dk_up_comm (dk_up (dk_up hi 45 22 b.2.1) 45 23 b.2.2.1) _ w (Or.inr (by decide)), dk_up_comm (dk_up hi 45 22 b.2.1) _ w (Or.inr (by decide)), dk_up_up]
  rw [dk_up_comm (dk_up (dk_up hi 45 22 w) 45 23 b.2.2.1) _ c (Or.inr (by decide)), dk_up_up, dk_up_up]
set_option maxHeartbeats 4000000 in
set_option maxRecDepth 100000 in
theorem c_X8_bettered (G : dk_G) (sr : Nat → Option Nat) (hi : Nat → Nat → Int32) (hf : Nat → Nat → UInt32) (z : (Nat → Nat → Int64) × (Nat → Nat → UInt64)) (b : pl_B) (r : UInt32) (w c j : Int32) :
    dk_MF G yX8_bettered cX8_bettered 6 (some .float) 0 0 [.ref 45, .float b.1, .float r, .int w, .int c, .int j] (md_nw hi b, hf, dk_RF sr, z) (some (.float (pl_cand b r w c j).1)) (md_nw hi (pl_cand b r w c j), hf, dk_RF sr, z) := by
  refine dk_met (L := [some (.ref 45), some (.float b.1), some (.float r), some (.int w), some (.int c), some (.int j)]) pnX8 rfl (Nat.le_of_ble_eq_true rfl) ?_
  intro X C E hNm
  refine dk_fload_n C dX8_bettered_0 rfl rfl ?_
  refine dk_fload_n C dX8_bettered_1 rfl rfl ?_
  refine dk_fcmp C dX8_bettered_2 ?_
  refine dk_if_ge C 25 dX8_bettered_3 (by decide) (fun c1 => ?_) (fun c1 => ?_)
  · refine dk_fload_n C dX8_bettered_25 rfl rfl ?_
    exact dk_fret C E dX8_bettered_26 (Nat.zero_le _) (Nat.zero_le _) (⟨pF (by rw [pl_cand, if_pos c1]), by rw [pl_cand, if_pos c1]⟩)
  · refine dk_aload_n C dX8_bettered_6 rfl rfl ?_
    refine dk_iload_n C dX8_bettered_7 rfl rfl ?_
    refine ek_putI C fX8_127 fwX8_22 rfl (by decide) rfl dX8_bettered_8 ?_
    refine dk_aload_n C dX8_bettered_11 rfl rfl ?_
    refine dk_iload C dX8_bettered_12 rfl ?_
    refine ek_putI C fX8_130 fwX8_23 rfl (by decide) rfl dX8_bettered_14 ?_
    refine dk_aload_n C dX8_bettered_17 rfl rfl ?_
    refine dk_iload C dX8_bettered_18 rfl ?_
    refine ek_putI C fX8_133 fwX8_24 rfl (by decide) rfl dX8_bettered_20 ?_
    refine dk_fload_n C dX8_bettered_23 rfl rfl ?_
    exact dk_fret C E dX8_bettered_24 (Nat.zero_le _) (Nat.zero_le _) (⟨pF (by rw [pl_cand, if_neg c1]), by rw [md_nw_nw, pl_cand, if_neg c1]; rfl⟩)
