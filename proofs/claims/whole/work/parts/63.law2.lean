/-! ===== the law's cases (by gen_law.py) ===== -/
theorem ite_fr {p : Prop} [Decidable p] {H hi : Nat → Nat → Int32} {i k : Nat} (e : p → H i k = hi i k) : (if p then H else hi) i k = hi i k := by
  by_cases q : p
  · rw [if_pos q]; exact e q
  · rw [if_neg q]
theorem le_or (x : Int32) : 0 ≤ x ∨ x < 0 := by
  by_cases q : x < 0
  · exact Or.inr q
  · exact Or.inl (Int32.not_lt.mp q)
theorem ix_fr {hi : Nat → Nat → Int32} {nR md : Nat → Nat} {en : Nat → Nat → Nat} (T : rTT hi nR md en) {x c k on : Int32} {i l : Nat} (y : 45 ≤ i) : (if ix_ok hi x c k on = true then ix_hi hi x c k on else hi) i l = hi i l :=
  ite_fr (fun q => by
    obtain ⟨j, hj, ej, _⟩ := ix_1 T q
    simp (disch := omega) only [ix_hi, dk_end_up, tcl, ej, dk_up_ne])
theorem in_tup {p : Prop} [Decidable p] {A B : Nat → Nat → Int32} {f : Nat → Nat → UInt32} {r : Nat → Nat → Option Nat} {z w : (Nat → Nat → Int64) × (Nat → Nat → UInt64)} : (if p then (A, f, r, w) else (B, f, r, z) : dk_H) = (if p then A else B, f, r, if p then w else z) := by
  by_cases q : p
  · rw [if_pos q, if_pos q, if_pos q]
  · rw [if_neg q, if_neg q, if_neg q]
theorem de_tup {p : Prop} [Decidable p] {A B : Nat → Nat → Int32} {f : Nat → Nat → UInt32} {r : Nat → Nat → Option Nat} {z : (Nat → Nat → Int64) × (Nat → Nat → UInt64)} : (if p then (A, f, r, z) else (B, f, r, z) : dk_H) = (if p then A else B, f, r, z) := by
  by_cases q : p
  · rw [if_pos q, if_pos q]
  · rw [if_neg q, if_neg q]
theorem ins_fr {hi : Nat → Nat → Int32} {nR md : Nat → Nat} {en : Nat → Nat → Nat} (T : rTT hi nR md en) {x a b c d : Int32} (q : in_c hi x = 0) {i l : Nat} (y : 45 ≤ i) : tb_add (dk_end hi) (tcl x) (cl (hi (tcl x) 4)) a b c d i l = hi i l := by
  obtain ⟨j, hj, ej, _⟩ := in_0 T q
  simp (disch := omega) only [tb_add, dk_end_up, tcl, ej, dk_up_ne]
theorem ins_45 (hi : Nat → Nat → Int32) (nR md : Nat → Nat) (x a b c d : Int32) : md_ins hi nR md x a b c d 45 0 = md_ic hi nR md x := by
  unfold md_ins
  by_cases q : md_ic hi nR md x = 0
  · rw [if_pos q, q]
    simp (disch := omega) only [md_chg, md_put, dk_up_ne, dk_up_same]
  · rw [if_neg q, dk_up_same]
theorem ins_R {hi : Nat → Nat → Int32} {hf : Nat → Nat → UInt32} {sr : Nat → Option Nat} (h : rR hi hf sr) {nR md : Nat → Nat} {en : Nat → Nat → Nat} (T : rTT hi nR md en) {x a b c d : Int32} (e2 : md_ic (if in_c hi x = 0 then tb_add (dk_end hi) (tcl x) (cl (hi (tcl x) 4)) a b c d else hi) nR md x = in_c hi x) : rR (md_ins (if in_c hi x = 0 then tb_add (dk_end hi) (tcl x) (cl (hi (tcl x) 4)) a b c d else hi) nR md x a b c d) hf sr := by
  unfold md_ins
  rw [e2]
  by_cases q : in_c hi x = 0
  · rw [if_pos q, if_pos q]; exact op_insert h T a b c d q
  · rw [if_neg q, if_neg q]; exact h.f0 _
theorem ins_v {hi : Nat → Nat → Int32} {nR md : Nat → Nat} {en : Nat → Nat → Nat} (T : rTT hi nR md en) {z : (Nat → Nat → Int64) × (Nat → Nat → UInt64)} {H : Nat → Nat → Int32} {x : Int32} (e2 : md_ic H nR md x = in_c hi x) (q0 : in_c hi x = 0) : lg_cmp ((if in_c hi x = 0 then (dk_up z.1 61 0 (hi (tcl x) 5).toInt64, z.2) else z).1 61 (0 : Int32).toNatClampNeg) (if md_ic H nR md x = 0 then nI (md (cl x)) else 0).toInt64 = 0 := by
  obtain ⟨j, _, ej, _, _, _, e5⟩ := in_0 T q0
  rw [e2, if_pos q0, if_pos q0, e5, ej]
  show lg_cmp (dk_up z.1 61 0 (nI (md j)).toInt64 61 0) _ = 0
  rw [dk_up_same]; exact lg_self _
theorem del_fr {hi : Nat → Nat → Int32} {nR md : Nat → Nat} {en : Nat → Nat → Nat} (T : rTT hi nR md en) {x r : Int32} (q : dk_hr hi x r = true) {i l : Nat} (y : 45 ≤ i) : tb_rem (dk_end hi) (tcl x) (cl (hi (tcl x) 4)) (cl (dk_pl hi x r)) i l = hi i l := by
  rcases hr_cases T (hi' := hi) (fun _ => rfl) (fun _ => rfl) x r with ⟨h1, _⟩ | ⟨_, _, j, p, hj, ej, _⟩
  · rw [h1] at q; cases q
  · simp (disch := omega) only [tb_rem, dk_end_up, tcl, ej, dk_up_ne, dk_cp_out]
theorem del_45 {hi H : Nat → Nat → Int32} {x r : Int32} {Z : Prop} (e2 : (dk_hr hi x r = false ∧ md_hr H x r = false) ∨ (dk_hr hi x r = true ∧ md_hr H x r = true ∧ Z)) : md_del H x r 45 0 = if dk_hr hi x r = true then 0 else 1 := by
  unfold md_del
  rcases e2 with ⟨h1, h2⟩ | ⟨h1, h2, _⟩
  · rw [h1, h2, if_neg (by decide), if_neg (by decide), dk_up_same]
  · rw [if_pos h1, if_pos h2]
    simp (disch := omega) only [md_chg, dk_up_ne, dk_up_same]
theorem del_R {hi : Nat → Nat → Int32} {hf : Nat → Nat → UInt32} {sr : Nat → Option Nat} (h : rR hi hf sr) {nR md : Nat → Nat} {en : Nat → Nat → Nat} (T : rTT hi nR md en) {x r : Int32} (e2 : (dk_hr hi x r = false ∧ md_hr (if dk_hr hi x r = true then tb_rem (dk_end hi) (tcl x) (cl (hi (tcl x) 4)) (cl (dk_pl hi x r)) else hi) x r = false) ∨ (dk_hr hi x r = true ∧ md_hr (if dk_hr hi x r = true then tb_rem (dk_end hi) (tcl x) (cl (hi (tcl x) 4)) (cl (dk_pl hi x r)) else hi) x r = true ∧ ∃ j p, j < 3 ∧ cl x = j ∧ p < nR j ∧ dk_pl hi x r = nI p ∧ cl (dk_pl hi x r) = p ∧ cl (hi (tcl x) 4) = nR j ∧ cl r = en j p)) : rR (md_del (if dk_hr hi x r = true then tb_rem (dk_end hi) (tcl x) (cl (hi (tcl x) 4)) (cl (dk_pl hi x r)) else hi) x r) hf sr := by
  unfold md_del
  rcases e2 with ⟨h1, h2⟩ | ⟨h1, h2, j, p, g1, g2, g3, _, g5, g6, g7⟩
  · rw [if_neg (by rw [h2]; decide), if_neg (by rw [h1]; decide)]; exact h.f0 1
  · rw [if_pos h2, if_pos h1]; exact op_delete h T g1 g2 g3 g5 g6 g7
theorem upd_fr {hi : Nat → Nat → Int32} {nR md : Nat → Nat} {en : Nat → Nat → Nat} (T : rTT hi nR md en) {x r c v : Int32} (q : cb_ok hi x r c = true) {i l : Nat} (y : 45 ≤ i) : dk_up (dk_end hi) (tcl x + 2) (cl (dk_pl hi x r) * 4 + cl c) v i l = hi i l := by
  rcases cb_cases T (hi' := hi) (fun _ => rfl) (fun _ => rfl) x r c with ⟨h1, _⟩ | ⟨_, _, j, p, hj, ej, _⟩
  · rw [h1] at q; cases q
  · simp (disch := omega) only [dk_end_up, tcl, ej, dk_up_ne]
theorem upd_45 {hi H : Nat → Nat → Int32} {x r c v : Int32} {Z : Prop} (e2 : (cb_ok hi x r c = false ∧ md_cb H x r c = false) ∨ (cb_ok hi x r c = true ∧ md_cb H x r c = true ∧ Z)) : md_upd H x r c v 45 0 = if cb_ok hi x r c = true then 0 else 1 := by
  unfold md_upd
  rcases e2 with ⟨h1, h2⟩ | ⟨h1, h2, _⟩
  · rw [h1, h2, if_neg (by decide), if_neg (by decide), dk_up_same]
  · rw [if_pos h1, if_pos h2]
    simp (disch := omega) only [md_chg, dk_up_ne, dk_up_same]
theorem upd_R {hi : Nat → Nat → Int32} {hf : Nat → Nat → UInt32} {sr : Nat → Option Nat} (h : rR hi hf sr) {nR md : Nat → Nat} {en : Nat → Nat → Nat} (T : rTT hi nR md en) {x r c v : Int32} (e2 : (cb_ok hi x r c = false ∧ md_cb (if cb_ok hi x r c = true then dk_up (dk_end hi) (tcl x + 2) (cl (dk_pl hi x r) * 4 + cl c) v else hi) x r c = false) ∨ (cb_ok hi x r c = true ∧ md_cb (if cb_ok hi x r c = true then dk_up (dk_end hi) (tcl x + 2) (cl (dk_pl hi x r) * 4 + cl c) v else hi) x r c = true ∧ ∃ j p, j < 3 ∧ cl x = j ∧ p < nR j ∧ cl (dk_pl hi x r) = p ∧ cl r = en j p ∧ cl c < 4 ∧ hi (tcl x + 2) (cl (dk_pl hi x r) * 4 + cl c) = hi 49 (240 * cl x + 4 * cl r + cl c))) : rR (md_upd (if cb_ok hi x r c = true then dk_up (dk_end hi) (tcl x + 2) (cl (dk_pl hi x r) * 4 + cl c) v else hi) x r c v) hf sr := by
  unfold md_upd
  rcases e2 with ⟨h1, h2⟩ | ⟨h1, h2, j, p, g1, g2, g3, g4, g5, g6, _⟩
  · rw [if_neg (by rw [h2]; decide), if_neg (by rw [h1]; decide)]; exact h.f0 1
  · rw [if_pos h2, if_pos h1]; exact op_update h T v g1 g2 g3 g4 g5 g6
theorem cel_45 {hi H : Nat → Nat → Int32} {x r c : Int32} {Z : Prop} (e2 : (cb_ok hi x r c = false ∧ md_cb H x r c = false) ∨ (cb_ok hi x r c = true ∧ md_cb H x r c = true ∧ Z)) : dk_up H 45 0 (if md_cb H x r c = true then 0 else 1) 45 0 = if cb_ok hi x r c = true then 0 else 1 := by
  rw [dk_up_same]
  rcases e2 with ⟨h1, h2⟩ | ⟨h1, h2, _⟩
  · rw [h1, h2]
  · rw [h1, h2]
theorem cel_v {hi : Nat → Nat → Int32} {nR : Nat → Nat} {en : Nat → Nat → Nat} {z : (Nat → Nat → Int64) × (Nat → Nat → UInt64)} {x r c : Int32} (e2 : (cb_ok hi x r c = false ∧ md_cb hi x r c = false) ∨ (cb_ok hi x r c = true ∧ md_cb hi x r c = true ∧ ∃ j p, j < 3 ∧ cl x = j ∧ p < nR j ∧ cl (dk_pl hi x r) = p ∧ cl r = en j p ∧ cl c < 4 ∧ hi (tcl x + 2) (cl (dk_pl hi x r) * 4 + cl c) = hi 49 (240 * cl x + 4 * cl r + cl c))) (q0 : (if cb_ok hi x r c = true then (0 : Int32) else 1) = 0) : lg_cmp ((if cb_ok hi x r c = true then (dk_up z.1 61 0 (hi (tcl x + 2) (cl (dk_pl hi x r) * 4 + cl c)).toInt64, z.2) else z).1 61 (0 : Int32).toNatClampNeg) (if md_cb hi x r c = true then hi 49 (240 * cl x + 4 * cl r + cl c) else 0).toInt64 = 0 := by
  rcases e2 with ⟨h1, h2⟩ | ⟨h1, h2, j, p, _, _, _, _, _, _, g⟩
  · rw [h1, if_neg (by decide)] at q0; exact absurd q0 (by decide)
  · rw [if_pos h1, if_pos h2, ← g]
    show lg_cmp (dk_up z.1 61 0 _ 61 0) _ = 0
    rw [dk_up_same]; exact lg_self _
theorem exp_45 {hi : Nat → Nat → Int32} {k w : Int32} (e : mex_ok hi k w = ex_ok hi k w) : dk_up hi 45 0 (if mex_ok hi k w = true then 0 else 1) 45 0 = if ex_ok hi k w = true then 0 else 1 := by
  rw [dk_up_same, e]
theorem exp_v {hi : Nat → Nat → Int32} {z : (Nat → Nat → Int64) × (Nat → Nat → UInt64)} {k w : Int32} (e2 : mex_ok hi k w = ex_ok hi k w ∧ (ex_ok hi k w = true → mex_v hi k w = ex_v hi k w)) (q0 : (if ex_ok hi k w = true then (0 : Int32) else 1) = 0) : lg_cmp ((if ex_ok hi k w = true then (dk_up z.1 61 0 (ex_v hi k w).toInt64, z.2) else z).1 61 (0 : Int32).toNatClampNeg) (if mex_ok hi k w = true then mex_v hi k w else 0).toInt64 = 0 := by
  by_cases q : ex_ok hi k w = true
  · rw [e2.1, if_pos q, if_pos q, e2.2 q]
    show lg_cmp (dk_up z.1 61 0 _ 61 0) _ = 0
    rw [dk_up_same]; exact lg_self _
  · rw [if_neg q] at q0; exact absurd q0 (by decide)
theorem ans_v {hi : Nat → Nat → Int32} {R : Nat → Nat} {z : (Nat → Nat → Int64) × (Nat → Nat → UInt64)} {i k : Int32} (e2 : man_c hi i k = an_c hi i k ∧ (an_c hi i k = 0 → hi 60 (4 * cl i + cl k) = hi 43 (R (cl i) * 4 + cl k))) (q0 : an_c hi i k = 0) : lg_cmp ((if an_c hi i k = 0 then (dk_up z.1 61 0 (hi 43 (R (cl i) * 4 + cl k)).toInt64, z.2) else z).1 61 (0 : Int32).toNatClampNeg) (if man_c hi i k = 0 then hi 60 (4 * cl i + cl k) else 0).toInt64 = 0 := by
  rw [e2.1, if_pos q0, if_pos q0, e2.2 q0]
  show lg_cmp (dk_up z.1 61 0 _ 61 0) _ = 0
  rw [dk_up_same]; exact lg_self _
theorem mpl_0 (g : gG) (ns nc nj : Nat) (h : Nat → Nat → Int32) : mpl_hi (mfin g ns nc nj (dk_up h 45 0 0)) 45 0 = 0 := by
  have f1 := mph_fr g nc nj (mo ns (mch g ns nc nj (dk_up h 45 0 0) 5).2.1) (mch g ns nc nj (dk_up h 45 0 0) 5).1 ns
  have f2 := (mch_fr g ns nc nj (dk_up h 45 0 0) 5).1
  simp (disch := omega) only [mpl_hi, dk_up_ne]
  unfold mfin
  rw [f1 45 0 (by omega) (by omega), f2 45 0 (by omega) (by omega), dk_up_same]
theorem dc_self {x : UInt64} (h : vf_n64 x) : Op.cmpValue (FP.dcmp x x) .l = 0 := by
  have hx : FP.Core.val64 x ≠ .nan := by
    intro e
    have h2 : FP.Core.dIsNaN x = true := decide_eq_true e
    rw [FP.Core.isNaN_bits] at h2
    unfold vf_n64 at h
    rw [UInt64.le_iff_toNat_le, UInt64.toNat_and, show (0x7fffffffffffffff : UInt64).toNat = 2 ^ 63 - 1 from rfl, Nat.and_two_pow_sub_one_eq_mod, show (0x7ff0000000000000 : UInt64).toNat = 9218868437227405312 from rfl] at h
    omega
  have e : FP.dcmp x x = some .eq := FP.Core.dcmp_self hx
  rw [e]; rfl
set_option maxHeartbeats 8000000 in
set_option maxRecDepth 100000 in
theorem lw_create {X : dk_X} {G : dk_G} {N : Nat} {xs : Nat → Int32} (C : dk_C X cL_law RL 8 (some .boolean) room_1 G) (XK : hx_K X) (S3 : lw_S X N xs) {j : Nat} (hj : j + 5 < N) (hN : N ≤ 384) {hi : Nat → Nat → Int32} {hf : Nat → Nat → UInt32} {sr : Nat → Option Nat} {z : (Nat → Nat → Int64) × (Nat → Nat → UInt64)} (h : rR hi hf sr) {a6 a7 : Option Value} {kc ks : Nat} (hkc : kc + 1 ≤ 600128) (hks : ks + 6 ≤ 7301098) (K : lw_K X j kc ks) : dk_W X 136 (lw_L j a6 a7) [] 63 (hi, hf, dk_RF sr, z) kc ks := by
  have hc0 : kc ≤ room_1.cells := by show kc ≤ 600128; omega
  have hs0 : ks ≤ room_1.slots := by show ks ≤ 7301098; omega
  have h1c : kc + 1 ≤ room_1.cells := hkc
  have h1s : ks + 6 ≤ room_1.slots := hks
  refine dk_aload_n C dL_law_136 rfl rfl ?_
  refine dk_rload_n C dL_law_137 rfl rfl ?_
  refine dk_iload C dL_law_138 rfl ?_
  refine dk_iconst C (1) dL_law_140 rfl ?_
  refine dk_iadd C dL_law_141 ?_
  refine dk_sald C S3 (j + 1) (nI_add j 1) (by omega) (by omega) dL_law_142 ?_
  refine dk_rload_n C dL_law_143 rfl rfl ?_
  refine dk_iload C dL_law_144 rfl ?_
  refine dk_iconst C (2) dL_law_146 rfl ?_
  refine dk_iadd C dL_law_147 ?_
  refine dk_sald C S3 (j + 2) (nI_add j 2) (by omega) (by omega) dL_law_148 ?_
  refine ek_callV C mL_46 (c_X7_create _ _ _ _ _ (xs (j + 1)) (xs (j + 2))) rfl (by decide) rfl rfl (Nat.le_of_ble_eq_true rfl) (Nat.le_of_ble_eq_true rfl) (Nat.le_of_ble_eq_true rfl) hc0 hs0 dL_law_149 ?_
  refine dk_aload_n C dL_law_152 rfl rfl ?_
  refine dk_rload_n C dL_law_153 rfl rfl ?_
  refine dk_iload C dL_law_154 rfl ?_
  refine dk_iconst C (1) dL_law_156 rfl ?_
  refine dk_iadd C dL_law_157 ?_
  refine dk_sald C S3 (j + 1) (nI_add j 1) (by omega) (by omega) dL_law_158 ?_
  refine dk_rload_n C dL_law_159 rfl rfl ?_
  refine dk_iload C dL_law_160 rfl ?_
  refine dk_iconst C (2) dL_law_162 rfl ?_
  refine dk_iadd C dL_law_163 ?_
  refine dk_sald C S3 (j + 2) (nI_add j 2) (by omega) (by omega) dL_law_164 ?_
  refine ek_callV C mL_50 (c_X8_create _ _ _ _ _ (xs (j + 1)) (xs (j + 2))) rfl (by decide) rfl rfl (Nat.le_of_ble_eq_true rfl) (Nat.le_of_ble_eq_true rfl) (Nat.le_of_ble_eq_true rfl) hc0 hs0 dL_law_165 ?_
  refine dk_icmp_eq C 1100 dL_law_168 (by decide) (fun _ => ?_) (fun hz => absurd (rfl) hz)
  exact K _ _ _ _ _ _ _ _ (by
    by_cases q : cr_ok (xs (j + 1)) (xs (j + 2)) = true
    · rw [if_pos q, if_pos q]; exact op_create h q
    · rw [if_neg q, if_neg q]; exact h.f0 0) (Nat.le_succ _) (Nat.le_add_right _ _)
set_option maxHeartbeats 8000000 in
set_option maxRecDepth 100000 in
theorem lw_ask {X : dk_X} {G : dk_G} {N : Nat} {xs : Nat → Int32} (C : dk_C X cL_law RL 8 (some .boolean) room_1 G) (XK : hx_K X) (S3 : lw_S X N xs) {j : Nat} (hj : j + 5 < N) (hN : N ≤ 384) {hi : Nat → Nat → Int32} {hf : Nat → Nat → UInt32} {sr : Nat → Option Nat} {z : (Nat → Nat → Int64) × (Nat → Nat → UInt64)} (h : rR hi hf sr) {a6 a7 : Option Value} {kc ks : Nat} (hkc : kc + 1 ≤ 600128) (hks : ks + 6 ≤ 7301098) (K : lw_K X j kc ks) : dk_W X 575 (lw_L j a6 a7) [] 63 (hi, hf, dk_RF sr, z) kc ks := by
  have hc0 : kc ≤ room_1.cells := by show kc ≤ 600128; omega
  have hs0 : ks ≤ room_1.slots := by show ks ≤ 7301098; omega
  have h1c : kc + 1 ≤ room_1.cells := hkc
  have h1s : ks + 6 ≤ room_1.slots := hks
  refine dk_aload_n C dL_law_575 rfl rfl ?_
  refine ek_callVv C mL_82 (c_X7_ask _ _ _ _ _) rfl (by decide) rfl rfl (Nat.le_of_ble_eq_true rfl) (Nat.le_of_ble_eq_true rfl) (Nat.le_of_ble_eq_true rfl) hc0 hs0 dL_law_576 ?_
  refine dk_aload_n C dL_law_579 rfl rfl ?_
  refine ek_callVv C mL_85 (c_X8_ask _ _ _ _ _) rfl (by decide) rfl rfl (Nat.le_of_ble_eq_true rfl) (Nat.le_of_ble_eq_true rfl) (Nat.le_of_ble_eq_true rfl) hc0 hs0 dL_law_580 ?_
  refine dk_goto C 1100 dL_law_583 (by decide) ?_
  exact K _ _ _ _ _ _ _ _ (op_ask h) (Nat.le_succ _) (Nat.le_add_right _ _)
set_option maxHeartbeats 8000000 in
set_option maxRecDepth 100000 in
theorem lw_index {X : dk_X} {G : dk_G} {N : Nat} {xs : Nat → Int32} (C : dk_C X cL_law RL 8 (some .boolean) room_1 G) (XK : hx_K X) (S3 : lw_S X N xs) {j : Nat} (hj : j + 5 < N) (hN : N ≤ 384) {hi : Nat → Nat → Int32} {hf : Nat → Nat → UInt32} {sr : Nat → Option Nat} {z : (Nat → Nat → Int64) × (Nat → Nat → UInt64)} (h : rR hi hf sr) {a6 a7 : Option Value} {kc ks : Nat} (hkc : kc + 1 ≤ 600128) (hks : ks + 6 ≤ 7301098) (K : lw_K X j kc ks) : dk_W X 477 (lw_L j a6 a7) [] 63 (hi, hf, dk_RF sr, z) kc ks := by
  have hc0 : kc ≤ room_1.cells := by show kc ≤ 600128; omega
  have hs0 : ks ≤ room_1.slots := by show ks ≤ 7301098; omega
  have h1c : kc + 1 ≤ room_1.cells := hkc
  have h1s : ks + 6 ≤ room_1.slots := hks
  obtain ⟨ns, nc, nj, no, jt, hTs, hQ, hS, hM, hF⟩ := id h
  obtain ⟨nR, md, en, T⟩ := rT_fun hTs
  have T : rTT hi nR md en := T
  have e46 : ∀ k, (if ix_ok hi (xs (j + 1)) (xs (j + 2)) (xs (j + 3)) 1 = true then ix_hi hi (xs (j + 1)) (xs (j + 2)) (xs (j + 3)) 1 else hi) 46 k = hi 46 k := fun k => ix_fr T (by decide)
  have e50 : ∀ k, (if ix_ok hi (xs (j + 1)) (xs (j + 2)) (xs (j + 3)) 1 = true then ix_hi hi (xs (j + 1)) (xs (j + 2)) (xs (j + 3)) 1 else hi) 50 k = hi 50 k := fun k => ix_fr T (by decide)
  refine dk_aload_n C dL_law_477 rfl rfl ?_
  refine dk_rload_n C dL_law_478 rfl rfl ?_
  refine dk_iload C dL_law_479 rfl ?_
  refine dk_iconst C (1) dL_law_481 rfl ?_
  refine dk_iadd C dL_law_482 ?_
  refine dk_sald C S3 (j + 1) (nI_add j 1) (by omega) (by omega) dL_law_483 ?_
  refine dk_rload_n C dL_law_484 rfl rfl ?_
  refine dk_iload C dL_law_485 rfl ?_
  refine dk_iconst C (2) dL_law_487 rfl ?_
  refine dk_iadd C dL_law_488 ?_
  refine dk_sald C S3 (j + 2) (nI_add j 2) (by omega) (by omega) dL_law_489 ?_
  refine dk_rload_n C dL_law_490 rfl rfl ?_
  refine dk_iload C dL_law_491 rfl ?_
  refine dk_iconst C (3) dL_law_493 rfl ?_
  refine dk_iadd C dL_law_494 ?_
  refine dk_sald C S3 (j + 3) (nI_add j 3) (by omega) (by omega) dL_law_495 ?_
  refine ek_callV C mL_73 (c_X7_index _ _ _ _ _ T.ix T.c4 (xs (j + 1)) (xs (j + 2)) (xs (j + 3))) rfl (by decide) rfl rfl (Nat.le_of_ble_eq_true rfl) (Nat.le_of_ble_eq_true rfl) (Nat.le_of_ble_eq_true rfl) hc0 hs0 dL_law_496 ?_
  refine dk_aload_n C dL_law_499 rfl rfl ?_
  refine dk_rload_n C dL_law_500 rfl rfl ?_
  refine dk_iload C dL_law_501 rfl ?_
  refine dk_iconst C (1) dL_law_503 rfl ?_
  refine dk_iadd C dL_law_504 ?_
  refine dk_sald C S3 (j + 1) (nI_add j 1) (by omega) (by omega) dL_law_505 ?_
  refine dk_rload_n C dL_law_506 rfl rfl ?_
  refine dk_iload C dL_law_507 rfl ?_
  refine dk_iconst C (2) dL_law_509 rfl ?_
  refine dk_iadd C dL_law_510 ?_
  refine dk_sald C S3 (j + 2) (nI_add j 2) (by omega) (by omega) dL_law_511 ?_
  refine dk_rload_n C dL_law_512 rfl rfl ?_
  refine dk_iload C dL_law_513 rfl ?_
  refine dk_iconst C (3) dL_law_515 rfl ?_
  refine dk_iadd C dL_law_516 ?_
  refine dk_sald C S3 (j + 3) (nI_add j 3) (by omega) (by omega) dL_law_517 ?_
  refine ek_callV C mL_77 (c_X8_index _ _ _ _ _ (fun j hj => by rw [e46]; exact T.m4 j hj) (xs (j + 1)) (xs (j + 2)) (xs (j + 3))) rfl (by decide) rfl rfl (Nat.le_of_ble_eq_true rfl) (Nat.le_of_ble_eq_true rfl) (Nat.le_of_ble_eq_true rfl) hc0 hs0 dL_law_518 ?_
  refine dk_icmp_eq C 1100 dL_law_521 (by decide) (fun _ => ?_) (fun hz => absurd (by rw [ix_eq T e46 e50]) hz)
  exact K _ _ _ _ _ _ _ _ (by
    unfold mx_hi
    rw [ix_eq T e46 e50]
    by_cases q : ix_ok hi (xs (j + 1)) (xs (j + 2)) (xs (j + 3)) 1 = true
    · rw [if_pos q, if_pos q]; exact op_index h T (by decide) q
    · rw [if_neg q, if_neg q]; exact h.f0 0) (Nat.le_succ _) (Nat.le_add_right _ _)
set_option maxHeartbeats 8000000 in
set_option maxRecDepth 100000 in
theorem lw_drop {X : dk_X} {G : dk_G} {N : Nat} {xs : Nat → Int32} (C : dk_C X cL_law RL 8 (some .boolean) room_1 G) (XK : hx_K X) (S3 : lw_S X N xs) {j : Nat} (hj : j + 5 < N) (hN : N ≤ 384) {hi : Nat → Nat → Int32} {hf : Nat → Nat → UInt32} {sr : Nat → Option Nat} {z : (Nat → Nat → Int64) × (Nat → Nat → UInt64)} (h : rR hi hf sr) {a6 a7 : Option Value} {kc ks : Nat} (hkc : kc + 1 ≤ 600128) (hks : ks + 6 ≤ 7301098) (K : lw_K X j kc ks) : dk_W X 526 (lw_L j a6 a7) [] 63 (hi, hf, dk_RF sr, z) kc ks := by
  have hc0 : kc ≤ room_1.cells := by show kc ≤ 600128; omega
  have hs0 : ks ≤ room_1.slots := by show ks ≤ 7301098; omega
  have h1c : kc + 1 ≤ room_1.cells := hkc
  have h1s : ks + 6 ≤ room_1.slots := hks
  obtain ⟨ns, nc, nj, no, jt, hTs, hQ, hS, hM, hF⟩ := id h
  obtain ⟨nR, md, en, T⟩ := rT_fun hTs
  have T : rTT hi nR md en := T
  have e46 : ∀ k, (if ix_ok hi (xs (j + 1)) (xs (j + 2)) (xs (j + 3)) 0 = true then ix_hi hi (xs (j + 1)) (xs (j + 2)) (xs (j + 3)) 0 else hi) 46 k = hi 46 k := fun k => ix_fr T (by decide)
  have e50 : ∀ k, (if ix_ok hi (xs (j + 1)) (xs (j + 2)) (xs (j + 3)) 0 = true then ix_hi hi (xs (j + 1)) (xs (j + 2)) (xs (j + 3)) 0 else hi) 50 k = hi 50 k := fun k => ix_fr T (by decide)
  refine dk_aload_n C dL_law_526 rfl rfl ?_
  refine dk_rload_n C dL_law_527 rfl rfl ?_
  refine dk_iload C dL_law_528 rfl ?_
  refine dk_iconst C (1) dL_law_530 rfl ?_
  refine dk_iadd C dL_law_531 ?_
  refine dk_sald C S3 (j + 1) (nI_add j 1) (by omega) (by omega) dL_law_532 ?_
  refine dk_rload_n C dL_law_533 rfl rfl ?_
  refine dk_iload C dL_law_534 rfl ?_
  refine dk_iconst C (2) dL_law_536 rfl ?_
  refine dk_iadd C dL_law_537 ?_
  refine dk_sald C S3 (j + 2) (nI_add j 2) (by omega) (by omega) dL_law_538 ?_
  refine dk_rload_n C dL_law_539 rfl rfl ?_
  refine dk_iload C dL_law_540 rfl ?_
  refine dk_iconst C (3) dL_law_542 rfl ?_
  refine dk_iadd C dL_law_543 ?_
  refine dk_sald C S3 (j + 3) (nI_add j 3) (by omega) (by omega) dL_law_544 ?_
  refine ek_callV C mL_78 (c_X7_drop _ _ _ _ _ T.ix T.c4 (xs (j + 1)) (xs (j + 2)) (xs (j + 3))) rfl (by decide) rfl rfl (Nat.le_of_ble_eq_true rfl) (Nat.le_of_ble_eq_true rfl) (Nat.le_of_ble_eq_true rfl) hc0 hs0 dL_law_545 ?_
  refine dk_aload_n C dL_law_548 rfl rfl ?_
  refine dk_rload_n C dL_law_549 rfl rfl ?_
  refine dk_iload C dL_law_550 rfl ?_
  refine dk_iconst C (1) dL_law_552 rfl ?_
  refine dk_iadd C dL_law_553 ?_
  refine dk_sald C S3 (j + 1) (nI_add j 1) (by omega) (by omega) dL_law_554 ?_
  refine dk_rload_n C dL_law_555 rfl rfl ?_
  refine dk_iload C dL_law_556 rfl ?_
  refine dk_iconst C (2) dL_law_558 rfl ?_
  refine dk_iadd C dL_law_559 ?_
  refine dk_sald C S3 (j + 2) (nI_add j 2) (by omega) (by omega) dL_law_560 ?_
  refine dk_rload_n C dL_law_561 rfl rfl ?_
  refine dk_iload C dL_law_562 rfl ?_
  refine dk_iconst C (3) dL_law_564 rfl ?_
  refine dk_iadd C dL_law_565 ?_
  refine dk_sald C S3 (j + 3) (nI_add j 3) (by omega) (by omega) dL_law_566 ?_
  refine ek_callV C mL_81 (c_X8_drop _ _ _ _ _ (fun j hj => by rw [e46]; exact T.m4 j hj) (xs (j + 1)) (xs (j + 2)) (xs (j + 3))) rfl (by decide) rfl rfl (Nat.le_of_ble_eq_true rfl) (Nat.le_of_ble_eq_true rfl) (Nat.le_of_ble_eq_true rfl) hc0 hs0 dL_law_567 ?_
  refine dk_icmp_eq C 1100 dL_law_570 (by decide) (fun _ => ?_) (fun hz => absurd (by rw [ix_eq T e46 e50]) hz)
  exact K _ _ _ _ _ _ _ _ (by
    unfold mx_hi
    rw [ix_eq T e46 e50]
    by_cases q : ix_ok hi (xs (j + 1)) (xs (j + 2)) (xs (j + 3)) 0 = true
    · rw [if_pos q, if_pos q]; exact op_index h T (by decide) q
    · rw [if_neg q, if_neg q]; exact h.f0 0) (Nat.le_succ _) (Nat.le_add_right _ _)
set_option maxHeartbeats 8000000 in
set_option maxRecDepth 100000 in
theorem lw_from {X : dk_X} {G : dk_G} {N : Nat} {xs : Nat → Int32} (C : dk_C X cL_law RL 8 (some .boolean) room_1 G) (XK : hx_K X) (S3 : lw_S X N xs) {j : Nat} (hj : j + 5 < N) (hN : N ≤ 384) {hi : Nat → Nat → Int32} {hf : Nat → Nat → UInt32} {sr : Nat → Option Nat} {z : (Nat → Nat → Int64) × (Nat → Nat → UInt64)} (h : rR hi hf sr) {a6 a7 : Option Value} {kc ks : Nat} (hkc : kc + 1 ≤ 600128) (hks : ks + 6 ≤ 7301098) (K : lw_K X j kc ks) : dk_W X 586 (lw_L j a6 a7) [] 63 (hi, hf, dk_RF sr, z) kc ks := by
  have hc0 : kc ≤ room_1.cells := by show kc ≤ 600128; omega
  have hs0 : ks ≤ room_1.slots := by show ks ≤ 7301098; omega
  have h1c : kc + 1 ≤ room_1.cells := hkc
  have h1s : ks + 6 ≤ room_1.slots := hks
  obtain ⟨ns, nc, nj, no, jt, hTs, hQ, hS, hM, hF⟩ := id h
  obtain ⟨nR, md, en, T⟩ := rT_fun hTs
  have T : rTT hi nR md en := T
  refine dk_aload_n C dL_law_586 rfl rfl ?_
  refine dk_rload_n C dL_law_587 rfl rfl ?_
  refine dk_iload C dL_law_588 rfl ?_
  refine dk_iconst C (1) dL_law_590 rfl ?_
  refine dk_iadd C dL_law_591 ?_
  refine dk_sald C S3 (j + 1) (nI_add j 1) (by omega) (by omega) dL_law_592 ?_
  refine ek_callV C mL_86 (c_X7_from _ _ _ _ _ ns hQ.1.1 hQ.1.2.2.1 (xs (j + 1))) rfl (by decide) rfl rfl (Nat.le_of_ble_eq_true rfl) (Nat.le_of_ble_eq_true rfl) (Nat.le_of_ble_eq_true rfl) hc0 hs0 dL_law_593 ?_
  refine dk_aload_n C dL_law_596 rfl rfl ?_
  refine dk_rload_n C dL_law_597 rfl rfl ?_
  refine dk_iload C dL_law_598 rfl ?_
  refine dk_iconst C (1) dL_law_600 rfl ?_
  refine dk_iadd C dL_law_601 ?_
  refine dk_sald C S3 (j + 1) (nI_add j 1) (by omega) (by omega) dL_law_602 ?_
  have e1 : ∀ i k, 45 ≤ i → (if fr_ok hi (xs (j + 1)) = true then dk_up hi 14 4 (nI (ns + 1)) else hi) i k = hi i k := fun i k y => ite_fr (fun _ => dk_up_ne _ _ (by omega))
  have e2 := fr_eq (hf := hf) T hQ hS.1 (fun k => e1 46 k (by omega)) (e1 45 6 (by omega)) (e1 45 7 (by omega)) (xs (j + 1))
  refine ek_callV C mL_90 (c_X8_from _ _ _ _ _ ns (by rw [e1 _ _ (by omega)]; exact hQ.1.2.1) hQ.1.2.2.1 (xs (j + 1))) rfl (by decide) rfl rfl (Nat.le_of_ble_eq_true rfl) (Nat.le_of_ble_eq_true rfl) (Nat.le_of_ble_eq_true rfl) hc0 hs0 dL_law_603 ?_
  refine dk_icmp_eq C 1100 dL_law_606 (by decide) (fun _ => ?_) (fun hz => absurd (by rw [e2]) hz)
  exact K _ _ _ _ _ _ _ _ (by
    rw [e2]
    by_cases q : fr_ok hi (xs (j + 1)) = true
    · rw [if_pos q, if_pos q, if_pos q]; exact op_from h T hQ hS.1 q
    · rw [if_neg q, if_neg q, if_neg q]; exact h.f0 0) (Nat.le_succ _) (Nat.le_add_right _ _)
set_option maxHeartbeats 8000000 in
set_option maxRecDepth 100000 in
theorem lw_where {X : dk_X} {G : dk_G} {N : Nat} {xs : Nat → Int32} (C : dk_C X cL_law RL 8 (some .boolean) room_1 G) (XK : hx_K X) (S3 : lw_S X N xs) {j : Nat} (hj : j + 5 < N) (hN : N ≤ 384) {hi : Nat → Nat → Int32} {hf : Nat → Nat → UInt32} {sr : Nat → Option Nat} {z : (Nat → Nat → Int64) × (Nat → Nat → UInt64)} (h : rR hi hf sr) {a6 a7 : Option Value} {kc ks : Nat} (hkc : kc + 1 ≤ 600128) (hks : ks + 6 ≤ 7301098) (K : lw_K X j kc ks) : dk_W X 611 (lw_L j a6 a7) [] 63 (hi, hf, dk_RF sr, z) kc ks := by
  have hc0 : kc ≤ room_1.cells := by show kc ≤ 600128; omega
  have hs0 : ks ≤ room_1.slots := by show ks ≤ 7301098; omega
  have h1c : kc + 1 ≤ room_1.cells := hkc
  have h1s : ks + 6 ≤ room_1.slots := hks
  obtain ⟨ns, nc, nj, no, jt, hTs, hQ, hS, hM, hF⟩ := id h
  obtain ⟨nR, md, en, T⟩ := rT_fun hTs
  have T : rTT hi nR md en := T
  have Sn : qu_S sr ns (fun s => 2 + 4 * jt s) := ⟨hQ.1.2.2.1, fun k hk => ⟨(hQ.1.2.2.2 k hk).1, dk_T1 (hQ.1.2.2.2 k hk).2.2.1⟩⟩
  have lim := hQ.2.1.2.2.1
  refine dk_aload_n C dL_law_611 rfl rfl ?_
  refine dk_rload_n C dL_law_612 rfl rfl ?_
  refine dk_iload C dL_law_613 rfl ?_
  refine dk_iconst C (1) dL_law_615 rfl ?_
  refine dk_iadd C dL_law_616 ?_
  refine dk_sald C S3 (j + 1) (nI_add j 1) (by omega) (by omega) dL_law_617 ?_
  refine dk_rload_n C dL_law_618 rfl rfl ?_
  refine dk_iload C dL_law_619 rfl ?_
  refine dk_iconst C (2) dL_law_621 rfl ?_
  refine dk_iadd C dL_law_622 ?_
  refine dk_sald C S3 (j + 2) (nI_add j 2) (by omega) (by omega) dL_law_623 ?_
  refine dk_rload_n C dL_law_624 rfl rfl ?_
  refine dk_iload C dL_law_625 rfl ?_
  refine dk_iconst C (3) dL_law_627 rfl ?_
  refine dk_iadd C dL_law_628 ?_
  refine dk_sald C S3 (j + 3) (nI_add j 3) (by omega) (by omega) dL_law_629 ?_
  refine dk_rload_n C dL_law_630 rfl rfl ?_
  refine dk_iload C dL_law_631 rfl ?_
  refine dk_iconst C (4) dL_law_633 rfl ?_
  refine dk_iadd C dL_law_634 ?_
  refine dk_sald C S3 (j + 4) (nI_add j 4) (by omega) (by omega) dL_law_635 ?_
  refine ek_callV C mL_91 (c_X7_where _ _ _ _ _ ns nc (fun s => 2 + 4 * jt s) Sn hQ.1.1 hQ.2.1.1 hQ.2.1.2.2.1 (xs (j + 1)) (xs (j + 2)) (xs (j + 3)) (xs (j + 4))) rfl (by decide) rfl rfl (Nat.le_of_ble_eq_true rfl) (Nat.le_of_ble_eq_true rfl) (Nat.le_of_ble_eq_true rfl) hc0 hs0 dL_law_636 ?_
  refine dk_aload_n C dL_law_639 rfl rfl ?_
  refine dk_rload_n C dL_law_640 rfl rfl ?_
  refine dk_iload C dL_law_641 rfl ?_
  refine dk_iconst C (1) dL_law_643 rfl ?_
  refine dk_iadd C dL_law_644 ?_
  refine dk_sald C S3 (j + 1) (nI_add j 1) (by omega) (by omega) dL_law_645 ?_
  refine dk_rload_n C dL_law_646 rfl rfl ?_
  refine dk_iload C dL_law_647 rfl ?_
  refine dk_iconst C (2) dL_law_649 rfl ?_
  refine dk_iadd C dL_law_650 ?_
  refine dk_sald C S3 (j + 2) (nI_add j 2) (by omega) (by omega) dL_law_651 ?_
  refine dk_rload_n C dL_law_652 rfl rfl ?_
  refine dk_iload C dL_law_653 rfl ?_
  refine dk_iconst C (3) dL_law_655 rfl ?_
  refine dk_iadd C dL_law_656 ?_
  refine dk_sald C S3 (j + 3) (nI_add j 3) (by omega) (by omega) dL_law_657 ?_
  refine dk_rload_n C dL_law_658 rfl rfl ?_
  refine dk_iload C dL_law_659 rfl ?_
  refine dk_iconst C (4) dL_law_661 rfl ?_
  refine dk_iadd C dL_law_662 ?_
  refine dk_sald C S3 (j + 4) (nI_add j 4) (by omega) (by omega) dL_law_663 ?_
  have e1 : ∀ i k, 45 ≤ i → (if wh_ok hi ns (fun s => 2 + 4 * jt s) (xs (j + 1)) (xs (j + 2)) (xs (j + 3)) = true then qu_addC hi nc (xs (j + 1)) (xs (j + 2)) (xs (j + 3)) (xs (j + 4)) else hi) i k = hi i k := fun i k y => ite_fr (fun _ => by simp (disch := omega) only [qu_addC, dk_up_ne])
  have e2 := wh_eq T hQ hS.1 (fun k => e1 46 k (by omega)) (e1 45 6 (by omega)) (e1 45 9 (by omega)) (xs (j + 1)) (xs (j + 2)) (xs (j + 3))
  refine ek_callV C mL_95 (c_X8_where _ _ _ _ _ ns nc jt ⟨(e1 45 7 (by omega)).trans hQ.1.2.1, hQ.1.2.2.1, fun k hk => ⟨(e1 51 k (by omega)).trans (hQ.1.2.2.2 k hk).2.1, (hQ.1.2.2.2 k hk).2.2.1, by rw [e1 46 _ (by omega)]; exact (hQ.1.2.2.2 k hk).2.2.2⟩⟩ ((e1 45 9 (by omega)).trans hQ.2.1.2.1) hQ.2.1.2.2.1 (xs (j + 1)) (xs (j + 2)) (xs (j + 3)) (xs (j + 4))) rfl (by decide) rfl rfl (Nat.le_of_ble_eq_true rfl) (Nat.le_of_ble_eq_true rfl) (Nat.le_of_ble_eq_true rfl) hc0 hs0 dL_law_664 ?_
  refine dk_icmp_eq C 1100 dL_law_667 (by decide) (fun _ => ?_) (fun hz => absurd (by rw [e2]) hz)
  exact K _ _ _ _ _ _ _ _ (by
    rw [e2]
    by_cases q : wh_ok hi ns (fun s => 2 + 4 * jt s) (xs (j + 1)) (xs (j + 2)) (xs (j + 3)) = true
    · rw [if_pos q, if_pos q]; exact op_where h T hQ hS.1 q
    · rw [if_neg q, if_neg q]; exact h.f0 0) (Nat.le_succ _) (Nat.le_add_right _ _)
set_option maxHeartbeats 8000000 in
set_option maxRecDepth 100000 in
theorem lw_join {X : dk_X} {G : dk_G} {N : Nat} {xs : Nat → Int32} (C : dk_C X cL_law RL 8 (some .boolean) room_1 G) (XK : hx_K X) (S3 : lw_S X N xs) {j : Nat} (hj : j + 5 < N) (hN : N ≤ 384) {hi : Nat → Nat → Int32} {hf : Nat → Nat → UInt32} {sr : Nat → Option Nat} {z : (Nat → Nat → Int64) × (Nat → Nat → UInt64)} (h : rR hi hf sr) {a6 a7 : Option Value} {kc ks : Nat} (hkc : kc + 1 ≤ 600128) (hks : ks + 6 ≤ 7301098) (K : lw_K X j kc ks) : dk_W X 672 (lw_L j a6 a7) [] 63 (hi, hf, dk_RF sr, z) kc ks := by
  have hc0 : kc ≤ room_1.cells := by show kc ≤ 600128; omega
  have hs0 : ks ≤ room_1.slots := by show ks ≤ 7301098; omega
  have h1c : kc + 1 ≤ room_1.cells := hkc
  have h1s : ks + 6 ≤ room_1.slots := hks
  obtain ⟨ns, nc, nj, no, jt, hTs, hQ, hS, hM, hF⟩ := id h
  obtain ⟨nR, md, en, T⟩ := rT_fun hTs
  have T : rTT hi nR md en := T
  have Sn : qu_S sr ns (fun s => 2 + 4 * jt s) := ⟨hQ.1.2.2.1, fun k hk => ⟨(hQ.1.2.2.2 k hk).1, dk_T1 (hQ.1.2.2.2 k hk).2.2.1⟩⟩
  have lim := hQ.2.2.1.2.2.1
  refine dk_aload_n C dL_law_672 rfl rfl ?_
  refine dk_rload_n C dL_law_673 rfl rfl ?_
  refine dk_iload C dL_law_674 rfl ?_
  refine dk_iconst C (1) dL_law_676 rfl ?_
  refine dk_iadd C dL_law_677 ?_
  refine dk_sald C S3 (j + 1) (nI_add j 1) (by omega) (by omega) dL_law_678 ?_
  refine dk_rload_n C dL_law_679 rfl rfl ?_
  refine dk_iload C dL_law_680 rfl ?_
  refine dk_iconst C (2) dL_law_682 rfl ?_
  refine dk_iadd C dL_law_683 ?_
  refine dk_sald C S3 (j + 2) (nI_add j 2) (by omega) (by omega) dL_law_684 ?_
  refine dk_rload_n C dL_law_685 rfl rfl ?_
  refine dk_iload C dL_law_686 rfl ?_
  refine dk_iconst C (3) dL_law_688 rfl ?_
  refine dk_iadd C dL_law_689 ?_
  refine dk_sald C S3 (j + 3) (nI_add j 3) (by omega) (by omega) dL_law_690 ?_
  refine dk_rload_n C dL_law_691 rfl rfl ?_
  refine dk_iload C dL_law_692 rfl ?_
  refine dk_iconst C (4) dL_law_694 rfl ?_
  refine dk_iadd C dL_law_695 ?_
  refine dk_sald C S3 (j + 4) (nI_add j 4) (by omega) (by omega) dL_law_696 ?_
  refine ek_callV C mL_96 (c_X7_join _ _ _ _ _ ns nj (fun s => 2 + 4 * jt s) Sn hQ.1.1 hQ.2.2.1.1 hQ.2.2.1.2.2.1 (xs (j + 1)) (xs (j + 2)) (xs (j + 3)) (xs (j + 4))) rfl (by decide) rfl rfl (Nat.le_of_ble_eq_true rfl) (Nat.le_of_ble_eq_true rfl) (Nat.le_of_ble_eq_true rfl) hc0 hs0 dL_law_697 ?_
  refine dk_aload_n C dL_law_700 rfl rfl ?_
  refine dk_rload_n C dL_law_701 rfl rfl ?_
  refine dk_iload C dL_law_702 rfl ?_
  refine dk_iconst C (1) dL_law_704 rfl ?_
  refine dk_iadd C dL_law_705 ?_
  refine dk_sald C S3 (j + 1) (nI_add j 1) (by omega) (by omega) dL_law_706 ?_
  refine dk_rload_n C dL_law_707 rfl rfl ?_
  refine dk_iload C dL_law_708 rfl ?_
  refine dk_iconst C (2) dL_law_710 rfl ?_
  refine dk_iadd C dL_law_711 ?_
  refine dk_sald C S3 (j + 2) (nI_add j 2) (by omega) (by omega) dL_law_712 ?_
  refine dk_rload_n C dL_law_713 rfl rfl ?_
  refine dk_iload C dL_law_714 rfl ?_
  refine dk_iconst C (3) dL_law_716 rfl ?_
  refine dk_iadd C dL_law_717 ?_
  refine dk_sald C S3 (j + 3) (nI_add j 3) (by omega) (by omega) dL_law_718 ?_
  refine dk_rload_n C dL_law_719 rfl rfl ?_
  refine dk_iload C dL_law_720 rfl ?_
  refine dk_iconst C (4) dL_law_722 rfl ?_
  refine dk_iadd C dL_law_723 ?_
  refine dk_sald C S3 (j + 4) (nI_add j 4) (by omega) (by omega) dL_law_724 ?_
  have e1 : ∀ i k, 45 ≤ i → (if jn_ok hi ns (fun s => 2 + 4 * jt s) (xs (j + 1)) (xs (j + 2)) (xs (j + 3)) (xs (j + 4)) = true then qu_addJ hi nj (xs (j + 1)) (xs (j + 2)) (xs (j + 3)) (xs (j + 4)) else hi) i k = hi i k := fun i k y => ite_fr (fun _ => by simp (disch := omega) only [qu_addJ, dk_up_ne])
  have e2 := jn_eq T hQ hS.1 (fun k => e1 46 k (by omega)) (e1 45 6 (by omega)) (e1 45 11 (by omega)) (xs (j + 1)) (xs (j + 2)) (xs (j + 3)) (xs (j + 4))
  refine ek_callV C mL_99 (c_X8_join _ _ _ _ _ ns nj jt ⟨(e1 45 7 (by omega)).trans hQ.1.2.1, hQ.1.2.2.1, fun k hk => ⟨(e1 51 k (by omega)).trans (hQ.1.2.2.2 k hk).2.1, (hQ.1.2.2.2 k hk).2.2.1, by rw [e1 46 _ (by omega)]; exact (hQ.1.2.2.2 k hk).2.2.2⟩⟩ ((e1 45 11 (by omega)).trans hQ.2.2.1.2.1) hQ.2.2.1.2.2.1 (xs (j + 1)) (xs (j + 2)) (xs (j + 3)) (xs (j + 4))) rfl (by decide) rfl rfl (Nat.le_of_ble_eq_true rfl) (Nat.le_of_ble_eq_true rfl) (Nat.le_of_ble_eq_true rfl) hc0 hs0 dL_law_725 ?_
  refine dk_icmp_eq C 1100 dL_law_728 (by decide) (fun _ => ?_) (fun hz => absurd (by rw [e2]) hz)
  exact K _ _ _ _ _ _ _ _ (by
    rw [e2]
    by_cases q : jn_ok hi ns (fun s => 2 + 4 * jt s) (xs (j + 1)) (xs (j + 2)) (xs (j + 3)) (xs (j + 4)) = true
    · rw [if_pos q, if_pos q]; exact op_join h T hQ hS.1 q
    · rw [if_neg q, if_neg q]; exact h.f0 0) (Nat.le_succ _) (Nat.le_add_right _ _)
set_option maxHeartbeats 8000000 in
set_option maxRecDepth 100000 in
theorem lw_select {X : dk_X} {G : dk_G} {N : Nat} {xs : Nat → Int32} (C : dk_C X cL_law RL 8 (some .boolean) room_1 G) (XK : hx_K X) (S3 : lw_S X N xs) {j : Nat} (hj : j + 5 < N) (hN : N ≤ 384) {hi : Nat → Nat → Int32} {hf : Nat → Nat → UInt32} {sr : Nat → Option Nat} {z : (Nat → Nat → Int64) × (Nat → Nat → UInt64)} (h : rR hi hf sr) {a6 a7 : Option Value} {kc ks : Nat} (hkc : kc + 1 ≤ 600128) (hks : ks + 6 ≤ 7301098) (K : lw_K X j kc ks) : dk_W X 733 (lw_L j a6 a7) [] 63 (hi, hf, dk_RF sr, z) kc ks := by
  have hc0 : kc ≤ room_1.cells := by show kc ≤ 600128; omega
  have hs0 : ks ≤ room_1.slots := by show ks ≤ 7301098; omega
  have h1c : kc + 1 ≤ room_1.cells := hkc
  have h1s : ks + 6 ≤ room_1.slots := hks
  obtain ⟨ns, nc, nj, no, jt, hTs, hQ, hS, hM, hF⟩ := id h
  obtain ⟨nR, md, en, T⟩ := rT_fun hTs
  have T : rTT hi nR md en := T
  have Sn : qu_S sr ns (fun s => 2 + 4 * jt s) := ⟨hQ.1.2.2.1, fun k hk => ⟨(hQ.1.2.2.2 k hk).1, dk_T1 (hQ.1.2.2.2 k hk).2.2.1⟩⟩
  have lim := hQ.2.2.2.1.2.2.1
  refine dk_aload_n C dL_law_733 rfl rfl ?_
  refine dk_rload_n C dL_law_734 rfl rfl ?_
  refine dk_iload C dL_law_735 rfl ?_
  refine dk_iconst C (1) dL_law_737 rfl ?_
  refine dk_iadd C dL_law_738 ?_
  refine dk_sald C S3 (j + 1) (nI_add j 1) (by omega) (by omega) dL_law_739 ?_
  refine dk_rload_n C dL_law_740 rfl rfl ?_
  refine dk_iload C dL_law_741 rfl ?_
  refine dk_iconst C (2) dL_law_743 rfl ?_
  refine dk_iadd C dL_law_744 ?_
  refine dk_sald C S3 (j + 2) (nI_add j 2) (by omega) (by omega) dL_law_745 ?_
  refine ek_callV C mL_100 (c_X7_select _ _ _ _ _ ns no (fun s => 2 + 4 * jt s) Sn hQ.1.1 hQ.2.2.2.1.1 hQ.2.2.2.1.2.2.1 (xs (j + 1)) (xs (j + 2))) rfl (by decide) rfl rfl (Nat.le_of_ble_eq_true rfl) (Nat.le_of_ble_eq_true rfl) (Nat.le_of_ble_eq_true rfl) hc0 hs0 dL_law_746 ?_
  refine dk_aload_n C dL_law_749 rfl rfl ?_
  refine dk_rload_n C dL_law_750 rfl rfl ?_
  refine dk_iload C dL_law_751 rfl ?_
  refine dk_iconst C (1) dL_law_753 rfl ?_
  refine dk_iadd C dL_law_754 ?_
  refine dk_sald C S3 (j + 1) (nI_add j 1) (by omega) (by omega) dL_law_755 ?_
  refine dk_rload_n C dL_law_756 rfl rfl ?_
  refine dk_iload C dL_law_757 rfl ?_
  refine dk_iconst C (2) dL_law_759 rfl ?_
  refine dk_iadd C dL_law_760 ?_
  refine dk_sald C S3 (j + 2) (nI_add j 2) (by omega) (by omega) dL_law_761 ?_
  have e1 : ∀ i k, 45 ≤ i → (if sl_ok hi ns (fun s => 2 + 4 * jt s) (xs (j + 1)) (xs (j + 2)) = true then qu_addO hi no (xs (j + 1)) (xs (j + 2)) else hi) i k = hi i k := fun i k y => ite_fr (fun _ => by simp (disch := omega) only [qu_addO, dk_up_ne])
  have e2 := sl_eq T hQ hS.1 (fun k => e1 46 k (by omega)) (e1 45 6 (by omega)) (e1 45 13 (by omega)) (xs (j + 1)) (xs (j + 2))
  refine ek_callV C mL_103 (c_X8_select _ _ _ _ _ ns no jt ⟨(e1 45 7 (by omega)).trans hQ.1.2.1, hQ.1.2.2.1, fun k hk => ⟨(e1 51 k (by omega)).trans (hQ.1.2.2.2 k hk).2.1, (hQ.1.2.2.2 k hk).2.2.1, by rw [e1 46 _ (by omega)]; exact (hQ.1.2.2.2 k hk).2.2.2⟩⟩ ((e1 45 13 (by omega)).trans hQ.2.2.2.1.2.1) hQ.2.2.2.1.2.2.1 (xs (j + 1)) (xs (j + 2))) rfl (by decide) rfl rfl (Nat.le_of_ble_eq_true rfl) (Nat.le_of_ble_eq_true rfl) (Nat.le_of_ble_eq_true rfl) hc0 hs0 dL_law_762 ?_
  refine dk_icmp_eq C 1100 dL_law_765 (by decide) (fun _ => ?_) (fun hz => absurd (by rw [e2]) hz)
  exact K _ _ _ _ _ _ _ _ (by
    rw [e2]
    by_cases q : sl_ok hi ns (fun s => 2 + 4 * jt s) (xs (j + 1)) (xs (j + 2)) = true
    · rw [if_pos q, if_pos q]; exact op_select h T hQ hS.1 q
    · rw [if_neg q, if_neg q]; exact h.f0 0) (Nat.le_succ _) (Nat.le_add_right _ _)
set_option maxHeartbeats 8000000 in
set_option maxRecDepth 100000 in
theorem lw_order {X : dk_X} {G : dk_G} {N : Nat} {xs : Nat → Int32} (C : dk_C X cL_law RL 8 (some .boolean) room_1 G) (XK : hx_K X) (S3 : lw_S X N xs) {j : Nat} (hj : j + 5 < N) (hN : N ≤ 384) {hi : Nat → Nat → Int32} {hf : Nat → Nat → UInt32} {sr : Nat → Option Nat} {z : (Nat → Nat → Int64) × (Nat → Nat → UInt64)} (h : rR hi hf sr) {a6 a7 : Option Value} {kc ks : Nat} (hkc : kc + 1 ≤ 600128) (hks : ks + 6 ≤ 7301098) (K : lw_K X j kc ks) : dk_W X 770 (lw_L j a6 a7) [] 63 (hi, hf, dk_RF sr, z) kc ks := by
  have hc0 : kc ≤ room_1.cells := by show kc ≤ 600128; omega
  have hs0 : ks ≤ room_1.slots := by show ks ≤ 7301098; omega
  have h1c : kc + 1 ≤ room_1.cells := hkc
  have h1s : ks + 6 ≤ room_1.slots := hks
  obtain ⟨ns, nc, nj, no, jt, hTs, hQ, hS, hM, hF⟩ := id h
  obtain ⟨nR, md, en, T⟩ := rT_fun hTs
  have T : rTT hi nR md en := T
  refine dk_aload_n C dL_law_770 rfl rfl ?_
  refine dk_rload_n C dL_law_771 rfl rfl ?_
  refine dk_iload C dL_law_772 rfl ?_
  refine dk_iconst C (1) dL_law_774 rfl ?_
  refine dk_iadd C dL_law_775 ?_
  refine dk_sald C S3 (j + 1) (nI_add j 1) (by omega) (by omega) dL_law_776 ?_
  refine dk_rload_n C dL_law_777 rfl rfl ?_
  refine dk_iload C dL_law_778 rfl ?_
  refine dk_iconst C (2) dL_law_780 rfl ?_
  refine dk_iadd C dL_law_781 ?_
  refine dk_sald C S3 (j + 2) (nI_add j 2) (by omega) (by omega) dL_law_782 ?_
  by_cases hz : xs (j + 2) = 0
  · refine dk_if_eq C 790 dL_law_783 (by decide) (fun _ => ?_) (fun y => absurd hz y)
    refine dk_iconst C (0) dL_law_790 rfl ?_
    refine ek_callV C mL_104 (c_X7_order _ _ _ _ _ (xs (j + 1)) 0 (by decide)) rfl (by decide) rfl rfl (Nat.le_of_ble_eq_true rfl) (Nat.le_of_ble_eq_true rfl) (Nat.le_of_ble_eq_true rfl) hc0 hs0 dL_law_791 ?_
    refine dk_aload_n C dL_law_794 rfl rfl ?_
    refine dk_rload_n C dL_law_795 rfl rfl ?_
    refine dk_iload C dL_law_796 rfl ?_
    refine dk_iconst C (1) dL_law_798 rfl ?_
    refine dk_iadd C dL_law_799 ?_
    refine dk_sald C S3 (j + 1) (nI_add j 1) (by omega) (by omega) dL_law_800 ?_
    refine dk_rload_n C dL_law_801 rfl rfl ?_
    refine dk_iload C dL_law_802 rfl ?_
    refine dk_iconst C (2) dL_law_804 rfl ?_
    refine dk_iadd C dL_law_805 ?_
    refine dk_sald C S3 (j + 2) (nI_add j 2) (by omega) (by omega) dL_law_806 ?_
    have e1 : ∀ i k, 45 ≤ i → (if or_ok hi (xs (j + 1)) = true then dk_up (dk_up hi 14 8 (xs (j + 1))) 14 9 0 else hi) i k = hi i k := fun i k y => ite_fr (fun _ => by simp (disch := omega) only [dk_up_ne])
    have e2 := or_eq hQ hS.1 (e1 45 6 (by omega)) (e1 45 13 (by omega)) (xs (j + 1))
    refine dk_if_eq C 814 dL_law_807 (by decide) (fun _ => ?_) (fun y => absurd hz y)
    refine dk_iconst C (0) dL_law_814 rfl ?_
    refine ek_callV C mL_108 (c_X8_order _ _ _ _ _ (by rw [e1 45 13 (by omega), hQ.2.2.2.1.2.1]; have := hQ.2.2.2.1.2.2.1; exact nI_pos' (by omega)) (xs (j + 1)) 0 (by decide)) rfl (by decide) rfl rfl (Nat.le_of_ble_eq_true rfl) (Nat.le_of_ble_eq_true rfl) (Nat.le_of_ble_eq_true rfl) hc0 hs0 dL_law_815 ?_
    refine dk_icmp_eq C 1100 dL_law_818 (by decide) (fun _ => ?_) (fun hz => absurd (by rw [e2]) hz)
    exact K _ _ _ _ _ _ _ _ (by
      rw [e2]
      by_cases q : or_ok hi (xs (j + 1)) = true
      · rw [if_pos q, if_pos q]; exact op_order h hQ hS.1 q
      · rw [if_neg q, if_neg q]; exact h.f0 0) (Nat.le_succ _) (Nat.le_add_right _ _)
  · refine dk_if_eq C 790 dL_law_783 (by decide) (fun y => absurd y hz) (fun _ => ?_)
    refine dk_iconst C (1) dL_law_786 rfl ?_
    refine dk_goto C 791 dL_law_787 (by decide) ?_
    refine ek_callV C mL_104 (c_X7_order _ _ _ _ _ (xs (j + 1)) 1 (by decide)) rfl (by decide) rfl rfl (Nat.le_of_ble_eq_true rfl) (Nat.le_of_ble_eq_true rfl) (Nat.le_of_ble_eq_true rfl) hc0 hs0 dL_law_791 ?_
    refine dk_aload_n C dL_law_794 rfl rfl ?_
    refine dk_rload_n C dL_law_795 rfl rfl ?_
    refine dk_iload C dL_law_796 rfl ?_
    refine dk_iconst C (1) dL_law_798 rfl ?_
    refine dk_iadd C dL_law_799 ?_
    refine dk_sald C S3 (j + 1) (nI_add j 1) (by omega) (by omega) dL_law_800 ?_
    refine dk_rload_n C dL_law_801 rfl rfl ?_
    refine dk_iload C dL_law_802 rfl ?_
    refine dk_iconst C (2) dL_law_804 rfl ?_
    refine dk_iadd C dL_law_805 ?_
    refine dk_sald C S3 (j + 2) (nI_add j 2) (by omega) (by omega) dL_law_806 ?_
    have e1 : ∀ i k, 45 ≤ i → (if or_ok hi (xs (j + 1)) = true then dk_up (dk_up hi 14 8 (xs (j + 1))) 14 9 1 else hi) i k = hi i k := fun i k y => ite_fr (fun _ => by simp (disch := omega) only [dk_up_ne])
    have e2 := or_eq hQ hS.1 (e1 45 6 (by omega)) (e1 45 13 (by omega)) (xs (j + 1))
    refine dk_if_eq C 814 dL_law_807 (by decide) (fun y => absurd y hz) (fun _ => ?_)
    refine dk_iconst C (1) dL_law_810 rfl ?_
    refine dk_goto C 815 dL_law_811 (by decide) ?_
    refine ek_callV C mL_108 (c_X8_order _ _ _ _ _ (by rw [e1 45 13 (by omega), hQ.2.2.2.1.2.1]; have := hQ.2.2.2.1.2.2.1; exact nI_pos' (by omega)) (xs (j + 1)) 1 (by decide)) rfl (by decide) rfl rfl (Nat.le_of_ble_eq_true rfl) (Nat.le_of_ble_eq_true rfl) (Nat.le_of_ble_eq_true rfl) hc0 hs0 dL_law_815 ?_
    refine dk_icmp_eq C 1100 dL_law_818 (by decide) (fun _ => ?_) (fun hz => absurd (by rw [e2]) hz)
    exact K _ _ _ _ _ _ _ _ (by
      rw [e2]
      by_cases q : or_ok hi (xs (j + 1)) = true
      · rw [if_pos q, if_pos q]; exact op_order h hQ hS.1 q
      · rw [if_neg q, if_neg q]; exact h.f0 0) (Nat.le_succ _) (Nat.le_add_right _ _)
set_option maxHeartbeats 8000000 in
set_option maxRecDepth 100000 in
theorem lw_limit {X : dk_X} {G : dk_G} {N : Nat} {xs : Nat → Int32} (C : dk_C X cL_law RL 8 (some .boolean) room_1 G) (XK : hx_K X) (S3 : lw_S X N xs) {j : Nat} (hj : j + 5 < N) (hN : N ≤ 384) {hi : Nat → Nat → Int32} {hf : Nat → Nat → UInt32} {sr : Nat → Option Nat} {z : (Nat → Nat → Int64) × (Nat → Nat → UInt64)} (h : rR hi hf sr) {a6 a7 : Option Value} {kc ks : Nat} (hkc : kc + 1 ≤ 600128) (hks : ks + 6 ≤ 7301098) (K : lw_K X j kc ks) : dk_W X 823 (lw_L j a6 a7) [] 63 (hi, hf, dk_RF sr, z) kc ks := by
  have hc0 : kc ≤ room_1.cells := by show kc ≤ 600128; omega
  have hs0 : ks ≤ room_1.slots := by show ks ≤ 7301098; omega
  have h1c : kc + 1 ≤ room_1.cells := hkc
  have h1s : ks + 6 ≤ room_1.slots := hks
  obtain ⟨ns, nc, nj, no, jt, hTs, hQ, hS, hM, hF⟩ := id h
  obtain ⟨nR, md, en, T⟩ := rT_fun hTs
  have T : rTT hi nR md en := T
  refine dk_aload_n C dL_law_823 rfl rfl ?_
  refine dk_rload_n C dL_law_824 rfl rfl ?_
  refine dk_iload C dL_law_825 rfl ?_
  refine dk_iconst C (1) dL_law_827 rfl ?_
  refine dk_iadd C dL_law_828 ?_
  refine dk_sald C S3 (j + 1) (nI_add j 1) (by omega) (by omega) dL_law_829 ?_
  refine ek_callV C mL_109 (c_X7_limit _ _ _ _ _ (xs (j + 1))) rfl (by decide) rfl rfl (Nat.le_of_ble_eq_true rfl) (Nat.le_of_ble_eq_true rfl) (Nat.le_of_ble_eq_true rfl) hc0 hs0 dL_law_830 ?_
  refine dk_aload_n C dL_law_833 rfl rfl ?_
  refine dk_rload_n C dL_law_834 rfl rfl ?_
  refine dk_iload C dL_law_835 rfl ?_
  refine dk_iconst C (1) dL_law_837 rfl ?_
  refine dk_iadd C dL_law_838 ?_
  refine dk_sald C S3 (j + 1) (nI_add j 1) (by omega) (by omega) dL_law_839 ?_
  have e1 : ∀ i k, 45 ≤ i → (if lm_ok hi (xs (j + 1)) = true then dk_up hi 14 10 (xs (j + 1)) else hi) i k = hi i k := fun i k y => ite_fr (fun _ => dk_up_ne _ _ (by omega))
  have e2 := lm_eq hS.1 (e1 45 6 (by omega)) (xs (j + 1))
  refine ek_callV C mL_113 (c_X8_limit _ _ _ _ _ (xs (j + 1))) rfl (by decide) rfl rfl (Nat.le_of_ble_eq_true rfl) (Nat.le_of_ble_eq_true rfl) (Nat.le_of_ble_eq_true rfl) hc0 hs0 dL_law_840 ?_
  refine dk_icmp_eq C 1100 dL_law_843 (by decide) (fun _ => ?_) (fun hz => absurd (by rw [e2]) hz)
  exact K _ _ _ _ _ _ _ _ (by
    rw [e2]
    by_cases q : lm_ok hi (xs (j + 1)) = true
    · rw [if_pos q, if_pos q]; exact op_limit h hQ hS.1 q
    · rw [if_neg q, if_neg q]; exact h.f0 0) (Nat.le_succ _) (Nat.le_add_right _ _)
set_option maxHeartbeats 8000000 in
set_option maxRecDepth 100000 in
theorem lw_look {X : dk_X} {G : dk_G} {N : Nat} {xs : Nat → Int32} (C : dk_C X cL_law RL 8 (some .boolean) room_1 G) (XK : hx_K X) (S3 : lw_S X N xs) {j : Nat} (hj : j + 5 < N) (hN : N ≤ 384) {hi : Nat → Nat → Int32} {hf : Nat → Nat → UInt32} {sr : Nat → Option Nat} {z : (Nat → Nat → Int64) × (Nat → Nat → UInt64)} (h : rR hi hf sr) {a6 a7 : Option Value} {kc ks : Nat} (hkc : kc + 1 ≤ 600128) (hks : ks + 6 ≤ 7301098) (K : lw_K X j kc ks) : dk_W X 1007 (lw_L j a6 a7) [] 63 (hi, hf, dk_RF sr, z) kc ks := by
  have hc0 : kc ≤ room_1.cells := by show kc ≤ 600128; omega
  have hs0 : ks ≤ room_1.slots := by show ks ≤ 7301098; omega
  have h1c : kc + 1 ≤ room_1.cells := hkc
  have h1s : ks + 6 ≤ room_1.slots := hks
  obtain ⟨ns, nc, nj, no, jt, hTs, hQ, hS, hM, hF⟩ := id h
  obtain ⟨nR, md, en, T⟩ := rT_fun hTs
  have T : rTT hi nR md en := T
  refine dk_aload_n C dL_law_1007 rfl rfl ?_
  refine dk_rload_n C dL_law_1008 rfl rfl ?_
  refine dk_iload C dL_law_1009 rfl ?_
  refine dk_iconst C (1) dL_law_1011 rfl ?_
  refine dk_iadd C dL_law_1012 ?_
  refine dk_sald C S3 (j + 1) (nI_add j 1) (by omega) (by omega) dL_law_1013 ?_
  refine ek_callV C mL_126 (c_X7_look _ _ _ _ _ (xs (j + 1))) rfl (by decide) rfl rfl (Nat.le_of_ble_eq_true rfl) (Nat.le_of_ble_eq_true rfl) (Nat.le_of_ble_eq_true rfl) hc0 hs0 dL_law_1014 ?_
  refine dk_aload_n C dL_law_1017 rfl rfl ?_
  refine dk_rload_n C dL_law_1018 rfl rfl ?_
  refine dk_iload C dL_law_1019 rfl ?_
  refine dk_iconst C (1) dL_law_1021 rfl ?_
  refine dk_iadd C dL_law_1022 ?_
  refine dk_sald C S3 (j + 1) (nI_add j 1) (by omega) (by omega) dL_law_1023 ?_
  refine ek_callV C mL_129 (c_X8_look _ _ _ _ _ nR en (fun j hj => (T j hj).2.2.1) (xs (j + 1)) (le_or _)) rfl (by decide) rfl rfl (Nat.le_of_ble_eq_true rfl) (Nat.le_of_ble_eq_true rfl) (Nat.le_of_ble_eq_true rfl) hc0 hs0 dL_law_1024 ?_
  refine dk_icmp_eq C 1100 dL_law_1027 (by decide) (fun _ => ?_) (fun hz => absurd ((look_eq (hi' := hi) T hQ hS (xs (j + 1))).symm) hz)
  exact K _ _ _ _ _ _ _ _ (h.f0 0) (Nat.le_succ _) (Nat.le_add_right _ _)
set_option maxHeartbeats 8000000 in
set_option maxRecDepth 100000 in
theorem lw_run {X : dk_X} {G : dk_G} {N : Nat} {xs : Nat → Int32} (C : dk_C X cL_law RL 8 (some .boolean) room_1 G) (XK : hx_K X) (S3 : lw_S X N xs) {j : Nat} (hj : j + 5 < N) (hN : N ≤ 384) {hi : Nat → Nat → Int32} {hf : Nat → Nat → UInt32} {sr : Nat → Option Nat} {z : (Nat → Nat → Int64) × (Nat → Nat → UInt64)} (h : rR hi hf sr) {a6 a7 : Option Value} {kc ks : Nat} (hkc : kc + 1 ≤ 600128) (hks : ks + 6 ≤ 7301098) (K : lw_K X j kc ks) : dk_W X 982 (lw_L j a6 a7) [] 63 (hi, hf, dk_RF sr, z) kc ks := by
  have hc0 : kc ≤ room_1.cells := by show kc ≤ 600128; omega
  have hs0 : ks ≤ room_1.slots := by show ks ≤ 7301098; omega
  have h1c : kc + 1 ≤ room_1.cells := hkc
  have h1s : ks + 6 ≤ room_1.slots := hks
  obtain ⟨ns, nc, nj, no, jt, hTs, hQ, hS, hM, hF⟩ := id h
  obtain ⟨nR, md, en, T⟩ := rT_fun hTs
  have T : rTT hi nR md en := T
  refine dk_aload_n C dL_law_982 rfl rfl ?_
  refine dk_rload_n C dL_law_983 rfl rfl ?_
  refine dk_iload C dL_law_984 rfl ?_
  refine dk_iconst C (1) dL_law_986 rfl ?_
  refine dk_iadd C dL_law_987 ?_
  refine dk_sald C S3 (j + 1) (nI_add j 1) (by omega) (by omega) dL_law_988 ?_
  by_cases q : rn_ok (hi 0 4) (xs (j + 1)) = true
  · obtain ⟨n0, q9, p, ns, nc, nj, no, jt, en9, m0, R0, rk0, lim, en0, ⟨x1, x2, x3, x4⟩, ⟨y1, y2, y3, y4, y5, y6⟩, ⟨w1, w2, w3, w4⟩, rest⟩ := op_run h q
    rw [en0]
    refine dk_callV C mL_122 (c_X7_runM _ _ _ _ _ x1 x2 x3 x4 lim y1 y3 n0 y4 y5 y6 m0 R0 rk0 w1 w2 (by omega)) rfl (by decide) rfl rfl (Nat.le_of_ble_eq_true rfl) ⟨Nat.le_of_ble_eq_true rfl, Nat.le_of_ble_eq_true rfl⟩ ⟨hc0, hs0⟩ dL_law_989 ?_
    rintro r' h' ⟨rfl, hi1, R, rk, rfl, f1, f2, f3, f4⟩
    obtain ⟨⟨u1, u2, u3, u4, u5, u6⟩, fin⟩ := rest hi1 R rk f1 f2 f3 f4
    refine dk_aload_n C dL_law_992 rfl rfl ?_
    refine dk_rload_n C dL_law_993 rfl rfl ?_
    refine dk_iload C dL_law_994 rfl ?_
    refine dk_iconst C (1) dL_law_996 rfl ?_
    refine dk_iadd C dL_law_997 ?_
    refine dk_sald C S3 (j + 1) (nI_add j 1) (by omega) (by omega) dL_law_998 ?_
    rw [en0]
    refine dk_callV C mL_125 (c_X8_runM _ _ _ _ _ u1 u2 x3 x4 lim u3 y2 y3 n0 y4 y5 u4 m0 w1 u5 w3 w4 R rk u6) rfl (by decide) rfl rfl (Nat.le_of_ble_eq_true rfl) ⟨Nat.le_of_ble_eq_true rfl, Nat.le_of_ble_eq_true rfl⟩ ⟨hc0, hs0⟩ dL_law_999 ?_
    rintro r' h' ⟨rfl, hi2, rfl, f5, f6, f7, f8⟩
    refine dk_icmp_eq C 1100 dL_law_1002 (by decide) (fun _ => ?_) (fun hz => absurd (rfl) hz)
    exact K _ _ _ _ _ _ _ _ (fin hi2 f5 f7 f8) (Nat.le_succ _) (Nat.le_add_right _ _)
  · have q := Bool.eq_false_iff.mpr q
    refine ek_callV C mL_122 (c_X7_run _ _ _ _ _ (xs (j + 1)) q) rfl (by decide) rfl rfl (Nat.le_of_ble_eq_true rfl) (Nat.le_of_ble_eq_true rfl) (Nat.le_of_ble_eq_true rfl) hc0 hs0 dL_law_989 ?_
    refine dk_aload_n C dL_law_992 rfl rfl ?_
    refine dk_rload_n C dL_law_993 rfl rfl ?_
    refine dk_iload C dL_law_994 rfl ?_
    refine dk_iconst C (1) dL_law_996 rfl ?_
    refine dk_iadd C dL_law_997 ?_
    refine dk_sald C S3 (j + 1) (nI_add j 1) (by omega) (by omega) dL_law_998 ?_
    refine ek_callV C mL_125 (c_X8_run _ _ _ _ _ (xs (j + 1)) (by rw [← hS.1]; exact q)) rfl (by decide) rfl rfl (Nat.le_of_ble_eq_true rfl) (Nat.le_of_ble_eq_true rfl) (Nat.le_of_ble_eq_true rfl) hc0 hs0 dL_law_999 ?_
    refine dk_icmp_eq C 1100 dL_law_1002 (by decide) (fun _ => ?_) (fun hz => absurd (rfl) hz)
    exact K _ _ _ _ _ _ _ _ (h.f0 0) (Nat.le_succ _) (Nat.le_add_right _ _)
set_option maxHeartbeats 8000000 in
set_option maxRecDepth 100000 in
theorem lw_insert {X : dk_X} {G : dk_G} {N : Nat} {xs : Nat → Int32} (C : dk_C X cL_law RL 8 (some .boolean) room_1 G) (XK : hx_K X) (S3 : lw_S X N xs) {j : Nat} (hj : j + 5 < N) (hN : N ≤ 384) {hi : Nat → Nat → Int32} {hf : Nat → Nat → UInt32} {sr : Nat → Option Nat} {z : (Nat → Nat → Int64) × (Nat → Nat → UInt64)} (h : rR hi hf sr) {a6 a7 : Option Value} {kc ks : Nat} (hkc : kc + 1 ≤ 600128) (hks : ks + 6 ≤ 7301098) (K : lw_K X j kc ks) : dk_W X 173 (lw_L j a6 a7) [] 63 (hi, hf, dk_RF sr, z) kc ks := by
  have hc0 : kc ≤ room_1.cells := by show kc ≤ 600128; omega
  have hs0 : ks ≤ room_1.slots := by show ks ≤ 7301098; omega
  have h1c : kc + 1 ≤ room_1.cells := hkc
  have h1s : ks + 6 ≤ room_1.slots := hks
  obtain ⟨ns, nc, nj, no, jt, hTs, hQ, hS, hM, hF⟩ := id h
  obtain ⟨nR, md, en, T⟩ := rT_fun hTs
  have T : rTT hi nR md en := T
  refine dk_aload_n C dL_law_173 rfl rfl ?_
  refine dk_rload_n C dL_law_174 rfl rfl ?_
  refine dk_iload C dL_law_175 rfl ?_
  refine dk_iconst C (1) dL_law_177 rfl ?_
  refine dk_iadd C dL_law_178 ?_
  refine dk_sald C S3 (j + 1) (nI_add j 1) (by omega) (by omega) dL_law_179 ?_
  refine dk_rload_n C dL_law_180 rfl rfl ?_
  refine dk_iload C dL_law_181 rfl ?_
  refine dk_iconst C (2) dL_law_183 rfl ?_
  refine dk_iadd C dL_law_184 ?_
  refine dk_sald C S3 (j + 2) (nI_add j 2) (by omega) (by omega) dL_law_185 ?_
  refine dk_rload_n C dL_law_186 rfl rfl ?_
  refine dk_iload C dL_law_187 rfl ?_
  refine dk_iconst C (3) dL_law_189 rfl ?_
  refine dk_iadd C dL_law_190 ?_
  refine dk_sald C S3 (j + 3) (nI_add j 3) (by omega) (by omega) dL_law_191 ?_
  refine dk_rload_n C dL_law_192 rfl rfl ?_
  refine dk_iload C dL_law_193 rfl ?_
  refine dk_iconst C (4) dL_law_195 rfl ?_
  refine dk_iadd C dL_law_196 ?_
  refine dk_sald C S3 (j + 4) (nI_add j 4) (by omega) (by omega) dL_law_197 ?_
  refine dk_rload_n C dL_law_198 rfl rfl ?_
  refine dk_iload C dL_law_199 rfl ?_
  refine dk_iconst C (5) dL_law_201 rfl ?_
  refine dk_iadd C dL_law_202 ?_
  refine dk_sald C S3 (j + 5) (nI_add j 5) (by omega) (by omega) dL_law_203 ?_
  refine dk_aload_n C dL_law_204 rfl rfl ?_
  refine hx_callS C XK hL_51 (c_L_insert _ _ _ _ _ T.T (xs (j + 1)) (xs (j + 2)) (xs (j + 3)) (xs (j + 4)) (xs (j + 5))) rfl rfl (Nat.le_of_ble_eq_true rfl) ⟨Nat.le_of_ble_eq_true rfl, Nat.le_of_ble_eq_true rfl⟩ ⟨h1c, h1s⟩ dL_law_205 ?_
  rintro r' h' ⟨rfl, eh⟩
  rw [in_tup] at eh
  subst eh
  have e1 : ∀ i k, 45 ≤ i → (if in_c hi (xs (j + 1)) = 0 then tb_add (dk_end hi) (tcl (xs (j + 1))) (cl (hi (tcl (xs (j + 1))) 4)) (xs (j + 2)) (xs (j + 3)) (xs (j + 4)) (xs (j + 5)) else hi) i k = hi i k := fun i k y => ite_fr (fun q => ins_fr T q y)
  have e2 := in_eq T (fun k => e1 46 k (by omega)) (xs (j + 1))
  refine dk_istore C dL_law_208 (by decide) rfl ?_
  refine dk_aload_n C dL_law_210 rfl rfl ?_
  refine dk_rload_n C dL_law_211 rfl rfl ?_
  refine dk_iload C dL_law_212 rfl ?_
  refine dk_iconst C (1) dL_law_214 rfl ?_
  refine dk_iadd C dL_law_215 ?_
  refine dk_sald C S3 (j + 1) (nI_add j 1) (by omega) (by omega) dL_law_216 ?_
  refine dk_rload_n C dL_law_217 rfl rfl ?_
  refine dk_iload C dL_law_218 rfl ?_
  refine dk_iconst C (2) dL_law_220 rfl ?_
  refine dk_iadd C dL_law_221 ?_
  refine dk_sald C S3 (j + 2) (nI_add j 2) (by omega) (by omega) dL_law_222 ?_
  refine dk_rload_n C dL_law_223 rfl rfl ?_
  refine dk_iload C dL_law_224 rfl ?_
  refine dk_iconst C (3) dL_law_226 rfl ?_
  refine dk_iadd C dL_law_227 ?_
  refine dk_sald C S3 (j + 3) (nI_add j 3) (by omega) (by omega) dL_law_228 ?_
  refine dk_rload_n C dL_law_229 rfl rfl ?_
  refine dk_iload C dL_law_230 rfl ?_
  refine dk_iconst C (4) dL_law_232 rfl ?_
  refine dk_iadd C dL_law_233 ?_
  refine dk_sald C S3 (j + 4) (nI_add j 4) (by omega) (by omega) dL_law_234 ?_
  refine dk_rload_n C dL_law_235 rfl rfl ?_
  refine dk_iload C dL_law_236 rfl ?_
  refine dk_iconst C (5) dL_law_238 rfl ?_
  refine dk_iadd C dL_law_239 ?_
  refine dk_sald C S3 (j + 5) (nI_add j 5) (by omega) (by omega) dL_law_240 ?_
  refine ek_callV C mL_56 (c_X8_insert _ _ _ _ _ nR md en (fun j hj => (T j hj).2.2.1.fr (fun k _ _ => e1 48 k (by omega))) (fun j hj => ⟨(e1 47 j (by omega)).trans (T j hj).2.1.2.2.1, (T j hj).2.1.2.2.2⟩) (xs (j + 1)) (xs (j + 2)) (xs (j + 3)) (xs (j + 4)) (xs (j + 5))) rfl (by decide) rfl rfl (Nat.le_of_ble_eq_true rfl) (Nat.le_of_ble_eq_true rfl) (Nat.le_of_ble_eq_true rfl) h1c h1s dL_law_241 ?_
  refine dk_istore C dL_law_244 (by decide) rfl ?_
  refine dk_aload_n C dL_law_246 rfl rfl ?_
  refine ek_callV C mL_57 (c_X8_thrown _ _ _ _ _) rfl (by decide) rfl rfl (Nat.le_of_ble_eq_true rfl) (Nat.le_of_ble_eq_true rfl) (Nat.le_of_ble_eq_true rfl) h1c h1s dL_law_247 ?_
  refine dk_iload C dL_law_250 rfl ?_
  refine dk_icmp_eq C 257 dL_law_252 (by decide) (fun _ => ?_) (fun hz => absurd (by rw [ins_45, e2]) hz)
  refine dk_iload C dL_law_257 rfl ?_
  refine dk_if_ne C 274 dL_law_259 (by decide) (fun q0 => ?_) (fun q0 => ?_)
  · skip
    refine dk_goto C 1100 dL_law_274 (by decide) ?_
    exact K _ _ _ _ _ _ _ _ (by
      exact ins_R h T e2) (Nat.le_refl _) (Nat.le_refl _)
  · skip
    refine dk_aload_n C dL_law_262 rfl rfl ?_
    refine dk_iconst C (0) dL_law_263 rfl ?_
    refine dk_lald C (a := 61) (N := 1) (i := 0) rfl (by decide) vin0 dL_law_264 ?_
    refine dk_iload C dL_law_265 rfl ?_
    refine dk_i2l C dL_law_267 ?_
    refine dk_lcmp C dL_law_268 ?_
    refine dk_if_eq C 274 dL_law_269 (by decide) (fun _ => ?_) (fun hz => absurd (ins_v T e2 q0) hz)
    refine dk_goto C 1100 dL_law_274 (by decide) ?_
    exact K _ _ _ _ _ _ _ _ (by
      exact ins_R h T e2) (Nat.le_refl _) (Nat.le_refl _)
set_option maxHeartbeats 8000000 in
set_option maxRecDepth 100000 in
theorem lw_delete {X : dk_X} {G : dk_G} {N : Nat} {xs : Nat → Int32} (C : dk_C X cL_law RL 8 (some .boolean) room_1 G) (XK : hx_K X) (S3 : lw_S X N xs) {j : Nat} (hj : j + 5 < N) (hN : N ≤ 384) {hi : Nat → Nat → Int32} {hf : Nat → Nat → UInt32} {sr : Nat → Option Nat} {z : (Nat → Nat → Int64) × (Nat → Nat → UInt64)} (h : rR hi hf sr) {a6 a7 : Option Value} {kc ks : Nat} (hkc : kc + 1 ≤ 600128) (hks : ks + 6 ≤ 7301098) (K : lw_K X j kc ks) : dk_W X 277 (lw_L j a6 a7) [] 63 (hi, hf, dk_RF sr, z) kc ks := by
  have hc0 : kc ≤ room_1.cells := by show kc ≤ 600128; omega
  have hs0 : ks ≤ room_1.slots := by show ks ≤ 7301098; omega
  have h1c : kc + 1 ≤ room_1.cells := hkc
  have h1s : ks + 6 ≤ room_1.slots := hks
  obtain ⟨ns, nc, nj, no, jt, hTs, hQ, hS, hM, hF⟩ := id h
  obtain ⟨nR, md, en, T⟩ := rT_fun hTs
  have T : rTT hi nR md en := T
  refine dk_aload_n C dL_law_277 rfl rfl ?_
  refine dk_rload_n C dL_law_278 rfl rfl ?_
  refine dk_iload C dL_law_279 rfl ?_
  refine dk_iconst C (1) dL_law_281 rfl ?_
  refine dk_iadd C dL_law_282 ?_
  refine dk_sald C S3 (j + 1) (nI_add j 1) (by omega) (by omega) dL_law_283 ?_
  refine dk_rload_n C dL_law_284 rfl rfl ?_
  refine dk_iload C dL_law_285 rfl ?_
  refine dk_iconst C (2) dL_law_287 rfl ?_
  refine dk_iadd C dL_law_288 ?_
  refine dk_sald C S3 (j + 2) (nI_add j 2) (by omega) (by omega) dL_law_289 ?_
  refine hx_callS C XK hL_61 (c_L_delete _ _ _ _ _ T.T (xs (j + 1)) (xs (j + 2))) rfl rfl (Nat.le_of_ble_eq_true rfl) ⟨Nat.le_of_ble_eq_true rfl, Nat.le_of_ble_eq_true rfl⟩ ⟨h1c, h1s⟩ dL_law_290 ?_
  rintro r' h' ⟨rfl, eh⟩
  rw [de_tup] at eh
  subst eh
  have e1 : ∀ i k, 45 ≤ i → (if dk_hr hi (xs (j + 1)) (xs (j + 2)) = true then tb_rem (dk_end hi) (tcl (xs (j + 1))) (cl (hi (tcl (xs (j + 1))) 4)) (cl (dk_pl hi (xs (j + 1)) (xs (j + 2)))) else hi) i k = hi i k := fun i k y => ite_fr (fun q => del_fr T q y)
  have e2 := hr_cases T (fun k => e1 46 k (by omega)) (fun k => e1 48 k (by omega)) (xs (j + 1)) (xs (j + 2))
  refine dk_istore C dL_law_293 (by decide) rfl ?_
  refine dk_aload_n C dL_law_295 rfl rfl ?_
  refine dk_rload_n C dL_law_296 rfl rfl ?_
  refine dk_iload C dL_law_297 rfl ?_
  refine dk_iconst C (1) dL_law_299 rfl ?_
  refine dk_iadd C dL_law_300 ?_
  refine dk_sald C S3 (j + 1) (nI_add j 1) (by omega) (by omega) dL_law_301 ?_
  refine dk_rload_n C dL_law_302 rfl rfl ?_
  refine dk_iload C dL_law_303 rfl ?_
  refine dk_iconst C (2) dL_law_305 rfl ?_
  refine dk_iadd C dL_law_306 ?_
  refine dk_sald C S3 (j + 2) (nI_add j 2) (by omega) (by omega) dL_law_307 ?_
  refine ek_callVv C mL_64 (c_X8_delete _ _ _ _ _ (xs (j + 1)) (xs (j + 2))) rfl (by decide) rfl rfl (Nat.le_of_ble_eq_true rfl) (Nat.le_of_ble_eq_true rfl) (Nat.le_of_ble_eq_true rfl) h1c h1s dL_law_308 ?_
  refine dk_aload_n C dL_law_311 rfl rfl ?_
  refine ek_callV C mL_57 (c_X8_thrown _ _ _ _ _) rfl (by decide) rfl rfl (Nat.le_of_ble_eq_true rfl) (Nat.le_of_ble_eq_true rfl) (Nat.le_of_ble_eq_true rfl) h1c h1s dL_law_312 ?_
  refine dk_iload C dL_law_315 rfl ?_
  refine dk_icmp_eq C 322 dL_law_317 (by decide) (fun _ => ?_) (fun hz => absurd (del_45 e2) hz)
  refine dk_goto C 1100 dL_law_322 (by decide) ?_
  exact K _ _ _ _ _ _ _ _ (del_R h T e2) (Nat.le_refl _) (Nat.le_refl _)
set_option maxHeartbeats 8000000 in
set_option maxRecDepth 100000 in
theorem lw_update {X : dk_X} {G : dk_G} {N : Nat} {xs : Nat → Int32} (C : dk_C X cL_law RL 8 (some .boolean) room_1 G) (XK : hx_K X) (S3 : lw_S X N xs) {j : Nat} (hj : j + 5 < N) (hN : N ≤ 384) {hi : Nat → Nat → Int32} {hf : Nat → Nat → UInt32} {sr : Nat → Option Nat} {z : (Nat → Nat → Int64) × (Nat → Nat → UInt64)} (h : rR hi hf sr) {a6 a7 : Option Value} {kc ks : Nat} (hkc : kc + 1 ≤ 600128) (hks : ks + 6 ≤ 7301098) (K : lw_K X j kc ks) : dk_W X 325 (lw_L j a6 a7) [] 63 (hi, hf, dk_RF sr, z) kc ks := by
  have hc0 : kc ≤ room_1.cells := by show kc ≤ 600128; omega
  have hs0 : ks ≤ room_1.slots := by show ks ≤ 7301098; omega
  have h1c : kc + 1 ≤ room_1.cells := hkc
  have h1s : ks + 6 ≤ room_1.slots := hks
  obtain ⟨ns, nc, nj, no, jt, hTs, hQ, hS, hM, hF⟩ := id h
  obtain ⟨nR, md, en, T⟩ := rT_fun hTs
  have T : rTT hi nR md en := T
  refine dk_aload_n C dL_law_325 rfl rfl ?_
  refine dk_rload_n C dL_law_326 rfl rfl ?_
  refine dk_iload C dL_law_327 rfl ?_
  refine dk_iconst C (1) dL_law_329 rfl ?_
  refine dk_iadd C dL_law_330 ?_
  refine dk_sald C S3 (j + 1) (nI_add j 1) (by omega) (by omega) dL_law_331 ?_
  refine dk_rload_n C dL_law_332 rfl rfl ?_
  refine dk_iload C dL_law_333 rfl ?_
  refine dk_iconst C (2) dL_law_335 rfl ?_
  refine dk_iadd C dL_law_336 ?_
  refine dk_sald C S3 (j + 2) (nI_add j 2) (by omega) (by omega) dL_law_337 ?_
  refine dk_rload_n C dL_law_338 rfl rfl ?_
  refine dk_iload C dL_law_339 rfl ?_
  refine dk_iconst C (3) dL_law_341 rfl ?_
  refine dk_iadd C dL_law_342 ?_
  refine dk_sald C S3 (j + 3) (nI_add j 3) (by omega) (by omega) dL_law_343 ?_
  refine dk_rload_n C dL_law_344 rfl rfl ?_
  refine dk_iload C dL_law_345 rfl ?_
  refine dk_iconst C (4) dL_law_347 rfl ?_
  refine dk_iadd C dL_law_348 ?_
  refine dk_sald C S3 (j + 4) (nI_add j 4) (by omega) (by omega) dL_law_349 ?_
  refine hx_callS C XK hL_65 (c_L_update _ _ _ _ _ T.T T.c4 (xs (j + 1)) (xs (j + 2)) (xs (j + 3)) (xs (j + 4))) rfl rfl (Nat.le_of_ble_eq_true rfl) ⟨Nat.le_of_ble_eq_true rfl, Nat.le_of_ble_eq_true rfl⟩ ⟨h1c, h1s⟩ dL_law_350 ?_
  rintro r' h' ⟨rfl, eh⟩
  rw [de_tup] at eh
  subst eh
  have e1 : ∀ i k, 45 ≤ i → (if cb_ok hi (xs (j + 1)) (xs (j + 2)) (xs (j + 3)) = true then dk_up (dk_end hi) (tcl (xs (j + 1)) + 2) (cl (dk_pl hi (xs (j + 1)) (xs (j + 2))) * 4 + cl (xs (j + 3))) (xs (j + 4)) else hi) i k = hi i k := fun i k y => ite_fr (fun q => upd_fr T q y)
  have e2 := cb_cases T (fun k => e1 46 k (by omega)) (fun k => e1 48 k (by omega)) (xs (j + 1)) (xs (j + 2)) (xs (j + 3))
  refine dk_istore C dL_law_353 (by decide) rfl ?_
  refine dk_aload_n C dL_law_355 rfl rfl ?_
  refine dk_rload_n C dL_law_356 rfl rfl ?_
  refine dk_iload C dL_law_357 rfl ?_
  refine dk_iconst C (1) dL_law_359 rfl ?_
  refine dk_iadd C dL_law_360 ?_
  refine dk_sald C S3 (j + 1) (nI_add j 1) (by omega) (by omega) dL_law_361 ?_
  refine dk_rload_n C dL_law_362 rfl rfl ?_
  refine dk_iload C dL_law_363 rfl ?_
  refine dk_iconst C (2) dL_law_365 rfl ?_
  refine dk_iadd C dL_law_366 ?_
  refine dk_sald C S3 (j + 2) (nI_add j 2) (by omega) (by omega) dL_law_367 ?_
  refine dk_rload_n C dL_law_368 rfl rfl ?_
  refine dk_iload C dL_law_369 rfl ?_
  refine dk_iconst C (3) dL_law_371 rfl ?_
  refine dk_iadd C dL_law_372 ?_
  refine dk_sald C S3 (j + 3) (nI_add j 3) (by omega) (by omega) dL_law_373 ?_
  refine dk_rload_n C dL_law_374 rfl rfl ?_
  refine dk_iload C dL_law_375 rfl ?_
  refine dk_iconst C (4) dL_law_377 rfl ?_
  refine dk_iadd C dL_law_378 ?_
  refine dk_sald C S3 (j + 4) (nI_add j 4) (by omega) (by omega) dL_law_379 ?_
  refine ek_callVv C mL_68 (c_X8_update _ _ _ _ _ (fun j hj => by rw [e1 46 j (by omega)]; exact T.m4 j hj) (xs (j + 1)) (xs (j + 2)) (xs (j + 3)) (xs (j + 4))) rfl (by decide) rfl rfl (Nat.le_of_ble_eq_true rfl) (Nat.le_of_ble_eq_true rfl) (Nat.le_of_ble_eq_true rfl) h1c h1s dL_law_380 ?_
  refine dk_aload_n C dL_law_383 rfl rfl ?_
  refine ek_callV C mL_57 (c_X8_thrown _ _ _ _ _) rfl (by decide) rfl rfl (Nat.le_of_ble_eq_true rfl) (Nat.le_of_ble_eq_true rfl) (Nat.le_of_ble_eq_true rfl) h1c h1s dL_law_384 ?_
  refine dk_iload C dL_law_387 rfl ?_
  refine dk_icmp_eq C 394 dL_law_389 (by decide) (fun _ => ?_) (fun hz => absurd (upd_45 e2) hz)
  refine dk_goto C 1100 dL_law_394 (by decide) ?_
  exact K _ _ _ _ _ _ _ _ (upd_R h T e2) (Nat.le_refl _) (Nat.le_refl _)
set_option maxHeartbeats 8000000 in
set_option maxRecDepth 100000 in
theorem lw_cell {X : dk_X} {G : dk_G} {N : Nat} {xs : Nat → Int32} (C : dk_C X cL_law RL 8 (some .boolean) room_1 G) (XK : hx_K X) (S3 : lw_S X N xs) {j : Nat} (hj : j + 5 < N) (hN : N ≤ 384) {hi : Nat → Nat → Int32} {hf : Nat → Nat → UInt32} {sr : Nat → Option Nat} {z : (Nat → Nat → Int64) × (Nat → Nat → UInt64)} (h : rR hi hf sr) {a6 a7 : Option Value} {kc ks : Nat} (hkc : kc + 1 ≤ 600128) (hks : ks + 6 ≤ 7301098) (K : lw_K X j kc ks) : dk_W X 397 (lw_L j a6 a7) [] 63 (hi, hf, dk_RF sr, z) kc ks := by
  have hc0 : kc ≤ room_1.cells := by show kc ≤ 600128; omega
  have hs0 : ks ≤ room_1.slots := by show ks ≤ 7301098; omega
  have h1c : kc + 1 ≤ room_1.cells := hkc
  have h1s : ks + 6 ≤ room_1.slots := hks
  obtain ⟨ns, nc, nj, no, jt, hTs, hQ, hS, hM, hF⟩ := id h
  obtain ⟨nR, md, en, T⟩ := rT_fun hTs
  have T : rTT hi nR md en := T
  refine dk_aload_n C dL_law_397 rfl rfl ?_
  refine dk_rload_n C dL_law_398 rfl rfl ?_
  refine dk_iload C dL_law_399 rfl ?_
  refine dk_iconst C (1) dL_law_401 rfl ?_
  refine dk_iadd C dL_law_402 ?_
  refine dk_sald C S3 (j + 1) (nI_add j 1) (by omega) (by omega) dL_law_403 ?_
  refine dk_rload_n C dL_law_404 rfl rfl ?_
  refine dk_iload C dL_law_405 rfl ?_
  refine dk_iconst C (2) dL_law_407 rfl ?_
  refine dk_iadd C dL_law_408 ?_
  refine dk_sald C S3 (j + 2) (nI_add j 2) (by omega) (by omega) dL_law_409 ?_
  refine dk_rload_n C dL_law_410 rfl rfl ?_
  refine dk_iload C dL_law_411 rfl ?_
  refine dk_iconst C (3) dL_law_413 rfl ?_
  refine dk_iadd C dL_law_414 ?_
  refine dk_sald C S3 (j + 3) (nI_add j 3) (by omega) (by omega) dL_law_415 ?_
  refine dk_aload_n C dL_law_416 rfl rfl ?_
  refine hx_callS C XK hL_69 (c_L_cell _ _ _ _ _ T.T T.c4 (xs (j + 1)) (xs (j + 2)) (xs (j + 3))) rfl rfl (Nat.le_of_ble_eq_true rfl) ⟨Nat.le_of_ble_eq_true rfl, Nat.le_of_ble_eq_true rfl⟩ ⟨h1c, h1s⟩ dL_law_417 ?_
  rintro r' h' ⟨rfl, rfl⟩
  have e2 := cb_cases T (fun _ => rfl) (fun _ => rfl) (xs (j + 1)) (xs (j + 2)) (xs (j + 3))
  refine dk_istore C dL_law_420 (by decide) rfl ?_
  refine dk_aload_n C dL_law_422 rfl rfl ?_
  refine dk_rload_n C dL_law_423 rfl rfl ?_
  refine dk_iload C dL_law_424 rfl ?_
  refine dk_iconst C (1) dL_law_426 rfl ?_
  refine dk_iadd C dL_law_427 ?_
  refine dk_sald C S3 (j + 1) (nI_add j 1) (by omega) (by omega) dL_law_428 ?_
  refine dk_rload_n C dL_law_429 rfl rfl ?_
  refine dk_iload C dL_law_430 rfl ?_
  refine dk_iconst C (2) dL_law_432 rfl ?_
  refine dk_iadd C dL_law_433 ?_
  refine dk_sald C S3 (j + 2) (nI_add j 2) (by omega) (by omega) dL_law_434 ?_
  refine dk_rload_n C dL_law_435 rfl rfl ?_
  refine dk_iload C dL_law_436 rfl ?_
  refine dk_iconst C (3) dL_law_438 rfl ?_
  refine dk_iadd C dL_law_439 ?_
  refine dk_sald C S3 (j + 3) (nI_add j 3) (by omega) (by omega) dL_law_440 ?_
  refine ek_callV C mL_72 (c_X8_cell _ _ _ _ _ T.m4 (xs (j + 1)) (xs (j + 2)) (xs (j + 3))) rfl (by decide) rfl rfl (Nat.le_of_ble_eq_true rfl) (Nat.le_of_ble_eq_true rfl) (Nat.le_of_ble_eq_true rfl) h1c h1s dL_law_441 ?_
  refine dk_istore C dL_law_444 (by decide) rfl ?_
  refine dk_aload_n C dL_law_446 rfl rfl ?_
  refine ek_callV C mL_57 (c_X8_thrown _ _ _ _ _) rfl (by decide) rfl rfl (Nat.le_of_ble_eq_true rfl) (Nat.le_of_ble_eq_true rfl) (Nat.le_of_ble_eq_true rfl) h1c h1s dL_law_447 ?_
  refine dk_iload C dL_law_450 rfl ?_
  refine dk_icmp_eq C 457 dL_law_452 (by decide) (fun _ => ?_) (fun hz => absurd (cel_45 e2) hz)
  refine dk_iload C dL_law_457 rfl ?_
  refine dk_if_ne C 474 dL_law_459 (by decide) (fun q0 => ?_) (fun q0 => ?_)
  · skip
    refine dk_goto C 1100 dL_law_474 (by decide) ?_
    exact K _ _ _ _ _ _ _ _ (h.f0 _) (Nat.le_refl _) (Nat.le_refl _)
  · skip
    refine dk_aload_n C dL_law_462 rfl rfl ?_
    refine dk_iconst C (0) dL_law_463 rfl ?_
    refine dk_lald C (a := 61) (N := 1) (i := 0) rfl (by decide) vin0 dL_law_464 ?_
    refine dk_iload C dL_law_465 rfl ?_
    refine dk_i2l C dL_law_467 ?_
    refine dk_lcmp C dL_law_468 ?_
    refine dk_if_eq C 474 dL_law_469 (by decide) (fun _ => ?_) (fun hz => absurd (cel_v e2 q0) hz)
    refine dk_goto C 1100 dL_law_474 (by decide) ?_
    exact K _ _ _ _ _ _ _ _ (h.f0 _) (Nat.le_refl _) (Nat.le_refl _)
set_option maxHeartbeats 8000000 in
set_option maxRecDepth 100000 in
theorem lw_explain {X : dk_X} {G : dk_G} {N : Nat} {xs : Nat → Int32} (C : dk_C X cL_law RL 8 (some .boolean) room_1 G) (XK : hx_K X) (S3 : lw_S X N xs) {j : Nat} (hj : j + 5 < N) (hN : N ≤ 384) {hi : Nat → Nat → Int32} {hf : Nat → Nat → UInt32} {sr : Nat → Option Nat} {z : (Nat → Nat → Int64) × (Nat → Nat → UInt64)} (h : rR hi hf sr) {a6 a7 : Option Value} {kc ks : Nat} (hkc : kc + 1 ≤ 600128) (hks : ks + 6 ≤ 7301098) (K : lw_K X j kc ks) : dk_W X 914 (lw_L j a6 a7) [] 63 (hi, hf, dk_RF sr, z) kc ks := by
  have hc0 : kc ≤ room_1.cells := by show kc ≤ 600128; omega
  have hs0 : ks ≤ room_1.slots := by show ks ≤ 7301098; omega
  have h1c : kc + 1 ≤ room_1.cells := hkc
  have h1s : ks + 6 ≤ room_1.slots := hks
  obtain ⟨ns, nc, nj, no, jt, hTs, hQ, hS, hM, hF⟩ := id h
  obtain ⟨nR, md, en, T⟩ := rT_fun hTs
  have T : rTT hi nR md en := T
  refine dk_aload_n C dL_law_914 rfl rfl ?_
  refine dk_rload_n C dL_law_915 rfl rfl ?_
  refine dk_iload C dL_law_916 rfl ?_
  refine dk_iconst C (1) dL_law_918 rfl ?_
  refine dk_iadd C dL_law_919 ?_
  refine dk_sald C S3 (j + 1) (nI_add j 1) (by omega) (by omega) dL_law_920 ?_
  refine dk_rload_n C dL_law_921 rfl rfl ?_
  refine dk_iload C dL_law_922 rfl ?_
  refine dk_iconst C (2) dL_law_924 rfl ?_
  refine dk_iadd C dL_law_925 ?_
  refine dk_sald C S3 (j + 2) (nI_add j 2) (by omega) (by omega) dL_law_926 ?_
  refine dk_aload_n C dL_law_927 rfl rfl ?_
  refine hx_callS C XK hL_118 (c_L_explain _ _ _ _ _ ns hQ.1.1 hQ.1.2.2.1 (xs (j + 1)) (xs (j + 2))) rfl rfl (Nat.le_of_ble_eq_true rfl) ⟨Nat.le_of_ble_eq_true rfl, Nat.le_of_ble_eq_true rfl⟩ ⟨h1c, h1s⟩ dL_law_928 ?_
  rintro r' h' ⟨rfl, rfl⟩
  have e2 := ex_eq hQ hS (xs (j + 1)) (xs (j + 2))
  refine dk_istore C dL_law_931 (by decide) rfl ?_
  refine dk_aload_n C dL_law_933 rfl rfl ?_
  refine dk_rload_n C dL_law_934 rfl rfl ?_
  refine dk_iload C dL_law_935 rfl ?_
  refine dk_iconst C (1) dL_law_937 rfl ?_
  refine dk_iadd C dL_law_938 ?_
  refine dk_sald C S3 (j + 1) (nI_add j 1) (by omega) (by omega) dL_law_939 ?_
  refine dk_rload_n C dL_law_940 rfl rfl ?_
  refine dk_iload C dL_law_941 rfl ?_
  refine dk_iconst C (2) dL_law_943 rfl ?_
  refine dk_iadd C dL_law_944 ?_
  refine dk_sald C S3 (j + 2) (nI_add j 2) (by omega) (by omega) dL_law_945 ?_
  refine ek_callV C mL_121 (c_X8_explain _ _ _ _ _ ns hQ.1.2.1 hQ.1.2.2.1 (xs (j + 1)) (xs (j + 2))) rfl (by decide) rfl rfl (Nat.le_of_ble_eq_true rfl) (Nat.le_of_ble_eq_true rfl) (Nat.le_of_ble_eq_true rfl) h1c h1s dL_law_946 ?_
  refine dk_istore C dL_law_949 (by decide) rfl ?_
  refine dk_aload_n C dL_law_951 rfl rfl ?_
  refine ek_callV C mL_57 (c_X8_thrown _ _ _ _ _) rfl (by decide) rfl rfl (Nat.le_of_ble_eq_true rfl) (Nat.le_of_ble_eq_true rfl) (Nat.le_of_ble_eq_true rfl) h1c h1s dL_law_952 ?_
  refine dk_iload C dL_law_955 rfl ?_
  refine dk_icmp_eq C 962 dL_law_957 (by decide) (fun _ => ?_) (fun hz => absurd (exp_45 e2.1) hz)
  refine dk_iload C dL_law_962 rfl ?_
  refine dk_if_ne C 979 dL_law_964 (by decide) (fun q0 => ?_) (fun q0 => ?_)
  · skip
    refine dk_goto C 1100 dL_law_979 (by decide) ?_
    exact K _ _ _ _ _ _ _ _ (h.f0 _) (Nat.le_refl _) (Nat.le_refl _)
  · skip
    refine dk_aload_n C dL_law_967 rfl rfl ?_
    refine dk_iconst C (0) dL_law_968 rfl ?_
    refine dk_lald C (a := 61) (N := 1) (i := 0) rfl (by decide) vin0 dL_law_969 ?_
    refine dk_iload C dL_law_970 rfl ?_
    refine dk_i2l C dL_law_972 ?_
    refine dk_lcmp C dL_law_973 ?_
    refine dk_if_eq C 979 dL_law_974 (by decide) (fun _ => ?_) (fun hz => absurd (exp_v e2 q0) hz)
    refine dk_goto C 1100 dL_law_979 (by decide) ?_
    exact K _ _ _ _ _ _ _ _ (h.f0 _) (Nat.le_refl _) (Nat.le_refl _)
set_option maxHeartbeats 8000000 in
set_option maxRecDepth 100000 in
theorem lw_answer {X : dk_X} {G : dk_G} {N : Nat} {xs : Nat → Int32} (C : dk_C X cL_law RL 8 (some .boolean) room_1 G) (XK : hx_K X) (S3 : lw_S X N xs) {j : Nat} (hj : j + 5 < N) (hN : N ≤ 384) {hi : Nat → Nat → Int32} {hf : Nat → Nat → UInt32} {sr : Nat → Option Nat} {z : (Nat → Nat → Int64) × (Nat → Nat → UInt64)} (h : rR hi hf sr) {a6 a7 : Option Value} {kc ks : Nat} (hkc : kc + 1 ≤ 600128) (hks : ks + 6 ≤ 7301098) (K : lw_K X j kc ks) : dk_W X 1032 (lw_L j a6 a7) [] 63 (hi, hf, dk_RF sr, z) kc ks := by
  have hc0 : kc ≤ room_1.cells := by show kc ≤ 600128; omega
  have hs0 : ks ≤ room_1.slots := by show ks ≤ 7301098; omega
  have h1c : kc + 1 ≤ room_1.cells := hkc
  have h1s : ks + 6 ≤ room_1.slots := hks
  obtain ⟨ns, nc, nj, no, jt, hTs, hQ, hS, hM, hF⟩ := id h
  obtain ⟨nR, md, en, T⟩ := rT_fun hTs
  have T : rTT hi nR md en := T
  obtain ⟨a, R, rA1⟩ := hS.2.2.2.2
  obtain ⟨a', ha1, ha2⟩ := rA28 hQ rA1
  refine dk_aload_n C dL_law_1032 rfl rfl ?_
  refine dk_rload_n C dL_law_1033 rfl rfl ?_
  refine dk_iload C dL_law_1034 rfl ?_
  refine dk_iconst C (1) dL_law_1036 rfl ?_
  refine dk_iadd C dL_law_1037 ?_
  refine dk_sald C S3 (j + 1) (nI_add j 1) (by omega) (by omega) dL_law_1038 ?_
  refine dk_rload_n C dL_law_1039 rfl rfl ?_
  refine dk_iload C dL_law_1040 rfl ?_
  refine dk_iconst C (2) dL_law_1042 rfl ?_
  refine dk_iadd C dL_law_1043 ?_
  refine dk_sald C S3 (j + 2) (nI_add j 2) (by omega) (by omega) dL_law_1044 ?_
  refine dk_aload_n C dL_law_1045 rfl rfl ?_
  refine hx_callS C XK hL_130 (c_L_answer _ _ _ _ _ a no R rA1.1 rA1.2.1 rA1.2.2.1 hQ.2.2.2.1.1 hQ.2.2.2.1.2.2.1 (xs (j + 1)) (xs (j + 2))) rfl rfl (Nat.le_of_ble_eq_true rfl) ⟨Nat.le_of_ble_eq_true rfl, Nat.le_of_ble_eq_true rfl⟩ ⟨h1c, h1s⟩ dL_law_1046 ?_
  rintro r' h' ⟨rfl, rfl⟩
  have e2 := an_eq hQ hS.1 rA1 (xs (j + 1)) (xs (j + 2))
  refine dk_istore C dL_law_1049 (by decide) rfl ?_
  refine dk_aload_n C dL_law_1051 rfl rfl ?_
  refine dk_rload_n C dL_law_1052 rfl rfl ?_
  refine dk_iload C dL_law_1053 rfl ?_
  refine dk_iconst C (1) dL_law_1055 rfl ?_
  refine dk_iadd C dL_law_1056 ?_
  refine dk_sald C S3 (j + 1) (nI_add j 1) (by omega) (by omega) dL_law_1057 ?_
  refine dk_rload_n C dL_law_1058 rfl rfl ?_
  refine dk_iload C dL_law_1059 rfl ?_
  refine dk_iconst C (2) dL_law_1061 rfl ?_
  refine dk_iadd C dL_law_1062 ?_
  refine dk_sald C S3 (j + 2) (nI_add j 2) (by omega) (by omega) dL_law_1063 ?_
  refine ek_callV C mL_132 (c_X8_answer _ _ _ _ _ a' no ha1 ha2 hQ.2.2.2.1.2.1 hQ.2.2.2.1.2.2.1 (xs (j + 1)) (xs (j + 2))) rfl (by decide) rfl rfl (Nat.le_of_ble_eq_true rfl) (Nat.le_of_ble_eq_true rfl) (Nat.le_of_ble_eq_true rfl) h1c h1s dL_law_1064 ?_
  refine dk_istore C dL_law_1067 (by decide) rfl ?_
  refine dk_aload_n C dL_law_1069 rfl rfl ?_
  refine ek_callV C mL_57 (c_X8_thrown _ _ _ _ _) rfl (by decide) rfl rfl (Nat.le_of_ble_eq_true rfl) (Nat.le_of_ble_eq_true rfl) (Nat.le_of_ble_eq_true rfl) h1c h1s dL_law_1070 ?_
  refine dk_iload C dL_law_1073 rfl ?_
  refine dk_icmp_eq C 1080 dL_law_1075 (by decide) (fun _ => ?_) (fun hz => absurd (by rw [dk_up_same]; exact e2.1) hz)
  refine dk_iload C dL_law_1080 rfl ?_
  refine dk_if_ne C 1097 dL_law_1082 (by decide) (fun q0 => ?_) (fun q0 => ?_)
  · skip
    refine dk_goto C 1100 dL_law_1097 (by decide) ?_
    exact K _ _ _ _ _ _ _ _ (h.f0 _) (Nat.le_refl _) (Nat.le_refl _)
  · skip
    refine dk_aload_n C dL_law_1085 rfl rfl ?_
    refine dk_iconst C (0) dL_law_1086 rfl ?_
    refine dk_lald C (a := 61) (N := 1) (i := 0) rfl (by decide) vin0 dL_law_1087 ?_
    refine dk_iload C dL_law_1088 rfl ?_
    refine dk_i2l C dL_law_1090 ?_
    refine dk_lcmp C dL_law_1091 ?_
    refine dk_if_eq C 1097 dL_law_1092 (by decide) (fun _ => ?_) (fun hz => absurd (ans_v e2 q0) hz)
    refine dk_goto C 1100 dL_law_1097 (by decide) ?_
    exact K _ _ _ _ _ _ _ _ (h.f0 _) (Nat.le_refl _) (Nat.le_refl _)
set_option maxHeartbeats 8000000 in
set_option maxRecDepth 100000 in
theorem lw_plan {X : dk_X} {G : dk_G} {N : Nat} {xs : Nat → Int32} (C : dk_C X cL_law RL 8 (some .boolean) room_1 G) (XK : hx_K X) (S3 : lw_S X N xs) {j : Nat} (hj : j + 5 < N) (hN : N ≤ 384) {hi : Nat → Nat → Int32} {hf : Nat → Nat → UInt32} {sr : Nat → Option Nat} {z : (Nat → Nat → Int64) × (Nat → Nat → UInt64)} (h : rR hi hf sr) {a6 a7 : Option Value} {kc ks : Nat} (hkc : kc + 1 ≤ 600128) (hks : ks + 6 ≤ 7301098) (K : lw_K X j kc ks) : dk_W X 848 (lw_L j a6 a7) [] 63 (hi, hf, dk_RF sr, z) kc ks := by
  have hc0 : kc ≤ room_1.cells := by show kc ≤ 600128; omega
  have hs0 : ks ≤ room_1.slots := by show ks ≤ 7301098; omega
  have h1c : kc + 1 ≤ room_1.cells := hkc
  have h1s : ks + 6 ≤ room_1.slots := hks
  obtain ⟨ns, nc, nj, jt, q9, en, l, pq, pf, pop, pn, pg, pe, rest⟩ := op_plan h
  refine dk_aload_n C dL_law_848 rfl rfl ?_
  refine dk_aload C dL_law_849 rfl ?_
  refine hx_callS C XK hL_114 (c_L_plan _ _ _ _ _ pq pf l pop pn) rfl rfl (Nat.le_of_ble_eq_true rfl) ⟨Nat.le_of_ble_eq_true rfl, Nat.le_of_ble_eq_true rfl⟩ ⟨h1c, h1s⟩ dL_law_851 ?_
  rintro r' h' hp
  rcases hp with ⟨q, rfl, h4, w1, w2, rfl⟩ | ⟨q, rfl, rfl⟩
  · obtain ⟨g1, g2, g3, g4⟩ := rest q h4 w1 w2
    refine dk_istore C dL_law_854 (by decide) rfl ?_
    refine dk_aload_n C dL_law_856 rfl rfl ?_
    refine ek_callV C mL_117 (c_X8_plan _ _ _ _ _ g1) rfl (by decide) rfl rfl (Nat.le_of_ble_eq_true rfl) (Nat.le_of_ble_eq_true rfl) (Nat.le_of_ble_eq_true rfl) h1c h1s dL_law_857 ?_
    rw [if_pos g2, if_pos g2, g3]
    refine dk_fstore C dL_law_860 (by decide) rfl ?_
    refine dk_aload_n C dL_law_862 rfl rfl ?_
    refine ek_callV C mL_57 (c_X8_thrown _ _ _ _ _) rfl (by decide) rfl rfl (Nat.le_of_ble_eq_true rfl) (Nat.le_of_ble_eq_true rfl) (Nat.le_of_ble_eq_true rfl) h1c h1s dL_law_863 ?_
    refine dk_iload C dL_law_866 rfl ?_
    refine dk_icmp_eq C 873 dL_law_868 (by decide) (fun _ => ?_) (fun hz => absurd (mpl_0 _ _ _ _ _) hz)
    refine dk_iload C dL_law_873 rfl ?_
    refine dk_if_ne C 911 dL_law_875 (by decide) (fun q0 => absurd rfl q0) (fun _ => ?_)
    refine dk_aload C dL_law_878 rfl ?_
    refine dk_iconst C (0) dL_law_880 rfl ?_
    refine dk_dald C (a := 62) (N := 1) (i := 0) rfl (by decide) vin0 dL_law_881 ?_
    refine dk_fload C dL_law_882 rfl ?_
    refine dk_f2d C dL_law_884 (f2d_n pn) ?_
    refine dk_dcmp C dL_law_885 ?_
    refine dk_if_eq C 911 dL_law_886 (by decide) (fun _ => ?_) (fun hz => absurd (dc_self (f2d_n pn)) hz)
    refine dk_goto C 1100 dL_law_911 (by decide) ?_
    exact K _ _ _ _ _ _ _ _ (g4) (Nat.le_refl _) (Nat.le_refl _)
  · have g2 : ¬ mpl_ok hi = true := by rw [pe, q]; decide
    refine dk_istore C dL_law_854 (by decide) rfl ?_
    refine dk_aload_n C dL_law_856 rfl rfl ?_
    refine ek_callV C mL_117 (c_X8_plan _ _ _ _ _ pg) rfl (by decide) rfl rfl (Nat.le_of_ble_eq_true rfl) (Nat.le_of_ble_eq_true rfl) (Nat.le_of_ble_eq_true rfl) h1c h1s dL_law_857 ?_
    rw [if_neg g2, if_neg g2]
    refine dk_fstore C dL_law_860 (by decide) rfl ?_
    refine dk_aload_n C dL_law_862 rfl rfl ?_
    refine ek_callV C mL_57 (c_X8_thrown _ _ _ _ _) rfl (by decide) rfl rfl (Nat.le_of_ble_eq_true rfl) (Nat.le_of_ble_eq_true rfl) (Nat.le_of_ble_eq_true rfl) h1c h1s dL_law_863 ?_
    refine dk_iload C dL_law_866 rfl ?_
    refine dk_icmp_eq C 873 dL_law_868 (by decide) (fun _ => ?_) (fun hz => absurd (dk_up_same _ _ _ _) hz)
    refine dk_iload C dL_law_873 rfl ?_
    refine dk_if_ne C 911 dL_law_875 (by decide) (fun _ => ?_) (fun q0 => absurd q0 (by decide))
    refine dk_goto C 1100 dL_law_911 (by decide) ?_
    exact K _ _ _ _ _ _ _ _ (h.f0 _) (Nat.le_refl _) (Nat.le_refl _)
