/-! ===== the law's loop, and its beginning (by gen_loop.py) ===== -/
theorem and31 (x : Int32) : ∃ c, c < 32 ∧ x &&& 31 = nI c := by
  refine ⟨x.toBitVec.toNat % 32, Nat.mod_lt _ (by decide), ?_⟩
  apply Int32.toBitVec_inj.mp
  rw [Int32.toBitVec_and]
  apply BitVec.eq_of_toNat_eq
  rw [BitVec.toNat_and]
  show x.toBitVec.toNat &&& 31 = (BitVec.ofNat 32 (x.toBitVec.toNat % 32)).toNat
  rw [show (31 : Nat) = 2 ^ 5 - 1 from rfl, Nat.and_two_pow_sub_one_eq_mod, BitVec.toNat_ofNat]
  omega
theorem sub6 {N j : Nat} (hN : N ≤ 384) (hj : j ≤ 1000) : nI N - 6 < nI j ↔ N < j + 6 := by
  by_cases q : 6 ≤ N
  · rw [show (6 : Int32) = nI 6 from rfl, pk_sub q, nI_ltI (by omega) (by omega)]
    omega
  · refine ⟨fun _ => by omega, fun _ => ?_⟩
    refine Int32.lt_of_lt_of_le (b := 0) ?_ (nI_pos' (by omega))
    rcases (by omega : N = 0 ∨ N = 1 ∨ N = 2 ∨ N = 3 ∨ N = 4 ∨ N = 5) with rfl | rfl | rfl | rfl | rfl | rfl <;> decide
set_option maxHeartbeats 8000000 in
set_option maxRecDepth 100000 in
theorem lw_loop {X : dk_X} {G : dk_G} {N : Nat} {xs : Nat → Int32} (C : dk_C X cL_law RL 8 (some .boolean) room_1 G) (XK : hx_K X) (S3 : lw_S X N xs) (hN : N ≤ 384) (E : ∀ (L : List (Option Value)) (h : dk_H) (kc ks : Nat), kc ≤ 600128 → ks ≤ 7301098 → dk_W X 1106 L [] 63 h kc ks) :
    ∀ (f j : Nat) (hi : Nat → Nat → Int32) (hf : Nat → Nat → UInt32) (sr : Nat → Option Nat) (z : (Nat → Nat → Int64) × (Nat → Nat → UInt64)) (a6 a7 : Option Value) (kc ks : Nat), N < j + 6 * (f + 1) → j ≤ 390 → rR hi hf sr → kc + f ≤ 600128 → ks + 6 * f ≤ 7301098 → dk_W X 28 (lw_L j a6 a7) [] 63 (hi, hf, dk_RF sr, z) kc ks := by
  intro f
  induction f with
  | zero =>
    intro j hi hf sr z a6 a7 kc ks h1 hj h hkc hks
    refine dk_iload C dL_law_28 rfl ?_
    refine dk_rload_n C dL_law_30 rfl rfl ?_
    refine dk_slen C S3 dL_law_31 ?_
    refine dk_bipush C (6) dL_law_32 rfl ?_
    refine dk_isub C dL_law_34 ?_
    exact dk_icmp_gt C 1106 dL_law_35 (by decide) (fun _ => E _ _ _ _ (by omega) (by omega)) (fun y => absurd ((sub6 hN (by omega)).mpr (by omega)) y)
  | succ f ih =>
    intro j hi hf sr z a6 a7 kc ks h1 hj h hkc hks
    refine dk_iload C dL_law_28 rfl ?_
    refine dk_rload_n C dL_law_30 rfl rfl ?_
    refine dk_slen C S3 dL_law_31 ?_
    refine dk_bipush C (6) dL_law_32 rfl ?_
    refine dk_isub C dL_law_34 ?_
    refine dk_icmp_gt C 1106 dL_law_35 (by decide) (fun _ => E _ _ _ _ (by omega) (by omega)) (fun y => ?_)
    have hj5 : j + 6 ≤ N := Nat.not_lt.mp (fun z => y ((sub6 hN (by omega)).mpr z))
    have K : lw_K X j kc ks := by
      intro hi2 hf2 sr2 z2 b6 b7 kc2 ks2 h2 g1 g2
      refine dk_iinc C (nI (j + 6)) dL_law_1100 rfl (nI_add j 6) (by decide) rfl ?_
      refine dk_goto C 28 dL_law_1103 (by decide) ?_
      exact ih (j + 6) hi2 hf2 sr2 z2 b6 b7 kc2 ks2 (by omega) (by omega) h2 (by omega) (by omega)
    refine dk_rload_n C dL_law_38 rfl rfl ?_
    refine dk_iload C dL_law_39 rfl ?_
    refine dk_sald C S3 j rfl (by omega) (by omega) dL_law_41 ?_
    refine dk_bipush C (31) dL_law_42 rfl ?_
    refine dk_iand C dL_law_44 ?_
    obtain ⟨c, hc, ec⟩ := and31 (xs j)
    rw [ec]
    have hk1 : kc + 1 ≤ 600128 := by omega
    have hk2 : ks + 6 ≤ 7301098 := by omega
    have hjj : j + 5 < N := by omega
    rcases (show c = 0 ∨ c = 1 ∨ c = 2 ∨ c = 3 ∨ c = 4 ∨ c = 5 ∨ c = 6 ∨ c = 7 ∨ c = 8 ∨ c = 9 ∨ c = 10 ∨ c = 11 ∨ c = 12 ∨ c = 13 ∨ c = 14 ∨ c = 15 ∨ c = 16 ∨ c = 17 ∨ c = 18 ∨ 19 ≤ c by omega) with rfl | rfl | rfl | rfl | rfl | rfl | rfl | rfl | rfl | rfl | rfl | rfl | rfl | rfl | rfl | rfl | rfl | rfl | rfl | h19
    · exact dk_tableIn C 136 dL_law_45 (by decide) (by decide) rfl (by decide) (lw_create C XK S3 hjj hN h hk1 hk2 K)
    · exact dk_tableIn C 173 dL_law_45 (by decide) (by decide) rfl (by decide) (lw_insert C XK S3 hjj hN h hk1 hk2 K)
    · exact dk_tableIn C 277 dL_law_45 (by decide) (by decide) rfl (by decide) (lw_delete C XK S3 hjj hN h hk1 hk2 K)
    · exact dk_tableIn C 325 dL_law_45 (by decide) (by decide) rfl (by decide) (lw_update C XK S3 hjj hN h hk1 hk2 K)
    · exact dk_tableIn C 397 dL_law_45 (by decide) (by decide) rfl (by decide) (lw_cell C XK S3 hjj hN h hk1 hk2 K)
    · exact dk_tableIn C 477 dL_law_45 (by decide) (by decide) rfl (by decide) (lw_index C XK S3 hjj hN h hk1 hk2 K)
    · exact dk_tableIn C 526 dL_law_45 (by decide) (by decide) rfl (by decide) (lw_drop C XK S3 hjj hN h hk1 hk2 K)
    · exact dk_tableIn C 575 dL_law_45 (by decide) (by decide) rfl (by decide) (lw_ask C XK S3 hjj hN h hk1 hk2 K)
    · exact dk_tableIn C 586 dL_law_45 (by decide) (by decide) rfl (by decide) (lw_from C XK S3 hjj hN h hk1 hk2 K)
    · exact dk_tableIn C 611 dL_law_45 (by decide) (by decide) rfl (by decide) (lw_where C XK S3 hjj hN h hk1 hk2 K)
    · exact dk_tableIn C 672 dL_law_45 (by decide) (by decide) rfl (by decide) (lw_join C XK S3 hjj hN h hk1 hk2 K)
    · exact dk_tableIn C 733 dL_law_45 (by decide) (by decide) rfl (by decide) (lw_select C XK S3 hjj hN h hk1 hk2 K)
    · exact dk_tableIn C 770 dL_law_45 (by decide) (by decide) rfl (by decide) (lw_order C XK S3 hjj hN h hk1 hk2 K)
    · exact dk_tableIn C 823 dL_law_45 (by decide) (by decide) rfl (by decide) (lw_limit C XK S3 hjj hN h hk1 hk2 K)
    · exact dk_tableIn C 848 dL_law_45 (by decide) (by decide) rfl (by decide) (lw_plan C XK S3 hjj hN h hk1 hk2 K)
    · exact dk_tableIn C 914 dL_law_45 (by decide) (by decide) rfl (by decide) (lw_explain C XK S3 hjj hN h hk1 hk2 K)
    · exact dk_tableIn C 982 dL_law_45 (by decide) (by decide) rfl (by decide) (lw_run C XK S3 hjj hN h hk1 hk2 K)
    · exact dk_tableIn C 1007 dL_law_45 (by decide) (by decide) rfl (by decide) (lw_look C XK S3 hjj hN h hk1 hk2 K)
    · exact dk_tableIn C 1032 dL_law_45 (by decide) (by decide) rfl (by decide) (lw_answer C XK S3 hjj hN h hk1 hk2 K)
    · refine dk_tableOut C 1100 dL_law_45 (Or.inr (by rw [nI_toInt (by omega)]; omega)) (by decide) ?_
      exact K _ _ _ _ _ _ _ _ h (Nat.le_succ _) (Nat.le_add_right _ _)
theorem dk_rv_tt (l : Launch) (ci : Nat → ClassId) (sl : Nat → Nat → Nat) (cT : Nat → ClassId) (H0 : Heap) (sa : Nat → Nat) : dk_rv (l, ci, sl, cT, H0, sa, false) = dk_rv (l, ci, sl, cT, H0, sa, true) := by
  funext v
  cases v <;> rfl
theorem dk_pr_tt {l : Launch} {ci : Nat → ClassId} {sl : Nat → Nat → Nat} {cT : Nat → ClassId} {H0 : Heap} {sa : Nat → Nat} : ∀ (L : List (Option Value)) (k : Nat), dk_pr (l, ci, sl, cT, H0, sa, false) k L = dk_pr (l, ci, sl, cT, H0, sa, true) k L
  | [], k => rfl
  | none :: L, k => by rw [dk_pr, dk_pr, dk_pr_tt L]
  | some v :: L, k => by rw [dk_pr, dk_pr, dk_pr_tt L, dk_rv_tt]
/-- after the constructors nothing is said any more of what else was made -/
theorem dk_loose {p : Program} {e : Env} {R : Room} {s : State} {m : MethodId} {args : Array Value} {below : List Frame} {meth : Method} {c : Code} {Q : State → Prop} {l : Launch} {ci : Nat → ClassId} {sl : Nat → Nat → Nat} {cT : Nat → ClassId} {H0 : Heap} {sa : Nat → Nat} {pc n kc ks : Nat} {L : List (Option Value)} {S : List Value} {h : dk_H} (k : dk_W (p, e, R, s, m, args, below, meth, c, Q, (l, ci, sl, cT, H0, sa, false)) pc L S n h kc ks) : dk_W (p, e, R, s, m, args, below, meth, c, Q, (l, ci, sl, cT, H0, sa, true)) pc L S n h kc ks :=
  fun H locs ls hR hf hl => by
    have e := k H locs ls ⟨fun y => (nomatch y), hR.2.1, hR.2.2.1, hR.2.2.2⟩ hf (by rw [dk_pr_tt]; exact hl)
    rw [dk_rv_tt] at e
    exact e
abbrev k0I : Nat → Nat → Int32 := fun _ _ => 0
abbrev k0F : Nat → Nat → UInt32 := fun _ _ => 0
abbrev k0R : Nat → Nat → Option Nat := fun _ _ => none
abbrev k0Z : (Nat → Nat → Int64) × (Nat → Nat → UInt64) := (fun _ _ => 0, fun _ _ => 0)
theorem k0_def (i : Nat) : dk_def (k0I, k0F, k0R, k0Z) i := fun _ => ⟨rfl, rfl, rfl, rfl, rfl⟩
theorem k1_def {i : Nat} (h : 45 ≤ i) : dk_def (kIX7_0 k0I, k0F, kRX7_0 k0R, k0Z) i := fun k => by
  refine ⟨?_, rfl, ?_, rfl, rfl⟩
  · show kIX7_0 k0I i k = 0
    simp (disch := omega) only [kIX7_0, kIX6_38, kIX3_30, kIX4_14, kIX5_10, kIX5_6, kIX5_2, dk_up_ne]
  · show kRX7_0 k0R i k = none
    simp (disch := omega) only [kRX7_0, kRX6_38, kRX3_30, kRX4_14, kRX5_10, kRX5_6, kRX5_2, dk_up_ne]
theorem k2_def {i : Nat} (h : 46 ≤ i) : dk_def (kIX8_45 (kIX7_0 k0I), k0F, kRX8_45 (kRX7_0 k0R), k0Z) i := fun k => by
  obtain ⟨h1, _, h3, _⟩ := k1_def (i := i) (by omega) k
  refine ⟨?_, rfl, ?_, rfl, rfl⟩
  · show kIX8_45 (kIX7_0 k0I) i k = 0
    have h1 : kIX7_0 k0I i k = 0 := h1
    simp (disch := omega) only [kIX8_45, md_empty, dk_up_ne]
    exact h1
  · show kRX8_45 (kRX7_0 k0R) i k = none
    have h3 : kRX7_0 k0R i k = none := h3
    simp (disch := omega) only [kRX8_45, dk_up_ne]
    exact h3
theorem k_RF_lo : ∀ a, a < 46 → ∀ k, k < 30 → kRX8_45 (kRX7_0 k0R) a k = dk_RF (fun _ => none) a k := by decide +kernel
theorem dk_l_out {l : List Nat} {k : Nat} (h : l.length ≤ k) : dk_l l k = none := by
  unfold dk_l
  rw [List.getD_eq_getElem?_getD, List.getElem?_eq_none (by rw [List.length_map]; exact h)]; rfl
theorem k_RF : kRX8_45 (kRX7_0 k0R) = dk_RF (fun _ => none) := by
  funext a k
  by_cases ha : a < 46
  · by_cases hk : k < 30
    · exact k_RF_lo a ha k hk
    · have e1 : kRX8_45 (kRX7_0 k0R) a k = none := by
        simp (disch := omega) only [kRX8_45, kRX7_0, kRX6_38, kRX3_30, kRX4_14, kRX5_10, kRX5_6, kRX5_2, dk_up_ne]
      rw [e1]
      unfold dk_RF
      split
      · exact (dk_l_out (by simp; omega)).symm
      · exact (dk_l_out (by simp; omega)).symm
      · exact (dk_l_out (by simp; omega)).symm
      · exact (dk_l_out (by simp; omega)).symm
      · exact (dk_l_out (by simp; omega)).symm
      · exact (dk_l_out (by simp; omega)).symm
      · rfl
      · exact (dk_l_out (by simp; omega)).symm
      · exact (dk_l_out (by simp; omega)).symm
      · exact (dk_l_out (by simp; omega)).symm
      · exact (dk_l_out (by simp; omega)).symm
      · exact (dk_l_out (by simp; omega)).symm
      · rw [List.getD_eq_getElem?_getD, List.getElem?_eq_none (by simp; omega)]; rfl
      · rfl
  · rw [show kRX8_45 (kRX7_0 k0R) a k = none from (k2_def (i := a) (by omega) k).2.2.1]
    unfold dk_RF
    split <;> first | (exfalso; omega) | rfl
theorem k_R : rR (kIX8_45 (kIX7_0 k0I)) k0F (fun _ => none) := by
  have zz : ∀ i k, ¬ (i = 14 ∧ (k = 8 ∨ k = 10)) → ¬ (i = 38 ∧ k = 8) → ¬ (i = 45 ∧ (k = 15 ∨ k = 17)) → kIX8_45 (kIX7_0 k0I) i k = 0 := fun i k y1 y2 y3 => by
    by_cases q : i = 45
    · subst q
      unfold kIX8_45 md_empty dk_up
      repeat' split
      all_goals first | rfl | (exfalso; omega) | exact (k1_def (i := 45) (by omega) k).1
    · simp (disch := omega) only [kIX8_45, md_empty, dk_up_ne]
      by_cases q1 : i = 14 ∨ i = 38
      · simp (disch := omega) only [kIX7_0, kIX6_38, kIX3_30, kIX4_14, kIX5_10, kIX5_6, kIX5_2, dk_up_ne]
      · by_cases q2 : (i = 0 ∧ k = 4) ∨ ((i = 2 ∨ i = 6 ∨ i = 10) ∧ (k = 3 ∨ k = 4 ∨ k = 5))
        · rcases q2 with ⟨rfl, rfl⟩ | ⟨rfl | rfl | rfl, rfl | rfl | rfl⟩ <;> simp (disch := omega) only [kIX7_0, kIX6_38, kIX3_30, kIX4_14, kIX5_10, kIX5_6, kIX5_2, dk_up_ne, dk_up_same]
        · simp (disch := omega) only [kIX7_0, kIX6_38, kIX3_30, kIX4_14, kIX5_10, kIX5_6, kIX5_2, dk_up_ne]
  have g15 : kIX8_45 (kIX7_0 k0I) 45 15 = -1 := by simp (disch := omega) only [kIX8_45, md_empty, dk_up_ne, dk_up_same]
  have g17 : kIX8_45 (kIX7_0 k0I) 45 17 = 64 := by simp (disch := omega) only [kIX8_45, md_empty, dk_up_ne, dk_up_same]
  have h8 : kIX8_45 (kIX7_0 k0I) 14 8 = -1 := by simp (disch := omega) only [kIX8_45, md_empty, kIX7_0, kIX6_38, kIX3_30, kIX4_14, dk_up_ne, dk_up_same]
  have h10 : kIX8_45 (kIX7_0 k0I) 14 10 = 64 := by simp (disch := omega) only [kIX8_45, md_empty, kIX7_0, kIX6_38, kIX3_30, kIX4_14, dk_up_ne, dk_up_same]
  have z0 := fun i k a b c => zz i k a b c
  refine ⟨0, 0, 0, 0, fun _ => 0, fun j hj => ⟨0, 0, fun _ => 0, ⟨?_, ?_, ?_⟩, ⟨?_, ?_, ?_, by omega⟩, ⟨fun p q _ hq => absurd hq (by omega), fun p hp => absurd hp (by omega), fun r hr => ?_, by omega⟩, fun p hp => absurd hp (by omega), fun p c hp => absurd hp (by omega), fun c k hc hk => ?_⟩, beg_Q _ (zz _ _ (by omega) (by omega) (by omega)) (zz _ _ (by omega) (by omega) (by omega)) (zz _ _ (by omega) (by omega) (by omega)) (zz _ _ (by omega) (by omega) (by omega)) h8 (zz _ _ (by omega) (by omega) (by omega)) h10 (zz _ _ (by omega) (by omega) (by omega)) (zz _ _ (by omega) (by omega) (by omega)) (zz _ _ (by omega) (by omega) (by omega)) (zz _ _ (by omega) (by omega) (by omega)) g15 (zz _ _ (by omega) (by omega) (by omega)) g17, beg_S (zz _ _ (by omega) (by omega) (by omega)) (zz _ _ (by omega) (by omega) (by omega)) (zz _ _ (by omega) (by omega) (by omega)) (zz _ _ (by omega) (by omega) (by omega)) (zz _ _ (by omega) (by omega) (by omega)) (zz _ _ (by omega) (by omega) (by omega)) ⟨fun _ => 0, fun s hs => ⟨zz _ _ (by omega) (by omega) (by omega), by show 0 < 24; omega⟩⟩, ⟨fun _ => ⟨zz _ _ (by omega) (by omega) (by omega), zz _ _ (by omega) (by omega) (by omega)⟩, fun y => absurd ((zz 45 6 (by omega) (by omega) (by omega)).symm.trans y) (by decide)⟩, ?_⟩
  · rw [zz _ _ (by omega) (by omega) (by omega), zz _ _ (by omega) (by omega) (by omega)]
  · rw [zz _ _ (by omega) (by omega) (by omega)]; decide
  · rw [zz _ _ (by omega) (by omega) (by omega)]; decide
  · exact zz _ _ (by omega) (by omega) (by omega)
  · exact zz _ _ (by omega) (by omega) (by omega)
  · exact zz _ _ (by omega) (by omega) (by omega)
  · rw [zz _ _ (by omega) (by omega) (by omega)]
    exact ⟨fun x => absurd rfl x, fun ⟨p, hp, _⟩ => absurd hp (by omega)⟩
  · rw [zz _ _ (by omega) (by omega) (by omega), zz _ _ (by omega) (by omega) (by omega)]
    exact ⟨rfl, Or.inl rfl⟩
  · have f0 : fb 131 (0 : UInt32) := by unfold fb; decide
    exact ⟨fun _ _ => f0, fun _ _ => f0, fun _ _ => f0⟩
set_option maxHeartbeats 8000000 in
set_option maxRecDepth 100000 in
theorem lw_all {p : Program} {e : Env} {s : State} {m : MethodId} {args : Array Value} {below : List Frame} {meth : Method} {c : Code} {Q : State → Prop} {l : Launch} {ci : Nat → ClassId} {sl : Nat → Nat → Nat} {cT : Nat → ClassId} {H0 : Heap} {sa : Nat → Nat} {N : Nat} {xs : Nat → Int32}
    (C : dk_C (p, e, room_1, s, m, args, below, meth, c, Q, (l, ci, sl, cT, H0, sa, true)) cL_law RL 8 (some .boolean) room_1 (l, ci, sl, cT, H0, sa, true)) (XK : dk_XK (l, ci, sl, cT, H0, sa, false) s) (S3 : va_X (sa 3) N xs s H0 ∧ sa 3 < H0.size) (hN : N ≤ 384)
    (E : ∀ (L : List (Option Value)) (h : dk_H) (kc ks : Nat), kc ≤ 600128 → ks ≤ 7301098 → dk_W (p, e, room_1, s, m, args, below, meth, c, Q, (l, ci, sl, cT, H0, sa, false)) 1106 L [] 63 h kc ks) :
    dk_W (p, e, room_1, s, m, args, below, meth, c, Q, (l, ci, sl, cT, H0, sa, true)) 0 [some (.retAddr 3), none, none, none, none, none, none, none] [] 0 (k0I, k0F, k0R, k0Z) 0 0 := by
  refine dk_new C rfl (ci := 7) mkL_8 rfl (k0_def 0) (by decide) (by decide) dL_law_0 ?_
  refine dk_dup C dL_law_3 rfl ?_
  refine dk_callI C mL_42 (c_X7_init_0 _ rfl _ _ _ _ (k0_def 1) (k0_def 2) (k0_def 3) (k0_def 4) (k0_def 5) (k0_def 6) (k0_def 7) (k0_def 8) (k0_def 9) (k0_def 10) (k0_def 11) (k0_def 12) (k0_def 13) (k0_def 14) (k0_def 15) (k0_def 16) (k0_def 17) (k0_def 18) (k0_def 19) (k0_def 20) (k0_def 21) (k0_def 22) (k0_def 23) (k0_def 24) (k0_def 25) (k0_def 26) (k0_def 27) (k0_def 28) (k0_def 29) (k0_def 30) (k0_def 31) (k0_def 32) (k0_def 33) (k0_def 34) (k0_def 35) (k0_def 36) (k0_def 37) (k0_def 38) (k0_def 39) (k0_def 40) (k0_def 41) (k0_def 42) (k0_def 43) (k0_def 44)) rfl rfl (Nat.le_of_ble_eq_true rfl) ⟨by decide, by decide⟩ ⟨by decide, by decide⟩ dL_law_4 ?_
  rintro r' h' ⟨rfl, rfl⟩
  refine dk_astore_n C dL_law_7 rfl (by decide) rfl ?_
  refine dk_new C rfl (ci := 8) mkL_43 rfl (k1_def (by decide)) (by decide) (by decide) dL_law_8 ?_
  refine dk_dup C dL_law_11 rfl ?_
  refine dk_callI C mL_45 (c_X8_init_45 _ rfl _ _ _ _ (k1_def (by decide)) (k1_def (by decide)) (k1_def (by decide)) (k1_def (by decide)) (k1_def (by decide)) (k1_def (by decide)) (k1_def (by decide)) (k1_def (by decide)) (k1_def (by decide)) (k1_def (by decide)) (k1_def (by decide)) (k1_def (by decide)) (k1_def (by decide)) (k1_def (by decide)) (k1_def (by decide))) rfl rfl (Nat.le_of_ble_eq_true rfl) ⟨by decide, by decide⟩ ⟨by decide, by decide⟩ dL_law_12 ?_
  rintro r' h' ⟨rfl, rfl⟩
  refine dk_astore_n C dL_law_15 rfl (by decide) rfl ?_
  refine dk_iconst C (1) dL_law_16 rfl ?_
  refine dk_newa C rfl (t := 3) (N := 1) (atype := .long) (by decide) rfl ar_long rfl (k2_def (by decide)) (by decide) rfl (by decide) (by decide) (by decide) dL_law_17 ?_
  refine dk_astore_n C dL_law_19 rfl (by decide) rfl ?_
  refine dk_iconst C (1) dL_law_20 rfl ?_
  refine dk_newa C rfl (t := 4) (N := 1) (atype := .double) (by decide) rfl ar_double rfl (k2_def (by decide)) (by decide) rfl (by decide) (by decide) (by decide) dL_law_21 ?_
  refine dk_astore C dL_law_23 (by decide) rfl ?_
  refine dk_iconst C (0) dL_law_25 rfl ?_
  refine dk_istore C dL_law_26 (by decide) rfl ?_
  rw [k_RF]
  refine dk_loose ?_
  have C2 : dk_C (p, e, room_1, s, m, args, below, meth, c, Q, (l, ci, sl, cT, H0, sa, false)) cL_law RL 8 (some .boolean) room_1 (l, ci, sl, cT, H0, sa, false) := by
    obtain ⟨c1, c2, c3, c4, c5, c6, c7, c8, c9, c10⟩ := C
    exact ⟨c1, c2, c3, c4, c5, c6, c7, c8, rfl, c10⟩
  exact lw_loop C2 XK S3 hN E 64 0 _ _ _ _ none none _ _ (by omega) (by omega) k_R (by decide) (by decide)
