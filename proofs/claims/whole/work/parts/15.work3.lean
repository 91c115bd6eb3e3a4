theorem dk_forgetAt {X : dk_X} {pc : Nat} {L : List (Option Value)} {S : List Value} {n : Nat} {h : dk_H} {kc ks : Nat} (k : Nat) (hk : dk_W X pc (L.set k none) S n h kc ks) : dk_W X pc L S n h kc ks := by
  obtain ⟨p, e, R, s, m, args, below, meth, c, Q, G'⟩ := X
  intro H locs ls hR hf hl
  refine hk H locs ls hR hf ⟨hl.1, hl.2.1, fun q hq => ?_⟩
  obtain ⟨j, w, h1, rfl⟩ := (dk_pr_mem _ 0 q).mp hq
  refine hl.2.2 _ ((dk_pr_mem L 0 _).mpr ⟨j, w, ?_, rfl⟩)
  by_cases e9 : j = k
  · subst e9
    have hlt : j < L.length := by
      have := (List.getElem?_eq_some_iff.mp h1).1
      simpa using this
    rw [List.getElem?_set_self hlt] at h1
    cases h1
  · rw [List.getElem?_set_ne (Ne.symm e9)] at h1
    exact h1
set_option maxHeartbeats 4000000 in
set_option maxRecDepth 100000 in
theorem c_X6_openByJoin (G : dk_G) (sr : Nat → Option Nat) (hi : Nat → Nat → Int32) (hf : Nat → Nat → UInt32) (z : (Nat → Nat → Int64) × (Nat → Nat → UInt64)) {ts tp c : Nat} (Ts : dk_T ts) (Tp : dk_T tp) (Q : dk_Q1 c) (s pt cs cp rp p d : Nat) (l : List Nat) (hs : sr s = some ts) (hs' : s < 3) (hpt : sr pt = some tp) (hpt' : pt < 3)
    (h1 : (if hi c 0 = nI s then hi c 2 else hi c 0) = nI pt) (h2 : (if hi c 0 = nI s then hi c 1 else hi c 3) = nI cs) (h3 : (if hi c 0 = nI pt then hi c 1 else hi c 3) = nI cp) (hcs : cs < 4) (hcp : cp < 4) (hrp : hi 42 pt = nI rp) (hrp' : rp < 24) (hp : p < 24) (hd : hi 38 8 = nI d) (hd' : d < 3) (hl : wk_L hi d l) (hl' : l.length < 24) (f : Nat → Int32) :
    dk_M G yX6_openByJoin cX6_openByJoin 7 none { frames := 2, cells := 0, slots := 0, locals := 45 } [.ref 38, .ref 14, .ref c, .int (nI s), .int (nI p)] 63 (hi, hf, dk_RF sr, z) 63 (wk_Po hi hf sr z d (op_1 (fun q => decide (tb_c hi ts cs q = tb_c hi tp cp rp)) false f p l)) := by
  refine dk_met (L := [some (.ref 38), some (.ref 14), some (.ref c), some (.int (nI s)), some (.int (nI p)), none, none]) pnX6 rfl (Nat.le_of_ble_eq_true rfl) ?_
  intro X C E hNm
  refine dk_aload_n C dX6_openByJoin_0 rfl rfl ?_
  refine dk_iload_n C dX6_openByJoin_1 rfl rfl ?_
  refine ek_callV C mX6_158 (c_X1_partnerOf _ _ _ _ _ Q (nI s)) Q.s0 Q.l0 rfl rfl (Nat.le_of_ble_eq_true rfl) (by decide) (by decide) (Nat.zero_le _) (Nat.zero_le _) dX6_openByJoin_2 ?_
  rw [h1]
  refine dk_istore C dX6_openByJoin_5 (by decide) rfl ?_
  refine dk_aload_n C dX6_openByJoin_7 rfl rfl ?_
  refine dk_aload_n C dX6_openByJoin_8 rfl rfl ?_
  refine dk_iload C dX6_openByJoin_9 rfl ?_
  refine dk_aload_n C dX6_openByJoin_11 rfl rfl ?_
  refine dk_iload C dX6_openByJoin_12 rfl ?_
  refine ek_callV C mX6_162 (c_X1_columnOf _ _ _ _ _ Q (nI pt)) Q.s0 Q.l0 rfl rfl (Nat.le_of_ble_eq_true rfl) (by decide) (by decide) (Nat.zero_le _) (Nat.zero_le _) dX6_openByJoin_14 ?_
  rw [h3]
  refine ek_callV C mX6_89 (c_X6_readValue _ _ _ _ _ pt cp rp Tp hpt hpt' hcp hrp hrp') rfl (by decide) rfl rfl (Nat.le_of_ble_eq_true rfl) (by decide) (by decide) (Nat.zero_le _) (Nat.zero_le _) dX6_openByJoin_17 ?_
  refine dk_istore C dX6_openByJoin_20 (by decide) rfl ?_
  refine dk_aload_n C dX6_openByJoin_22 rfl rfl ?_
  refine ek_getR C fX6_122 rfl (by decide) rfl 15 rfl dX6_openByJoin_23 ?_
  refine dk_iload_n C dX6_openByJoin_26 rfl rfl ?_
  refine ek_aald C rfl (by decide) (by decide) (s) (rfl) (hs') (by decide) ts (hs) dX6_openByJoin_27 ?_
  refine dk_iload C dX6_openByJoin_28 rfl ?_
  refine dk_aload_n C dX6_openByJoin_30 rfl rfl ?_
  refine dk_iload_n C dX6_openByJoin_31 rfl rfl ?_
  refine ek_callV C mX6_162 (c_X1_columnOf _ _ _ _ _ Q (nI s)) Q.s0 Q.l0 rfl rfl (Nat.le_of_ble_eq_true rfl) (by decide) (by decide) (Nat.zero_le _) (Nat.zero_le _) dX6_openByJoin_32 ?_
  rw [h2]
  refine ek_callV C mX6_126 (c_X5_value _ _ _ _ _ Ts p cs hp hcs) Ts.s0 Ts.l0 rfl rfl (Nat.le_of_ble_eq_true rfl) (by decide) (by decide) (Nat.zero_le _) (Nat.zero_le _) dX6_openByJoin_35 ?_
  refine dk_iload C dX6_openByJoin_38 rfl ?_
  refine dk_icmp_ne C 49 dX6_openByJoin_40 (by decide) (fun c1 => ?_) (fun c1 => ?_)
  · exact dk_vret C E dX6_openByJoin_49 (Nat.zero_le _) (Nat.zero_le _) (⟨rfl, hi, wk_F.refl hi d, by rw [op_1, if_neg (by simpa using c1)]; exact hl, rfl⟩)
  · obtain ⟨a1, a2⟩ := wk_add_L hl hl' hp
    refine dk_aload_n C dX6_openByJoin_43 rfl rfl ?_
    refine dk_iload C dX6_openByJoin_44 rfl ?_
    refine ek_callVv C mX6_150 (c_X6_addPlace _ _ _ _ _ d l.length (nI p) hd hd' hl.1 hl') rfl (by decide) rfl rfl (Nat.le_of_ble_eq_true rfl) (by decide) (by decide) (Nat.zero_le _) (Nat.zero_le _) dX6_openByJoin_46 ?_
    exact dk_vret C E dX6_openByJoin_49 (Nat.zero_le _) (Nat.zero_le _) (⟨rfl, _, a2, by rw [op_1, if_pos (by simpa using c1), if_neg (by decide)]; exact a1, rfl⟩)
/-- what the way of the k-th source of the plan (source s, table t) leads to -/
def op_W (hi : Nat → Nat → Int32) (sr : Nat → Option Nat) (k s t : Nat) (P : Nat → Bool) (srt : Bool) (f : Nat → Int32) : Prop :=
  (∃ wc col o, wc < 4 ∧ col < 4 ∧ o < 4 ∧ hi 36 k = nI wc ∧ hi (17 + wc) 1 = nI col ∧ hi (17 + wc) 2 = nI o ∧ P = (fun q => cn_b o (tb_c hi t col q) (hi (17 + wc) 3)) ∧ srt = decide (hi 35 k = 2) ∧ f = tb_c hi t col) ∨
  (∃ wj pt cs cp tp rp, (wj < 3 ∧ pt < 3 ∧ cs < 4 ∧ cp < 4 ∧ rp < 24 ∧ dk_T tp) ∧ (hi 36 k = -1 ∧ hi 37 k = nI wj) ∧ ((if hi (22 + wj) 0 = nI s then hi (22 + wj) 2 else hi (22 + wj) 0) = nI pt ∧ (if hi (22 + wj) 0 = nI s then hi (22 + wj) 1 else hi (22 + wj) 3) = nI cs ∧ (if hi (22 + wj) 0 = nI pt then hi (22 + wj) 1 else hi (22 + wj) 3) = nI cp) ∧ sr pt = some tp ∧ hi 42 pt = nI rp ∧ P = (fun q => decide (tb_c hi t cs q = tb_c hi tp cp rp)) ∧ srt = false) ∨
  (hi 36 k = -1 ∧ hi 37 k = -1 ∧ P = (fun _ => true) ∧ srt = false)
def wk_open (hi : Nat → Nat → Int32) (k : Nat) : Nat → Nat → Int32 := dk_up (dk_up (dk_up hi 38 8 (nI k)) 41 k 0) 40 k 0
theorem nI_ne_m1 {n : Nat} (h : n < 2 ^ 31) : ¬ nI n = -1 := by
  intro e
  have := nI_pos h
  rw [e] at this
  exact this (by decide)
set_option maxHeartbeats 4000000 in
set_option maxRecDepth 100000 in
theorem c_X6_openSource (G : dk_G) (sr : Nat → Option Nat) (hi : Nat → Nat → Int32) (hf : Nat → Nat → UInt32) (z : (Nat → Nat → Int64) × (Nat → Nat → UInt64)) {t : Nat} (T : dk_T t) (k s n : Nat) (P : Nat → Bool) (srt : Bool) (f : Nat → Int32) (hk : k < 3) (hs : hi 34 k = nI s) (hs' : s < 3) (hst : sr s = some t) (hn : hi t 4 = nI n) (hn' : n ≤ 24) (hW : op_W hi sr k s t P srt f) :
    dk_M G yX6_openSource cX6_openSource 7 none { frames := 3, cells := 0, slots := 0, locals := 72 } [.ref 38, .ref 14, .ref 30, .int (nI k)] 63 (hi, hf, dk_RF sr, z) 63 (wk_Po (wk_open hi k) hf sr z k (op_L P srt f n)) := by
  refine dk_met (L := [some (.ref 38), some (.ref 14), some (.ref 30), some (.int (nI k)), none, none, none]) pnX6 rfl (Nat.le_of_ble_eq_true rfl) ?_
  intro X C E hNm
  have tl : t + 2 < 38 := by rcases T with rfl | rfl | rfl <;> decide
  have loop : ∀ r p, p + r = n → ∀ h', wk_F (wk_open hi k) h' k → wk_L h' k (op_L P srt f p) → dk_W X 35 [some (.ref 38), some (.ref 14), some (.ref 30), some (.int (nI k)), some (.ref t), some (.int (nI p)), none] [] 63 (h', hf, dk_RF sr, z) 0 0 := by
    intro r
    induction r with
    | zero =>
      intro p hp h' hF hL
      obtain rfl : p = n := by omega
      have fr : ∀ i j, i < 38 → h' i j = hi i j := fun i j h => by
        rw [hF.cell (by omega), wk_open, dk_up_ne _ _ (Or.inl (by omega)), dk_up_ne _ _ (Or.inl (by omega)), dk_up_ne _ _ (Or.inl (by omega))]
      refine dk_iload C dX6_openSource_35 rfl ?_
      refine dk_aload C dX6_openSource_37 rfl ?_
      refine ek_getI C fX6_130 T.s0 T.l0 rfl dX6_openSource_39 ?_
      rw [fr t 4 (by omega), hn]
      refine dk_icmp_ge C 145 dX6_openSource_42 (by decide) (fun _ => ?_) (fun hz => absurd (Int32.le_refl _) hz)
      exact dk_vret C E dX6_openSource_145 (Nat.zero_le _) (Nat.zero_le _) (⟨rfl, h', hF, hL, rfl⟩)
    | succ r ih =>
      intro p hp h' hF hL
      have fr : ∀ i j, i < 38 → h' i j = hi i j := fun i j h => by
        rw [hF.cell (by omega), wk_open, dk_up_ne _ _ (Or.inl (by omega)), dk_up_ne _ _ (Or.inl (by omega)), dk_up_ne _ _ (Or.inl (by omega))]
      have hd : h' 38 8 = nI k := by
        rw [hF.cell (by omega), wk_open, dk_up_ne _ _ (Or.inl (by omega)), dk_up_ne _ _ (Or.inl (by omega)), dk_up_same]
      have hlen := op_L_len P srt f p
      have hcol : ∀ c, tb_c h' t c = tb_c hi t c := fun c => by funext q; exact fr _ _ (by omega)
      refine dk_iload C dX6_openSource_35 rfl ?_
      refine dk_aload C dX6_openSource_37 rfl ?_
      refine ek_getI C fX6_130 T.s0 T.l0 rfl dX6_openSource_39 ?_
      rw [fr t 4 (by omega), hn]
      refine dk_icmp_ge C 145 dX6_openSource_42 (by decide) (fun hz => absurd hz (nI_ge (by omega) (by omega))) (fun _ => ?_)
      refine dk_aload_n C dX6_openSource_45 rfl rfl ?_
      refine ek_getR C fX6_133 rfl (by decide) rfl 36 rfl dX6_openSource_46 ?_
      refine dk_iload_n C dX6_openSource_49 rfl rfl ?_
      refine ek_iald C rfl (by decide) (k) (rfl) (hk) (by decide) dX6_openSource_50 ?_
      refine dk_iconst C (-1) dX6_openSource_51 rfl ?_
      rw [fr 36 k (by omega)]
      rcases hW with ⟨wc, col, o, w1, w2, w3, w4, w5, w6, rfl, hsrt, rfl⟩ | ⟨wj, pt, cs, cp, tp, rp, ⟨w1, w2, w3, w4, w5, Tp⟩, ⟨w6, w7⟩, ⟨w8, w9, w10⟩, w11, w12, rfl, rfl⟩ | ⟨w1, w2, rfl, rfl⟩
      · have Q := dk_Q0i w1
        refine dk_icmp_eq C 96 dX6_openSource_52 (by decide) (fun hz => absurd hz (by rw [w4]; exact nI_ne_m1 (by omega))) (fun _ => ?_)
        refine dk_aload_n C dX6_openSource_55 rfl rfl ?_
        refine ek_getR C fX6_77 rfl (by decide) rfl 16 rfl dX6_openSource_56 ?_
        refine dk_aload_n C dX6_openSource_59 rfl rfl ?_
        refine ek_getR C fX6_133 rfl (by decide) rfl 36 rfl dX6_openSource_60 ?_
        refine dk_iload_n C dX6_openSource_63 rfl rfl ?_
        refine ek_iald C rfl (by decide) (k) (rfl) (hk) (by decide) dX6_openSource_64 ?_
        refine ek_aald C rfl (by decide) (by decide) (wc) (by rw [fr 36 k (by omega)]; exact w4) (w1) (by decide) (17 + wc) (dk_RF16 sr w1) dX6_openSource_65 ?_
        refine dk_astore C dX6_openSource_66 (by decide) rfl ?_
        refine dk_aload_n C dX6_openSource_68 rfl rfl ?_
        refine dk_aload C dX6_openSource_69 rfl ?_
        refine dk_aload C dX6_openSource_71 rfl ?_
        refine dk_aload_n C dX6_openSource_73 rfl rfl ?_
        refine ek_getR C fX6_136 rfl (by decide) rfl 35 rfl dX6_openSource_74 ?_
        refine dk_iload_n C dX6_openSource_77 rfl rfl ?_
        refine ek_iald C rfl (by decide) (k) (rfl) (hk) (by decide) dX6_openSource_78 ?_
        rw [fr 35 k (by omega)]
        have key : ∀ bv : Bool, srt = bv → dk_W X 90 [some (.ref 38), some (.ref 14), some (.ref 30), some (.int (nI k)), some (.ref t), some (.int (nI p)), some (.ref (17 + wc))] [.int (nI p), .int (bI bv), .ref (17 + wc), .ref t, .ref 38] 63 (h', hf, dk_RF sr, z) 0 0 := by
          intro bv hbv
          refine dk_callV C mX6_139 (c_X6_openByCondition _ _ h' _ _ T Q bv p k col o (op_L _ srt _ p) (by rw [fr _ _ (by omega)]; exact w5) w2 (by rw [fr _ _ (by omega)]; exact w6) w3 (by omega) hd hk hL (by omega) (fun hb => by rw [hcol]; subst hbv; rw [hb]; exact op_L_sorted _ _ p)) rfl (by decide) rfl rfl (Nat.le_of_ble_eq_true rfl) ⟨by decide, by decide⟩ ⟨Nat.zero_le _, Nat.zero_le _⟩ dX6_openSource_90 ?_
          rintro r' h9 ⟨rfl, h2, b1, b2, rfl⟩
          rw [hcol, fr _ _ (by omega), ← hbv] at b2
          refine dk_goto C 139 dX6_openSource_93 (by decide) ?_
          refine dk_iinc C (nI (p + 1)) dX6_openSource_139 rfl (nI_1 p) (by decide) rfl ?_
          refine dk_goto C 35 dX6_openSource_142 (by decide) ?_
          refine dk_forgetAt 6 ?_
          exact ih (p + 1) (by omega) h2 (hF.trans b1) b2
        refine dk_iconst C (2) dX6_openSource_79 rfl ?_
        refine dk_icmp_ne C 87 dX6_openSource_80 (by decide) (fun c1 => ?_) (fun c1 => ?_)
        · refine dk_iconst C (0) dX6_openSource_87 rfl ?_
          refine dk_iload C dX6_openSource_88 rfl ?_
          exact key false (by rw [hsrt]; simpa using c1)
        · refine dk_iconst C (1) dX6_openSource_83 rfl ?_
          refine dk_goto C 88 dX6_openSource_84 (by decide) ?_
          refine dk_iload C dX6_openSource_88 rfl ?_
          exact key true (by rw [hsrt]; simpa using c1)
      · have Q := dk_Q1i w1
        refine dk_icmp_eq C 96 dX6_openSource_52 (by decide) (fun _ => ?_) (fun hz => absurd (w6) hz)
        refine dk_aload_n C dX6_openSource_96 rfl rfl ?_
        refine ek_getR C fX6_143 rfl (by decide) rfl 37 rfl dX6_openSource_97 ?_
        refine dk_iload_n C dX6_openSource_100 rfl rfl ?_
        refine ek_iald C rfl (by decide) (k) (rfl) (hk) (by decide) dX6_openSource_101 ?_
        refine dk_iconst C (-1) dX6_openSource_102 rfl ?_
        rw [fr 37 k (by omega)]
        refine dk_icmp_eq C 133 dX6_openSource_103 (by decide) (fun hz => absurd hz (by rw [w7]; exact nI_ne_m1 (by omega))) (fun _ => ?_)
        refine dk_aload_n C dX6_openSource_106 rfl rfl ?_
        refine dk_aload_n C dX6_openSource_107 rfl rfl ?_
        refine dk_aload_n C dX6_openSource_108 rfl rfl ?_
        refine ek_getR C fX6_100 rfl (by decide) rfl 21 rfl dX6_openSource_109 ?_
        refine dk_aload_n C dX6_openSource_112 rfl rfl ?_
        refine ek_getR C fX6_143 rfl (by decide) rfl 37 rfl dX6_openSource_113 ?_
        refine dk_iload_n C dX6_openSource_116 rfl rfl ?_
        refine ek_iald C rfl (by decide) (k) (rfl) (hk) (by decide) dX6_openSource_117 ?_
        refine ek_aald C rfl (by decide) (by decide) (wj) (by rw [fr 37 k (by omega)]; exact w7) (w1) (by decide) (22 + wj) (dk_RF21 sr w1) dX6_openSource_118 ?_
        refine dk_aload_n C dX6_openSource_119 rfl rfl ?_
        refine ek_getR C fX6_58 rfl (by decide) rfl 34 rfl dX6_openSource_120 ?_
        refine dk_iload_n C dX6_openSource_123 rfl rfl ?_
        refine ek_iald C rfl (by decide) (k) (rfl) (hk) (by decide) dX6_openSource_124 ?_
        rw [fr 34 k (by omega), hs]
        have tpl : tp + 2 < 38 := by rcases Tp with rfl | rfl | rfl <;> decide
        have hcolp : ∀ c, tb_c h' tp c = tb_c hi tp c := fun c => by funext q; exact fr _ _ (by omega)
        have h42 : h' 42 pt = nI rp := by
          rw [hF.cell (by omega), wk_open, dk_up_ne _ _ (Or.inl (by omega)), dk_up_ne _ _ (Or.inl (by omega)), dk_up_ne _ _ (Or.inl (by omega))]
          exact w12
        refine dk_iload C dX6_openSource_125 rfl ?_
        refine dk_callV C mX6_146 (c_X6_openByJoin _ _ h' _ _ T Tp Q s pt cs cp rp p k (op_L _ false f p) hst hs' w11 w2 (by rw [fr _ _ (by omega), fr _ _ (by omega)]; exact w8) (by rw [fr _ _ (by omega), fr _ _ (by omega), fr _ _ (by omega)]; exact w9) (by rw [fr _ _ (by omega), fr _ _ (by omega), fr _ _ (by omega)]; exact w10) w3 w4 h42 w5 (by omega) hd hk hL (by omega) f) rfl (by decide) rfl rfl (Nat.le_of_ble_eq_true rfl) ⟨by decide, by decide⟩ ⟨Nat.zero_le _, Nat.zero_le _⟩ dX6_openSource_127 ?_
        rintro r' h9 ⟨rfl, h2, b1, b2, rfl⟩
        rw [hcol, hcolp] at b2
        refine dk_goto C 139 dX6_openSource_130 (by decide) ?_
        refine dk_iinc C (nI (p + 1)) dX6_openSource_139 rfl (nI_1 p) (by decide) rfl ?_
        refine dk_goto C 35 dX6_openSource_142 (by decide) ?_
        exact ih (p + 1) (by omega) h2 (hF.trans b1) b2
      · refine dk_icmp_eq C 96 dX6_openSource_52 (by decide) (fun _ => ?_) (fun hz => absurd (w1) hz)
        refine dk_aload_n C dX6_openSource_96 rfl rfl ?_
        refine ek_getR C fX6_143 rfl (by decide) rfl 37 rfl dX6_openSource_97 ?_
        refine dk_iload_n C dX6_openSource_100 rfl rfl ?_
        refine ek_iald C rfl (by decide) (k) (rfl) (hk) (by decide) dX6_openSource_101 ?_
        refine dk_iconst C (-1) dX6_openSource_102 rfl ?_
        rw [fr 37 k (by omega)]
        refine dk_icmp_eq C 133 dX6_openSource_103 (by decide) (fun _ => ?_) (fun hz => absurd (w2) hz)
        obtain ⟨a1, a2⟩ := wk_add_L (p := p) hL (by omega) (by omega)
        refine dk_aload_n C dX6_openSource_133 rfl rfl ?_
        refine dk_iload C dX6_openSource_134 rfl ?_
        refine ek_callVv C mX6_150 (c_X6_addPlace _ _ _ _ _ k (op_L _ false f p).length (nI p) hd hk hL.1 (by omega)) rfl (by decide) rfl rfl (Nat.le_of_ble_eq_true rfl) (by decide) (by decide) (Nat.zero_le _) (Nat.zero_le _) dX6_openSource_136 ?_
        refine dk_iinc C (nI (p + 1)) dX6_openSource_139 rfl (nI_1 p) (by decide) rfl ?_
        refine dk_goto C 35 dX6_openSource_142 (by decide) ?_
        exact ih (p + 1) (by omega) _ (hF.trans a2) a1
  refine dk_aload_n C dX6_openSource_0 rfl rfl ?_
  refine dk_iload_n C dX6_openSource_1 rfl rfl ?_
  refine ek_putI C fX6_34 fwX6_8 rfl (by decide) rfl dX6_openSource_2 ?_
  refine dk_aload_n C dX6_openSource_5 rfl rfl ?_
  refine ek_getR C fX6_22 rfl (by decide) rfl 41 rfl dX6_openSource_6 ?_
  refine dk_iload_n C dX6_openSource_9 rfl rfl ?_
  refine dk_iconst C (0) dX6_openSource_10 rfl ?_
  refine ek_iast C rfl (by decide) (k) (rfl) (hk) (by decide) dX6_openSource_11 ?_
  refine dk_aload_n C dX6_openSource_12 rfl rfl ?_
  refine ek_getR C fX6_19 rfl (by decide) rfl 40 rfl dX6_openSource_13 ?_
  refine dk_iload_n C dX6_openSource_16 rfl rfl ?_
  refine dk_iconst C (0) dX6_openSource_17 rfl ?_
  refine ek_iast C rfl (by decide) (k) (rfl) (hk) (by decide) dX6_openSource_18 ?_
  refine dk_aload_n C dX6_openSource_19 rfl rfl ?_
  refine ek_getR C fX6_122 rfl (by decide) rfl 15 rfl dX6_openSource_20 ?_
  refine dk_aload_n C dX6_openSource_23 rfl rfl ?_
  refine ek_getR C fX6_58 rfl (by decide) rfl 34 rfl dX6_openSource_24 ?_
  refine dk_iload_n C dX6_openSource_27 rfl rfl ?_
  refine ek_iald C rfl (by decide) (k) (rfl) (hk) (by decide) dX6_openSource_28 ?_
  have e1 : dk_up (dk_up (dk_up hi 38 8 (nI k)) 41 k 0) 40 k 0 34 k = nI s := by
    rw [dk_up_ne _ _ (Or.inl (by omega)), dk_up_ne _ _ (Or.inl (by omega)), dk_up_ne _ _ (Or.inl (by omega)), hs]
  refine ek_aald C rfl (by decide) (by decide) (s) (e1) (hs') (by decide) t (hst) dX6_openSource_29 ?_
  refine dk_astore C dX6_openSource_30 (by decide) rfl ?_
  refine dk_iconst C (0) dX6_openSource_32 rfl ?_
  refine dk_istore C dX6_openSource_33 (by decide) rfl ?_
  exact loop n 0 (by omega) _ (wk_F.refl _ k) ⟨by simp [wk_open, dk_up, op_L, nI], by simp [op_L], fun i h => by simp [op_L] at h, fun x h => by simp [op_L] at h⟩
