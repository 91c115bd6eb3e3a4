/-! ===== constructors ===== -/
theorem ck_putR {X : dk_X} {cc : ByteArray} {own : String} {nL : Nat} {ret : Option FieldType} {rm : Room} {G : dk_G} {pc : Nat} {L : List (Option Value)} {S : List Value} {n : Nat} {hi : Nat → Nat → Int32} {hf : Nat → Nat → UInt32} {hr : Nat → Nat → Option Nat} {z : (Nat → Nat → Int64) × (Nat → Nat → UInt64)} {kc ks : Nat} (C : dk_C X cc own nL ret rm G) (hin2 : X.2.2.2.2.2.2.2.1.name = "<init>") {idx ci kf a j : Nat} {ty : FieldType} (F : dk_F own idx ci kf) (Fz : dk_Fz own ci kf ty) (hs : dk_SH a = .inl ci) (ha : a < n) (hk : (dk_ks ci).getD kf 0 = 2) (hn : narrow ty (.ref (dk_b G + j)) = .ref (dk_b G + j)) (hfit : fits ty (.ref (dk_b G + j)) = true) (d : decode cc pc = .ok (.putfield idx, 3)) (k : dk_W X (pc + 3) L S n (hi, hf, dk_up hr a kf (some j), z) kc ks) : dk_W X pc L (.ref j :: .ref a :: S) n (hi, hf, hr, z) kc ks :=
  dk_putz C hin2 F Fz hs ha (v := .ref j) hn hfit (dk_sR (hi, hf, hr, z) a kf (some j)) (by rw [hk]; exact dk_upR _ _ _ _) d k
theorem ck_aast {X : dk_X} {cc : ByteArray} {own : String} {nL : Nat} {ret : Option FieldType} {rm : Room} {G : dk_G} {pc : Nat} {L : List (Option Value)} {S : List Value} {n : Nat} {hi : Nat → Nat → Int32} {hf : Nat → Nat → UInt32} {hr : Nat → Nat → Option Nat} {z : (Nat → Nat → Int64) × (Nat → Nat → UInt64)} {kc ks : Nat} (C : dk_C X cc own nL ret rm G) {a N t v ci : Nat} {i : Int32} {q : vw_C} (j : Nat) (hj : i = nI j) (hjN : j < N) (hN : N < 2 ^ 31) (hs : dk_SH a = .inr (t, N)) (ht : 5 ≤ t ∧ t < 9) (ha : a < n) (hsv : dk_SH v = .inl ci) (hv : v < n) (hc : vwCl[ci]? = some q) (hq : dk_ty t = .object q.1) (d : decode cc pc = .ok (.aastore, 1)) (k : dk_W X (pc + 1) L S n (hi, hf, dk_up hr a j (some v), z) kc ks) : dk_W X pc L (.ref v :: .int i :: .ref a :: S) n (hi, hf, hr, z) kc ks := by
  obtain ⟨h1, h2⟩ := nI_at hj hjN hN
  refine dk_aast C hs ht ha h1 hsv hv hc hq d ?_
  rw [h2]
  exact k
theorem c_X0_init (G : dk_G) (n a : Nat) (h : dk_H) : dk_M G yX0_init cX0_init 1 none { frames := 1, cells := 0, slots := 0, locals := 20 } [.ref a] n h n (fun r' h' => r' = none ∧ h' = h) := by
  refine dk_met (L := [some (.ref a)]) pnX0 rfl (Nat.le_of_ble_eq_true rfl) ?_
  intro X C E hNm
  refine dk_aload_n C dX0_init_0 rfl rfl ?_
  refine dk_objInit C oiX0_3 oi1 oi2 dX0_init_1 (by decide) (by decide) ?_
  exact dk_vret C E dX0_init_4 (Nat.zero_le _) (Nat.zero_le _) ⟨rfl, rfl⟩
theorem c_X1_init (G : dk_G) (n a : Nat) (h : dk_H) : dk_M G yX1_init cX1_init 1 none { frames := 1, cells := 0, slots := 0, locals := 20 } [.ref a] n h n (fun r' h' => r' = none ∧ h' = h) := by
  refine dk_met (L := [some (.ref a)]) pnX1 rfl (Nat.le_of_ble_eq_true rfl) ?_
  intro X C E hNm
  refine dk_aload_n C dX1_init_0 rfl rfl ?_
  refine dk_objInit C oiX1_1 oi1 oi2 dX1_init_1 (by decide) (by decide) ?_
  exact dk_vret C E dX1_init_4 (Nat.zero_le _) (Nat.zero_le _) ⟨rfl, rfl⟩
theorem c_X2_init (G : dk_G) (n a : Nat) (h : dk_H) : dk_M G yX2_init cX2_init 1 none { frames := 1, cells := 0, slots := 0, locals := 20 } [.ref a] n h n (fun r' h' => r' = none ∧ h' = h) := by
  refine dk_met (L := [some (.ref a)]) pnX2 rfl (Nat.le_of_ble_eq_true rfl) ?_
  intro X C E hNm
  refine dk_aload_n C dX2_init_0 rfl rfl ?_
  refine dk_objInit C oiX2_1 oi1 oi2 dX2_init_1 (by decide) (by decide) ?_
  exact dk_vret C E dX2_init_4 (Nat.zero_le _) (Nat.zero_le _) ⟨rfl, rfl⟩
theorem c_X8_empty0 (G : dk_G) {n : Nat} (hi : Nat → Nat → Int32) (hf : Nat → Nat → UInt32) (hr : Nat → Nat → Option Nat) (z : (Nat → Nat → Int64) × (Nat → Nat → UInt64)) (hn : 45 < n) : dk_M G yX8_empty cX8_empty 1 none { frames := 0, cells := 0, slots := 0, locals := 0 } [.ref 45] n (hi, hf, hr, z) n (fun r' h' => r' = none ∧ h' = (md_empty hi, hf, hr, z)) := by
  refine dk_met (L := [some (.ref 45)]) pnX8 rfl (Nat.le_of_ble_eq_true rfl) ?_
  intro X C E hNm
  refine dk_aload_n C dX8_empty_0 rfl rfl ?_
  refine dk_iconst C (0) dX8_empty_1 rfl ?_
  refine ek_putI C fX8_71 fwX8_6 rfl hn rfl dX8_empty_2 ?_
  refine dk_aload_n C dX8_empty_5 rfl rfl ?_
  refine dk_iconst C (0) dX8_empty_6 rfl ?_
  refine ek_putI C fX8_96 fwX8_7 rfl hn rfl dX8_empty_7 ?_
  refine dk_aload_n C dX8_empty_10 rfl rfl ?_
  refine dk_iconst C (0) dX8_empty_11 rfl ?_
  refine ek_putI C fX8_99 fwX8_9 rfl hn rfl dX8_empty_12 ?_
  refine dk_aload_n C dX8_empty_15 rfl rfl ?_
  refine dk_iconst C (0) dX8_empty_16 rfl ?_
  refine ek_putI C fX8_102 fwX8_11 rfl hn rfl dX8_empty_17 ?_
  refine dk_aload_n C dX8_empty_20 rfl rfl ?_
  refine dk_iconst C (0) dX8_empty_21 rfl ?_
  refine ek_putI C fX8_105 fwX8_13 rfl hn rfl dX8_empty_22 ?_
  refine dk_aload_n C dX8_empty_25 rfl rfl ?_
  refine dk_iconst C (-1) dX8_empty_26 rfl ?_
  refine ek_putI C fX8_108 fwX8_15 rfl hn rfl dX8_empty_27 ?_
  refine dk_aload_n C dX8_empty_30 rfl rfl ?_
  refine dk_iconst C (0) dX8_empty_31 rfl ?_
  refine ek_putZ C fX8_111 fwX8_16 rfl hn rfl (Or.inl rfl) dX8_empty_32 ?_
  refine dk_aload_n C dX8_empty_35 rfl rfl ?_
  refine dk_bipush C (64) dX8_empty_36 rfl ?_
  refine ek_putI C fX8_115 fwX8_17 rfl hn rfl dX8_empty_38 ?_
  refine dk_aload_n C dX8_empty_41 rfl rfl ?_
  refine dk_iconst C (0) dX8_empty_42 rfl ?_
  refine ek_putI C fX8_118 fwX8_27 rfl hn rfl dX8_empty_43 ?_
  refine dk_aload_n C dX8_empty_46 rfl rfl ?_
  refine dk_iconst C (0) dX8_empty_47 rfl ?_
  refine ek_putI C fX8_121 fwX8_28 rfl hn rfl dX8_empty_48 ?_
  exact dk_vret C E dX8_empty_51 (Nat.zero_le _) (Nat.zero_le _) ⟨rfl, rfl⟩
def kIX5_2 (hi : Nat → Nat → Int32) : Nat → Nat → Int32 := dk_up (dk_up (dk_up (hi) 2 3 (0)) 2 4 (0)) 2 5 (0)
def kRX5_2 (hr : Nat → Nat → Option Nat) : Nat → Nat → Option Nat := dk_up (dk_up (dk_up (hr) 2 0 (some 3)) 2 1 (some 4)) 2 2 (some 5)
set_option maxHeartbeats 8000000 in
set_option maxRecDepth 100000 in
theorem c_X5_init_2 (G : dk_G) (htt : G.2.2.2.2.2.2 = true) (hi : Nat → Nat → Int32) (hf : Nat → Nat → UInt32) (hr : Nat → Nat → Option Nat) (z : (Nat → Nat → Int64) × (Nat → Nat → UInt64)) (q3 : dk_def (hi, hf, hr, z) 3) (q4 : dk_def (hi, hf, hr, z) 4) (q5 : dk_def (hi, hf, hr, z) 5) :
    dk_M G yX5_init cX5_init 1 none { frames := 1, cells := 3, slots := 128, locals := 20 } [.ref 2] 3 (hi, hf, hr, z) 6 (fun r' h' => r' = none ∧ h' = (kIX5_2 hi, hf, kRX5_2 hr, z)) := by
  refine dk_met (L := [some (.ref 2)]) pnX5 rfl (Nat.le_of_ble_eq_true rfl) ?_
  intro X C E hNm
  refine dk_aload_n C dX5_init_0 rfl rfl ?_
  refine dk_objInit C oiX5_3 oi1 oi2 dX5_init_1 (by decide) (by decide) ?_
  refine dk_aload_n C dX5_init_4 rfl rfl ?_
  refine dk_bipush C (24) dX5_init_5 rfl ?_
  refine dk_newa C htt (t := 0) (N := 24) (atype := .int) (by decide) rfl ar_int rfl q3 (by decide) rfl (by decide) (by decide) (by decide) dX5_init_7 ?_
  refine ck_putR C hNm fX5_11 fzX5_0 rfl (by decide) rfl rfl rfl dX5_init_9 ?_
  refine dk_aload_n C dX5_init_12 rfl rfl ?_
  refine dk_bipush C (96) dX5_init_13 rfl ?_
  refine dk_newa C htt (t := 0) (N := 96) (atype := .int) (by decide) rfl ar_int rfl q4 (by decide) rfl (by decide) (by decide) (by decide) dX5_init_15 ?_
  refine ck_putR C hNm fX5_15 fzX5_1 rfl (by decide) rfl rfl rfl dX5_init_17 ?_
  refine dk_aload_n C dX5_init_20 rfl rfl ?_
  refine dk_bipush C (8) dX5_init_21 rfl ?_
  refine dk_newa C htt (t := 1) (N := 8) (atype := .boolean) (by decide) rfl ar_boolean rfl q5 (by decide) rfl (by decide) (by decide) (by decide) dX5_init_23 ?_
  refine ck_putR C hNm fX5_18 fzX5_2 rfl (by decide) rfl rfl rfl dX5_init_25 ?_
  refine dk_aload_n C dX5_init_28 rfl rfl ?_
  refine dk_iconst C (0) dX5_init_29 rfl ?_
  refine ek_putI C fX5_22 fwX5_3 rfl (by decide) rfl dX5_init_30 ?_
  refine dk_aload_n C dX5_init_33 rfl rfl ?_
  refine dk_iconst C (0) dX5_init_34 rfl ?_
  refine ek_putI C fX5_26 fwX5_4 rfl (by decide) rfl dX5_init_35 ?_
  refine dk_aload_n C dX5_init_38 rfl rfl ?_
  refine dk_iconst C (0) dX5_init_39 rfl ?_
  refine ek_putI C fX5_29 fwX5_5 rfl (by decide) rfl dX5_init_40 ?_
  exact dk_vret C E dX5_init_43 (by decide) (by decide) ⟨rfl, rfl⟩
def kIX5_6 (hi : Nat → Nat → Int32) : Nat → Nat → Int32 := dk_up (dk_up (dk_up (hi) 6 3 (0)) 6 4 (0)) 6 5 (0)
def kRX5_6 (hr : Nat → Nat → Option Nat) : Nat → Nat → Option Nat := dk_up (dk_up (dk_up (hr) 6 0 (some 7)) 6 1 (some 8)) 6 2 (some 9)
set_option maxHeartbeats 8000000 in
set_option maxRecDepth 100000 in
theorem c_X5_init_6 (G : dk_G) (htt : G.2.2.2.2.2.2 = true) (hi : Nat → Nat → Int32) (hf : Nat → Nat → UInt32) (hr : Nat → Nat → Option Nat) (z : (Nat → Nat → Int64) × (Nat → Nat → UInt64)) (q7 : dk_def (hi, hf, hr, z) 7) (q8 : dk_def (hi, hf, hr, z) 8) (q9 : dk_def (hi, hf, hr, z) 9) :
    dk_M G yX5_init cX5_init 1 none { frames := 1, cells := 3, slots := 128, locals := 20 } [.ref 6] 7 (hi, hf, hr, z) 10 (fun r' h' => r' = none ∧ h' = (kIX5_6 hi, hf, kRX5_6 hr, z)) := by
  refine dk_met (L := [some (.ref 6)]) pnX5 rfl (Nat.le_of_ble_eq_true rfl) ?_
  intro X C E hNm
  refine dk_aload_n C dX5_init_0 rfl rfl ?_
  refine dk_objInit C oiX5_3 oi1 oi2 dX5_init_1 (by decide) (by decide) ?_
  refine dk_aload_n C dX5_init_4 rfl rfl ?_
  refine dk_bipush C (24) dX5_init_5 rfl ?_
  refine dk_newa C htt (t := 0) (N := 24) (atype := .int) (by decide) rfl ar_int rfl q7 (by decide) rfl (by decide) (by decide) (by decide) dX5_init_7 ?_
  refine ck_putR C hNm fX5_11 fzX5_0 rfl (by decide) rfl rfl rfl dX5_init_9 ?_
  refine dk_aload_n C dX5_init_12 rfl rfl ?_
  refine dk_bipush C (96) dX5_init_13 rfl ?_
  refine dk_newa C htt (t := 0) (N := 96) (atype := .int) (by decide) rfl ar_int rfl q8 (by decide) rfl (by decide) (by decide) (by decide) dX5_init_15 ?_
  refine ck_putR C hNm fX5_15 fzX5_1 rfl (by decide) rfl rfl rfl dX5_init_17 ?_
  refine dk_aload_n C dX5_init_20 rfl rfl ?_
  refine dk_bipush C (8) dX5_init_21 rfl ?_
  refine dk_newa C htt (t := 1) (N := 8) (atype := .boolean) (by decide) rfl ar_boolean rfl q9 (by decide) rfl (by decide) (by decide) (by decide) dX5_init_23 ?_
  refine ck_putR C hNm fX5_18 fzX5_2 rfl (by decide) rfl rfl rfl dX5_init_25 ?_
  refine dk_aload_n C dX5_init_28 rfl rfl ?_
  refine dk_iconst C (0) dX5_init_29 rfl ?_
  refine ek_putI C fX5_22 fwX5_3 rfl (by decide) rfl dX5_init_30 ?_
  refine dk_aload_n C dX5_init_33 rfl rfl ?_
  refine dk_iconst C (0) dX5_init_34 rfl ?_
  refine ek_putI C fX5_26 fwX5_4 rfl (by decide) rfl dX5_init_35 ?_
  refine dk_aload_n C dX5_init_38 rfl rfl ?_
  refine dk_iconst C (0) dX5_init_39 rfl ?_
  refine ek_putI C fX5_29 fwX5_5 rfl (by decide) rfl dX5_init_40 ?_
  exact dk_vret C E dX5_init_43 (by decide) (by decide) ⟨rfl, rfl⟩
def kIX5_10 (hi : Nat → Nat → Int32) : Nat → Nat → Int32 := dk_up (dk_up (dk_up (hi) 10 3 (0)) 10 4 (0)) 10 5 (0)
def kRX5_10 (hr : Nat → Nat → Option Nat) : Nat → Nat → Option Nat := dk_up (dk_up (dk_up (hr) 10 0 (some 11)) 10 1 (some 12)) 10 2 (some 13)
set_option maxHeartbeats 8000000 in
set_option maxRecDepth 100000 in
theorem c_X5_init_10 (G : dk_G) (htt : G.2.2.2.2.2.2 = true) (hi : Nat → Nat → Int32) (hf : Nat → Nat → UInt32) (hr : Nat → Nat → Option Nat) (z : (Nat → Nat → Int64) × (Nat → Nat → UInt64)) (q11 : dk_def (hi, hf, hr, z) 11) (q12 : dk_def (hi, hf, hr, z) 12) (q13 : dk_def (hi, hf, hr, z) 13) :
    dk_M G yX5_init cX5_init 1 none { frames := 1, cells := 3, slots := 128, locals := 20 } [.ref 10] 11 (hi, hf, hr, z) 14 (fun r' h' => r' = none ∧ h' = (kIX5_10 hi, hf, kRX5_10 hr, z)) := by
  refine dk_met (L := [some (.ref 10)]) pnX5 rfl (Nat.le_of_ble_eq_true rfl) ?_
  intro X C E hNm
  refine dk_aload_n C dX5_init_0 rfl rfl ?_
  refine dk_objInit C oiX5_3 oi1 oi2 dX5_init_1 (by decide) (by decide) ?_
  refine dk_aload_n C dX5_init_4 rfl rfl ?_
  refine dk_bipush C (24) dX5_init_5 rfl ?_
  refine dk_newa C htt (t := 0) (N := 24) (atype := .int) (by decide) rfl ar_int rfl q11 (by decide) rfl (by decide) (by decide) (by decide) dX5_init_7 ?_
  refine ck_putR C hNm fX5_11 fzX5_0 rfl (by decide) rfl rfl rfl dX5_init_9 ?_
  refine dk_aload_n C dX5_init_12 rfl rfl ?_
  refine dk_bipush C (96) dX5_init_13 rfl ?_
  refine dk_newa C htt (t := 0) (N := 96) (atype := .int) (by decide) rfl ar_int rfl q12 (by decide) rfl (by decide) (by decide) (by decide) dX5_init_15 ?_
  refine ck_putR C hNm fX5_15 fzX5_1 rfl (by decide) rfl rfl rfl dX5_init_17 ?_
  refine dk_aload_n C dX5_init_20 rfl rfl ?_
  refine dk_bipush C (8) dX5_init_21 rfl ?_
  refine dk_newa C htt (t := 1) (N := 8) (atype := .boolean) (by decide) rfl ar_boolean rfl q13 (by decide) rfl (by decide) (by decide) (by decide) dX5_init_23 ?_
  refine ck_putR C hNm fX5_18 fzX5_2 rfl (by decide) rfl rfl rfl dX5_init_25 ?_
  refine dk_aload_n C dX5_init_28 rfl rfl ?_
  refine dk_iconst C (0) dX5_init_29 rfl ?_
  refine ek_putI C fX5_22 fwX5_3 rfl (by decide) rfl dX5_init_30 ?_
  refine dk_aload_n C dX5_init_33 rfl rfl ?_
  refine dk_iconst C (0) dX5_init_34 rfl ?_
  refine ek_putI C fX5_26 fwX5_4 rfl (by decide) rfl dX5_init_35 ?_
  refine dk_aload_n C dX5_init_38 rfl rfl ?_
  refine dk_iconst C (0) dX5_init_39 rfl ?_
  refine ek_putI C fX5_29 fwX5_5 rfl (by decide) rfl dX5_init_40 ?_
  exact dk_vret C E dX5_init_43 (by decide) (by decide) ⟨rfl, rfl⟩
def kIX4_14 (hi : Nat → Nat → Int32) : Nat → Nat → Int32 := dk_up (dk_up (hi) 14 8 (-1)) 14 10 (64)
def kRX4_14 (hr : Nat → Nat → Option Nat) : Nat → Nat → Option Nat := dk_up (dk_up (dk_up (dk_up (dk_up (dk_up (dk_up (dk_up (dk_up (dk_up (dk_up (dk_up (dk_up (dk_up (dk_up (hr) 14 0 (some 15)) 14 1 (some 16)) 16 0 (some 17)) 16 1 (some 18)) 16 2 (some 19)) 16 3 (some 20)) 14 2 (some 21)) 21 0 (some 22)) 21 1 (some 23)) 21 2 (some 24)) 14 3 (some 25)) 25 0 (some 26)) 25 1 (some 27)) 25 2 (some 28)) 25 3 (some 29)
set_option maxHeartbeats 8000000 in
set_option maxRecDepth 100000 in
theorem c_X4_init_14 (G : dk_G) (htt : G.2.2.2.2.2.2 = true) (hi : Nat → Nat → Int32) (hf : Nat → Nat → UInt32) (hr : Nat → Nat → Option Nat) (z : (Nat → Nat → Int64) × (Nat → Nat → UInt64)) (q15 : dk_def (hi, hf, hr, z) 15) (q16 : dk_def (hi, hf, hr, z) 16) (q17 : dk_def (hi, hf, hr, z) 17) (q18 : dk_def (hi, hf, hr, z) 18) (q19 : dk_def (hi, hf, hr, z) 19) (q20 : dk_def (hi, hf, hr, z) 20) (q21 : dk_def (hi, hf, hr, z) 21) (q22 : dk_def (hi, hf, hr, z) 22) (q23 : dk_def (hi, hf, hr, z) 23) (q24 : dk_def (hi, hf, hr, z) 24) (q25 : dk_def (hi, hf, hr, z) 25) (q26 : dk_def (hi, hf, hr, z) 26) (q27 : dk_def (hi, hf, hr, z) 27) (q28 : dk_def (hi, hf, hr, z) 28) (q29 : dk_def (hi, hf, hr, z) 29) :
    dk_M G yX4_init cX4_init 2 none { frames := 2, cells := 15, slots := 50, locals := 40 } [.ref 14] 15 (hi, hf, hr, z) 30 (fun r' h' => r' = none ∧ h' = (kIX4_14 hi, hf, kRX4_14 hr, z)) := by
  refine dk_met (L := [some (.ref 14), none]) pnX4 rfl (Nat.le_of_ble_eq_true rfl) ?_
  intro X C E hNm
  refine dk_aload_n C dX4_init_0 rfl rfl ?_
  refine dk_objInit C oiX4_3 oi1 oi2 dX4_init_1 (by decide) (by decide) ?_
  refine dk_aload_n C dX4_init_4 rfl rfl ?_
  refine dk_iconst C (3) dX4_init_5 rfl ?_
  refine dk_anew C htt (t := 5) (N := 3) (by decide) rfl anX4_11 rfl q15 (by decide) rfl (by decide) (by decide) (by decide) dX4_init_6 ?_
  refine ck_putR C hNm fX4_13 fzX4_0 rfl (by decide) rfl rfl rfl dX4_init_9 ?_
  refine dk_aload_n C dX4_init_12 rfl rfl ?_
  refine dk_iconst C (4) dX4_init_13 rfl ?_
  refine dk_anew C htt (t := 6) (N := 4) (by decide) rfl anX4_17 rfl q16 (by decide) rfl (by decide) (by decide) (by decide) dX4_init_14 ?_
  refine ck_putR C hNm fX4_19 fzX4_1 rfl (by decide) rfl rfl rfl dX4_init_17 ?_
  refine dk_iconst C (0) dX4_init_20 rfl ?_
  refine dk_istore_n C dX4_init_21 rfl (by decide) rfl ?_
  refine dk_iload_n C dX4_init_22 rfl rfl ?_
  refine dk_iconst C (4) dX4_init_23 rfl ?_
  refine dk_icmp_ge C 46 dX4_init_24 (by decide) (fun hz => absurd hz (by decide)) (fun _ => ?_)
  refine dk_aload_n C dX4_init_27 rfl rfl ?_
  refine ek_getR C fX4_19 rfl (by decide) rfl 16 rfl dX4_init_28 ?_
  refine dk_iload_n C dX4_init_31 rfl rfl ?_
  refine dk_new C htt (ci := 0) mkX4_17 rfl q17 (by decide) (by decide) dX4_init_32 ?_
  refine dk_dup C dX4_init_35 rfl ?_
  refine dk_callIN C mX4_23 (c_X0_init _ _ _ _) rfl rfl (Nat.le_of_ble_eq_true rfl) ⟨by decide, by decide⟩ ⟨by decide, by decide⟩ dX4_init_36 ?_
  rintro _ _ ⟨rfl, rfl⟩
  refine ck_aast C (a := 16) (t := 6) (N := 4) (v := 17) (ci := 0) (q := (RX0, TX0, 4)) 0 rfl (by decide) (by decide) rfl (by decide) (by decide) rfl (by decide) rfl rfl dX4_init_39 ?_
  refine dk_iinc C (1) dX4_init_40 rfl rfl (by decide) rfl ?_
  refine dk_goto C 22 dX4_init_43 (by decide) ?_
  refine dk_iload_n C dX4_init_22 rfl rfl ?_
  refine dk_iconst C (4) dX4_init_23 rfl ?_
  refine dk_icmp_ge C 46 dX4_init_24 (by decide) (fun hz => absurd hz (by decide)) (fun _ => ?_)
  refine dk_aload_n C dX4_init_27 rfl rfl ?_
  refine ek_getR C fX4_19 rfl (by decide) rfl 16 rfl dX4_init_28 ?_
  refine dk_iload_n C dX4_init_31 rfl rfl ?_
  refine dk_new C htt (ci := 0) mkX4_17 rfl q18 (by decide) (by decide) dX4_init_32 ?_
  refine dk_dup C dX4_init_35 rfl ?_
  refine dk_callIN C mX4_23 (c_X0_init _ _ _ _) rfl rfl (Nat.le_of_ble_eq_true rfl) ⟨by decide, by decide⟩ ⟨by decide, by decide⟩ dX4_init_36 ?_
  rintro _ _ ⟨rfl, rfl⟩
  refine ck_aast C (a := 16) (t := 6) (N := 4) (v := 18) (ci := 0) (q := (RX0, TX0, 4)) 1 rfl (by decide) (by decide) rfl (by decide) (by decide) rfl (by decide) rfl rfl dX4_init_39 ?_
  refine dk_iinc C (2) dX4_init_40 rfl rfl (by decide) rfl ?_
  refine dk_goto C 22 dX4_init_43 (by decide) ?_
  refine dk_iload_n C dX4_init_22 rfl rfl ?_
  refine dk_iconst C (4) dX4_init_23 rfl ?_
  refine dk_icmp_ge C 46 dX4_init_24 (by decide) (fun hz => absurd hz (by decide)) (fun _ => ?_)
  refine dk_aload_n C dX4_init_27 rfl rfl ?_
  refine ek_getR C fX4_19 rfl (by decide) rfl 16 rfl dX4_init_28 ?_
  refine dk_iload_n C dX4_init_31 rfl rfl ?_
  refine dk_new C htt (ci := 0) mkX4_17 rfl q19 (by decide) (by decide) dX4_init_32 ?_
  refine dk_dup C dX4_init_35 rfl ?_
  refine dk_callIN C mX4_23 (c_X0_init _ _ _ _) rfl rfl (Nat.le_of_ble_eq_true rfl) ⟨by decide, by decide⟩ ⟨by decide, by decide⟩ dX4_init_36 ?_
  rintro _ _ ⟨rfl, rfl⟩
  refine ck_aast C (a := 16) (t := 6) (N := 4) (v := 19) (ci := 0) (q := (RX0, TX0, 4)) 2 rfl (by decide) (by decide) rfl (by decide) (by decide) rfl (by decide) rfl rfl dX4_init_39 ?_
  refine dk_iinc C (3) dX4_init_40 rfl rfl (by decide) rfl ?_
  refine dk_goto C 22 dX4_init_43 (by decide) ?_
  refine dk_iload_n C dX4_init_22 rfl rfl ?_
  refine dk_iconst C (4) dX4_init_23 rfl ?_
  refine dk_icmp_ge C 46 dX4_init_24 (by decide) (fun hz => absurd hz (by decide)) (fun _ => ?_)
  refine dk_aload_n C dX4_init_27 rfl rfl ?_
  refine ek_getR C fX4_19 rfl (by decide) rfl 16 rfl dX4_init_28 ?_
  refine dk_iload_n C dX4_init_31 rfl rfl ?_
  refine dk_new C htt (ci := 0) mkX4_17 rfl q20 (by decide) (by decide) dX4_init_32 ?_
  refine dk_dup C dX4_init_35 rfl ?_
  refine dk_callIN C mX4_23 (c_X0_init _ _ _ _) rfl rfl (Nat.le_of_ble_eq_true rfl) ⟨by decide, by decide⟩ ⟨by decide, by decide⟩ dX4_init_36 ?_
  rintro _ _ ⟨rfl, rfl⟩
  refine ck_aast C (a := 16) (t := 6) (N := 4) (v := 20) (ci := 0) (q := (RX0, TX0, 4)) 3 rfl (by decide) (by decide) rfl (by decide) (by decide) rfl (by decide) rfl rfl dX4_init_39 ?_
  refine dk_iinc C (4) dX4_init_40 rfl rfl (by decide) rfl ?_
  refine dk_goto C 22 dX4_init_43 (by decide) ?_
  refine dk_iload_n C dX4_init_22 rfl rfl ?_
  refine dk_iconst C (4) dX4_init_23 rfl ?_
  refine dk_icmp_ge C 46 dX4_init_24 (by decide) (fun _ => ?_) (fun hz => absurd (by decide) hz)
  refine dk_aload_n C dX4_init_46 rfl rfl ?_
  refine dk_iconst C (3) dX4_init_47 rfl ?_
  refine dk_anew C htt (t := 7) (N := 3) (by decide) rfl anX4_24 rfl q21 (by decide) rfl (by decide) (by decide) (by decide) dX4_init_48 ?_
  refine ck_putR C hNm fX4_26 fzX4_2 rfl (by decide) rfl rfl rfl dX4_init_51 ?_
  refine dk_iconst C (0) dX4_init_54 rfl ?_
  refine dk_istore_n C dX4_init_55 rfl (by decide) rfl ?_
  refine dk_iload_n C dX4_init_56 rfl rfl ?_
  refine dk_iconst C (3) dX4_init_57 rfl ?_
  refine dk_icmp_ge C 80 dX4_init_58 (by decide) (fun hz => absurd hz (by decide)) (fun _ => ?_)
  refine dk_aload_n C dX4_init_61 rfl rfl ?_
  refine ek_getR C fX4_26 rfl (by decide) rfl 21 rfl dX4_init_62 ?_
  refine dk_iload_n C dX4_init_65 rfl rfl ?_
  refine dk_new C htt (ci := 1) mkX4_24 rfl q22 (by decide) (by decide) dX4_init_66 ?_
  refine dk_dup C dX4_init_69 rfl ?_
  refine dk_callIN C mX4_30 (c_X1_init _ _ _ _) rfl rfl (Nat.le_of_ble_eq_true rfl) ⟨by decide, by decide⟩ ⟨by decide, by decide⟩ dX4_init_70 ?_
  rintro _ _ ⟨rfl, rfl⟩
  refine ck_aast C (a := 21) (t := 7) (N := 3) (v := 22) (ci := 1) (q := (RX1, TX1, 4)) 0 rfl (by decide) (by decide) rfl (by decide) (by decide) rfl (by decide) rfl rfl dX4_init_73 ?_
  refine dk_iinc C (1) dX4_init_74 rfl rfl (by decide) rfl ?_
  refine dk_goto C 56 dX4_init_77 (by decide) ?_
  refine dk_iload_n C dX4_init_56 rfl rfl ?_
  refine dk_iconst C (3) dX4_init_57 rfl ?_
  refine dk_icmp_ge C 80 dX4_init_58 (by decide) (fun hz => absurd hz (by decide)) (fun _ => ?_)
  refine dk_aload_n C dX4_init_61 rfl rfl ?_
  refine ek_getR C fX4_26 rfl (by decide) rfl 21 rfl dX4_init_62 ?_
  refine dk_iload_n C dX4_init_65 rfl rfl ?_
  refine dk_new C htt (ci := 1) mkX4_24 rfl q23 (by decide) (by decide) dX4_init_66 ?_
  refine dk_dup C dX4_init_69 rfl ?_
  refine dk_callIN C mX4_30 (c_X1_init _ _ _ _) rfl rfl (Nat.le_of_ble_eq_true rfl) ⟨by decide, by decide⟩ ⟨by decide, by decide⟩ dX4_init_70 ?_
  rintro _ _ ⟨rfl, rfl⟩
  refine ck_aast C (a := 21) (t := 7) (N := 3) (v := 23) (ci := 1) (q := (RX1, TX1, 4)) 1 rfl (by decide) (by decide) rfl (by decide) (by decide) rfl (by decide) rfl rfl dX4_init_73 ?_
  refine dk_iinc C (2) dX4_init_74 rfl rfl (by decide) rfl ?_
  refine dk_goto C 56 dX4_init_77 (by decide) ?_
  refine dk_iload_n C dX4_init_56 rfl rfl ?_
  refine dk_iconst C (3) dX4_init_57 rfl ?_
  refine dk_icmp_ge C 80 dX4_init_58 (by decide) (fun hz => absurd hz (by decide)) (fun _ => ?_)
  refine dk_aload_n C dX4_init_61 rfl rfl ?_
  refine ek_getR C fX4_26 rfl (by decide) rfl 21 rfl dX4_init_62 ?_
  refine dk_iload_n C dX4_init_65 rfl rfl ?_
  refine dk_new C htt (ci := 1) mkX4_24 rfl q24 (by decide) (by decide) dX4_init_66 ?_
  refine dk_dup C dX4_init_69 rfl ?_
  refine dk_callIN C mX4_30 (c_X1_init _ _ _ _) rfl rfl (Nat.le_of_ble_eq_true rfl) ⟨by decide, by decide⟩ ⟨by decide, by decide⟩ dX4_init_70 ?_
  rintro _ _ ⟨rfl, rfl⟩
  refine ck_aast C (a := 21) (t := 7) (N := 3) (v := 24) (ci := 1) (q := (RX1, TX1, 4)) 2 rfl (by decide) (by decide) rfl (by decide) (by decide) rfl (by decide) rfl rfl dX4_init_73 ?_
  refine dk_iinc C (3) dX4_init_74 rfl rfl (by decide) rfl ?_
  refine dk_goto C 56 dX4_init_77 (by decide) ?_
  refine dk_iload_n C dX4_init_56 rfl rfl ?_
  refine dk_iconst C (3) dX4_init_57 rfl ?_
  refine dk_icmp_ge C 80 dX4_init_58 (by decide) (fun _ => ?_) (fun hz => absurd (by decide) hz)
  refine dk_aload_n C dX4_init_80 rfl rfl ?_
  refine dk_iconst C (4) dX4_init_81 rfl ?_
  refine dk_anew C htt (t := 8) (N := 4) (by decide) rfl anX4_31 rfl q25 (by decide) rfl (by decide) (by decide) (by decide) dX4_init_82 ?_
  refine ck_putR C hNm fX4_33 fzX4_3 rfl (by decide) rfl rfl rfl dX4_init_85 ?_
  refine dk_iconst C (0) dX4_init_88 rfl ?_
  refine dk_istore_n C dX4_init_89 rfl (by decide) rfl ?_
  refine dk_iload_n C dX4_init_90 rfl rfl ?_
  refine dk_iconst C (4) dX4_init_91 rfl ?_
  refine dk_icmp_ge C 114 dX4_init_92 (by decide) (fun hz => absurd hz (by decide)) (fun _ => ?_)
  refine dk_aload_n C dX4_init_95 rfl rfl ?_
  refine ek_getR C fX4_33 rfl (by decide) rfl 25 rfl dX4_init_96 ?_
  refine dk_iload_n C dX4_init_99 rfl rfl ?_
  refine dk_new C htt (ci := 2) mkX4_31 rfl q26 (by decide) (by decide) dX4_init_100 ?_
  refine dk_dup C dX4_init_103 rfl ?_
  refine dk_callIN C mX4_37 (c_X2_init _ _ _ _) rfl rfl (Nat.le_of_ble_eq_true rfl) ⟨by decide, by decide⟩ ⟨by decide, by decide⟩ dX4_init_104 ?_
  rintro _ _ ⟨rfl, rfl⟩
  refine ck_aast C (a := 25) (t := 8) (N := 4) (v := 26) (ci := 2) (q := (RX2, TX2, 2)) 0 rfl (by decide) (by decide) rfl (by decide) (by decide) rfl (by decide) rfl rfl dX4_init_107 ?_
  refine dk_iinc C (1) dX4_init_108 rfl rfl (by decide) rfl ?_
  refine dk_goto C 90 dX4_init_111 (by decide) ?_
  refine dk_iload_n C dX4_init_90 rfl rfl ?_
  refine dk_iconst C (4) dX4_init_91 rfl ?_
  refine dk_icmp_ge C 114 dX4_init_92 (by decide) (fun hz => absurd hz (by decide)) (fun _ => ?_)
  refine dk_aload_n C dX4_init_95 rfl rfl ?_
  refine ek_getR C fX4_33 rfl (by decide) rfl 25 rfl dX4_init_96 ?_
  refine dk_iload_n C dX4_init_99 rfl rfl ?_
  refine dk_new C htt (ci := 2) mkX4_31 rfl q27 (by decide) (by decide) dX4_init_100 ?_
  refine dk_dup C dX4_init_103 rfl ?_
  refine dk_callIN C mX4_37 (c_X2_init _ _ _ _) rfl rfl (Nat.le_of_ble_eq_true rfl) ⟨by decide, by decide⟩ ⟨by decide, by decide⟩ dX4_init_104 ?_
  rintro _ _ ⟨rfl, rfl⟩
  refine ck_aast C (a := 25) (t := 8) (N := 4) (v := 27) (ci := 2) (q := (RX2, TX2, 2)) 1 rfl (by decide) (by decide) rfl (by decide) (by decide) rfl (by decide) rfl rfl dX4_init_107 ?_
  refine dk_iinc C (2) dX4_init_108 rfl rfl (by decide) rfl ?_
  refine dk_goto C 90 dX4_init_111 (by decide) ?_
  refine dk_iload_n C dX4_init_90 rfl rfl ?_
  refine dk_iconst C (4) dX4_init_91 rfl ?_
  refine dk_icmp_ge C 114 dX4_init_92 (by decide) (fun hz => absurd hz (by decide)) (fun _ => ?_)
  refine dk_aload_n C dX4_init_95 rfl rfl ?_
  refine ek_getR C fX4_33 rfl (by decide) rfl 25 rfl dX4_init_96 ?_
  refine dk_iload_n C dX4_init_99 rfl rfl ?_
  refine dk_new C htt (ci := 2) mkX4_31 rfl q28 (by decide) (by decide) dX4_init_100 ?_
  refine dk_dup C dX4_init_103 rfl ?_
  refine dk_callIN C mX4_37 (c_X2_init _ _ _ _) rfl rfl (Nat.le_of_ble_eq_true rfl) ⟨by decide, by decide⟩ ⟨by decide, by decide⟩ dX4_init_104 ?_
  rintro _ _ ⟨rfl, rfl⟩
  refine ck_aast C (a := 25) (t := 8) (N := 4) (v := 28) (ci := 2) (q := (RX2, TX2, 2)) 2 rfl (by decide) (by decide) rfl (by decide) (by decide) rfl (by decide) rfl rfl dX4_init_107 ?_
  refine dk_iinc C (3) dX4_init_108 rfl rfl (by decide) rfl ?_
  refine dk_goto C 90 dX4_init_111 (by decide) ?_
  refine dk_iload_n C dX4_init_90 rfl rfl ?_
  refine dk_iconst C (4) dX4_init_91 rfl ?_
  refine dk_icmp_ge C 114 dX4_init_92 (by decide) (fun hz => absurd hz (by decide)) (fun _ => ?_)
  refine dk_aload_n C dX4_init_95 rfl rfl ?_
  refine ek_getR C fX4_33 rfl (by decide) rfl 25 rfl dX4_init_96 ?_
  refine dk_iload_n C dX4_init_99 rfl rfl ?_
  refine dk_new C htt (ci := 2) mkX4_31 rfl q29 (by decide) (by decide) dX4_init_100 ?_
  refine dk_dup C dX4_init_103 rfl ?_
  refine dk_callIN C mX4_37 (c_X2_init _ _ _ _) rfl rfl (Nat.le_of_ble_eq_true rfl) ⟨by decide, by decide⟩ ⟨by decide, by decide⟩ dX4_init_104 ?_
  rintro _ _ ⟨rfl, rfl⟩
  refine ck_aast C (a := 25) (t := 8) (N := 4) (v := 29) (ci := 2) (q := (RX2, TX2, 2)) 3 rfl (by decide) (by decide) rfl (by decide) (by decide) rfl (by decide) rfl rfl dX4_init_107 ?_
  refine dk_iinc C (4) dX4_init_108 rfl rfl (by decide) rfl ?_
  refine dk_goto C 90 dX4_init_111 (by decide) ?_
  refine dk_iload_n C dX4_init_90 rfl rfl ?_
  refine dk_iconst C (4) dX4_init_91 rfl ?_
  refine dk_icmp_ge C 114 dX4_init_92 (by decide) (fun _ => ?_) (fun hz => absurd (by decide) hz)
  refine dk_aload_n C dX4_init_114 rfl rfl ?_
  refine dk_iconst C (-1) dX4_init_115 rfl ?_
  refine ek_putI C fX4_38 fwX4_8 rfl (by decide) rfl dX4_init_116 ?_
  refine dk_aload_n C dX4_init_119 rfl rfl ?_
  refine dk_bipush C (64) dX4_init_120 rfl ?_
  refine ek_putI C fX4_42 fwX4_10 rfl (by decide) rfl dX4_init_122 ?_
  exact dk_vret C E dX4_init_125 (by decide) (by decide) ⟨rfl, rfl⟩
def kIX3_30 (hi : Nat → Nat → Int32) : Nat → Nat → Int32 := hi
def kRX3_30 (hr : Nat → Nat → Option Nat) : Nat → Nat → Option Nat := dk_up (dk_up (dk_up (dk_up (dk_up (dk_up (dk_up (hr) 30 0 (some 31)) 30 1 (some 32)) 30 2 (some 33)) 30 3 (some 34)) 30 4 (some 35)) 30 5 (some 36)) 30 6 (some 37)
set_option maxHeartbeats 8000000 in
set_option maxRecDepth 100000 in
theorem c_X3_init_30 (G : dk_G) (htt : G.2.2.2.2.2.2 = true) (hi : Nat → Nat → Int32) (hf : Nat → Nat → UInt32) (hr : Nat → Nat → Option Nat) (z : (Nat → Nat → Int64) × (Nat → Nat → UInt64)) (q31 : dk_def (hi, hf, hr, z) 31) (q32 : dk_def (hi, hf, hr, z) 32) (q33 : dk_def (hi, hf, hr, z) 33) (q34 : dk_def (hi, hf, hr, z) 34) (q35 : dk_def (hi, hf, hr, z) 35) (q36 : dk_def (hi, hf, hr, z) 36) (q37 : dk_def (hi, hf, hr, z) 37) :
    dk_M G yX3_init cX3_init 1 none { frames := 1, cells := 7, slots := 22, locals := 20 } [.ref 30] 31 (hi, hf, hr, z) 38 (fun r' h' => r' = none ∧ h' = (kIX3_30 hi, hf, kRX3_30 hr, z)) := by
  refine dk_met (L := [some (.ref 30)]) pnX3 rfl (Nat.le_of_ble_eq_true rfl) ?_
  intro X C E hNm
  refine dk_aload_n C dX3_init_0 rfl rfl ?_
  refine dk_objInit C oiX3_3 oi1 oi2 dX3_init_1 (by decide) (by decide) ?_
  refine dk_aload_n C dX3_init_4 rfl rfl ?_
  refine dk_iconst C (4) dX3_init_5 rfl ?_
  refine dk_newa C htt (t := 2) (N := 4) (atype := .float) (by decide) rfl ar_float rfl q31 (by decide) rfl (by decide) (by decide) (by decide) dX3_init_6 ?_
  refine ck_putR C hNm fX3_11 fzX3_0 rfl (by decide) rfl rfl rfl dX3_init_8 ?_
  refine dk_aload_n C dX3_init_11 rfl rfl ?_
  refine dk_iconst C (3) dX3_init_12 rfl ?_
  refine dk_newa C htt (t := 2) (N := 3) (atype := .float) (by decide) rfl ar_float rfl q32 (by decide) rfl (by decide) (by decide) (by decide) dX3_init_13 ?_
  refine ck_putR C hNm fX3_17 fzX3_1 rfl (by decide) rfl rfl rfl dX3_init_15 ?_
  refine dk_aload_n C dX3_init_18 rfl rfl ?_
  refine dk_iconst C (3) dX3_init_19 rfl ?_
  refine dk_newa C htt (t := 2) (N := 3) (atype := .float) (by decide) rfl ar_float rfl q33 (by decide) rfl (by decide) (by decide) (by decide) dX3_init_20 ?_
  refine ck_putR C hNm fX3_20 fzX3_2 rfl (by decide) rfl rfl rfl dX3_init_22 ?_
  refine dk_aload_n C dX3_init_25 rfl rfl ?_
  refine dk_iconst C (3) dX3_init_26 rfl ?_
  refine dk_newa C htt (t := 0) (N := 3) (atype := .int) (by decide) rfl ar_int rfl q34 (by decide) rfl (by decide) (by decide) (by decide) dX3_init_27 ?_
  refine ck_putR C hNm fX3_23 fzX3_3 rfl (by decide) rfl rfl rfl dX3_init_29 ?_
  refine dk_aload_n C dX3_init_32 rfl rfl ?_
  refine dk_iconst C (3) dX3_init_33 rfl ?_
  refine dk_newa C htt (t := 0) (N := 3) (atype := .int) (by decide) rfl ar_int rfl q35 (by decide) rfl (by decide) (by decide) (by decide) dX3_init_34 ?_
  refine ck_putR C hNm fX3_27 fzX3_4 rfl (by decide) rfl rfl rfl dX3_init_36 ?_
  refine dk_aload_n C dX3_init_39 rfl rfl ?_
  refine dk_iconst C (3) dX3_init_40 rfl ?_
  refine dk_newa C htt (t := 0) (N := 3) (atype := .int) (by decide) rfl ar_int rfl q36 (by decide) rfl (by decide) (by decide) (by decide) dX3_init_41 ?_
  refine ck_putR C hNm fX3_30 fzX3_5 rfl (by decide) rfl rfl rfl dX3_init_43 ?_
  refine dk_aload_n C dX3_init_46 rfl rfl ?_
  refine dk_iconst C (3) dX3_init_47 rfl ?_
  refine dk_newa C htt (t := 0) (N := 3) (atype := .int) (by decide) rfl ar_int rfl q37 (by decide) rfl (by decide) (by decide) (by decide) dX3_init_48 ?_
  refine ck_putR C hNm fX3_33 fzX3_6 rfl (by decide) rfl rfl rfl dX3_init_50 ?_
  exact dk_vret C E dX3_init_53 (by decide) (by decide) ⟨rfl, rfl⟩
def kIX6_38 (hi : Nat → Nat → Int32) : Nat → Nat → Int32 := dk_up (hi) 38 8 (-1)
def kRX6_38 (hr : Nat → Nat → Option Nat) : Nat → Nat → Option Nat := dk_up (dk_up (dk_up (dk_up (dk_up (dk_up (hr) 38 0 (some 39)) 38 1 (some 40)) 38 2 (some 41)) 38 3 (some 42)) 38 4 (some 43)) 38 5 (some 44)
set_option maxHeartbeats 8000000 in
set_option maxRecDepth 100000 in
theorem c_X6_init_38 (G : dk_G) (htt : G.2.2.2.2.2.2 = true) (hi : Nat → Nat → Int32) (hf : Nat → Nat → UInt32) (hr : Nat → Nat → Option Nat) (z : (Nat → Nat → Int64) × (Nat → Nat → UInt64)) (q39 : dk_def (hi, hf, hr, z) 39) (q40 : dk_def (hi, hf, hr, z) 40) (q41 : dk_def (hi, hf, hr, z) 41) (q42 : dk_def (hi, hf, hr, z) 42) (q43 : dk_def (hi, hf, hr, z) 43) (q44 : dk_def (hi, hf, hr, z) 44) :
    dk_M G yX6_init cX6_init 1 none { frames := 1, cells := 6, slots := 401, locals := 20 } [.ref 38] 39 (hi, hf, hr, z) 45 (fun r' h' => r' = none ∧ h' = (kIX6_38 hi, hf, kRX6_38 hr, z)) := by
  refine dk_met (L := [some (.ref 38)]) pnX6 rfl (Nat.le_of_ble_eq_true rfl) ?_
  intro X C E hNm
  refine dk_aload_n C dX6_init_0 rfl rfl ?_
  refine dk_objInit C oiX6_3 oi1 oi2 dX6_init_1 (by decide) (by decide) ?_
  refine dk_aload_n C dX6_init_4 rfl rfl ?_
  refine dk_bipush C (72) dX6_init_5 rfl ?_
  refine dk_newa C htt (t := 0) (N := 72) (atype := .int) (by decide) rfl ar_int rfl q39 (by decide) rfl (by decide) (by decide) (by decide) dX6_init_7 ?_
  refine ck_putR C hNm fX6_13 fzX6_0 rfl (by decide) rfl rfl rfl dX6_init_9 ?_
  refine dk_aload_n C dX6_init_12 rfl rfl ?_
  refine dk_iconst C (3) dX6_init_13 rfl ?_
  refine dk_newa C htt (t := 0) (N := 3) (atype := .int) (by decide) rfl ar_int rfl q40 (by decide) rfl (by decide) (by decide) (by decide) dX6_init_14 ?_
  refine ck_putR C hNm fX6_19 fzX6_1 rfl (by decide) rfl rfl rfl dX6_init_16 ?_
  refine dk_aload_n C dX6_init_19 rfl rfl ?_
  refine dk_iconst C (3) dX6_init_20 rfl ?_
  refine dk_newa C htt (t := 0) (N := 3) (atype := .int) (by decide) rfl ar_int rfl q41 (by decide) rfl (by decide) (by decide) (by decide) dX6_init_21 ?_
  refine ck_putR C hNm fX6_22 fzX6_2 rfl (by decide) rfl rfl rfl dX6_init_23 ?_
  refine dk_aload_n C dX6_init_26 rfl rfl ?_
  refine dk_iconst C (3) dX6_init_27 rfl ?_
  refine dk_newa C htt (t := 0) (N := 3) (atype := .int) (by decide) rfl ar_int rfl q42 (by decide) rfl (by decide) (by decide) (by decide) dX6_init_28 ?_
  refine ck_putR C hNm fX6_25 fzX6_3 rfl (by decide) rfl rfl rfl dX6_init_30 ?_
  refine dk_aload_n C dX6_init_33 rfl rfl ?_
  refine dk_sipush C (256) dX6_init_34 rfl ?_
  refine dk_newa C htt (t := 0) (N := 256) (atype := .int) (by decide) rfl ar_int rfl q43 (by decide) rfl (by decide) (by decide) (by decide) dX6_init_37 ?_
  refine ck_putR C hNm fX6_28 fzX6_4 rfl (by decide) rfl rfl rfl dX6_init_39 ?_
  refine dk_aload_n C dX6_init_42 rfl rfl ?_
  refine dk_bipush C (64) dX6_init_43 rfl ?_
  refine dk_newa C htt (t := 0) (N := 64) (atype := .int) (by decide) rfl ar_int rfl q44 (by decide) rfl (by decide) (by decide) (by decide) dX6_init_45 ?_
  refine ck_putR C hNm fX6_31 fzX6_5 rfl (by decide) rfl rfl rfl dX6_init_47 ?_
  refine dk_aload_n C dX6_init_50 rfl rfl ?_
  refine dk_iconst C (-1) dX6_init_51 rfl ?_
  refine ek_putI C fX6_34 fwX6_8 rfl (by decide) rfl dX6_init_52 ?_
  exact dk_vret C E dX6_init_55 (by decide) (by decide) ⟨rfl, rfl⟩
def kIX7_0 (hi : Nat → Nat → Int32) : Nat → Nat → Int32 := dk_up (kIX6_38 (kIX3_30 (kIX4_14 (kIX5_10 (kIX5_6 (kIX5_2 (hi))))))) 0 4 (0)
def kRX7_0 (hr : Nat → Nat → Option Nat) : Nat → Nat → Option Nat := dk_up (kRX6_38 (dk_up (kRX3_30 (dk_up (kRX4_14 (dk_up (kRX5_10 (dk_up (kRX5_6 (dk_up (kRX5_2 (dk_up (hr) 0 0 (some 1))) 1 0 (some 2))) 1 1 (some 6))) 1 2 (some 10))) 0 1 (some 14))) 0 2 (some 30))) 0 3 (some 38)
set_option maxHeartbeats 8000000 in
set_option maxRecDepth 100000 in
theorem c_X7_init_0 (G : dk_G) (htt : G.2.2.2.2.2.2 = true) (hi : Nat → Nat → Int32) (hf : Nat → Nat → UInt32) (hr : Nat → Nat → Option Nat) (z : (Nat → Nat → Int64) × (Nat → Nat → UInt64)) (q1 : dk_def (hi, hf, hr, z) 1) (q2 : dk_def (hi, hf, hr, z) 2) (q3 : dk_def (hi, hf, hr, z) 3) (q4 : dk_def (hi, hf, hr, z) 4) (q5 : dk_def (hi, hf, hr, z) 5) (q6 : dk_def (hi, hf, hr, z) 6) (q7 : dk_def (hi, hf, hr, z) 7) (q8 : dk_def (hi, hf, hr, z) 8) (q9 : dk_def (hi, hf, hr, z) 9) (q10 : dk_def (hi, hf, hr, z) 10) (q11 : dk_def (hi, hf, hr, z) 11) (q12 : dk_def (hi, hf, hr, z) 12) (q13 : dk_def (hi, hf, hr, z) 13) (q14 : dk_def (hi, hf, hr, z) 14) (q15 : dk_def (hi, hf, hr, z) 15) (q16 : dk_def (hi, hf, hr, z) 16) (q17 : dk_def (hi, hf, hr, z) 17) (q18 : dk_def (hi, hf, hr, z) 18) (q19 : dk_def (hi, hf, hr, z) 19) (q20 : dk_def (hi, hf, hr, z) 20) (q21 : dk_def (hi, hf, hr, z) 21) (q22 : dk_def (hi, hf, hr, z) 22) (q23 : dk_def (hi, hf, hr, z) 23) (q24 : dk_def (hi, hf, hr, z) 24) (q25 : dk_def (hi, hf, hr, z) 25) (q26 : dk_def (hi, hf, hr, z) 26) (q27 : dk_def (hi, hf, hr, z) 27) (q28 : dk_def (hi, hf, hr, z) 28) (q29 : dk_def (hi, hf, hr, z) 29) (q30 : dk_def (hi, hf, hr, z) 30) (q31 : dk_def (hi, hf, hr, z) 31) (q32 : dk_def (hi, hf, hr, z) 32) (q33 : dk_def (hi, hf, hr, z) 33) (q34 : dk_def (hi, hf, hr, z) 34) (q35 : dk_def (hi, hf, hr, z) 35) (q36 : dk_def (hi, hf, hr, z) 36) (q37 : dk_def (hi, hf, hr, z) 37) (q38 : dk_def (hi, hf, hr, z) 38) (q39 : dk_def (hi, hf, hr, z) 39) (q40 : dk_def (hi, hf, hr, z) 40) (q41 : dk_def (hi, hf, hr, z) 41) (q42 : dk_def (hi, hf, hr, z) 42) (q43 : dk_def (hi, hf, hr, z) 43) (q44 : dk_def (hi, hf, hr, z) 44) :
    dk_M G yX7_init cX7_init 2 none { frames := 3, cells := 44, slots := 906, locals := 61 } [.ref 0] 1 (hi, hf, hr, z) 45 (fun r' h' => r' = none ∧ h' = (kIX7_0 hi, hf, kRX7_0 hr, z)) := by
  refine dk_met (L := [some (.ref 0), none]) pnX7 rfl (Nat.le_of_ble_eq_true rfl) ?_
  intro X C E hNm
  refine dk_aload_n C dX7_init_0 rfl rfl ?_
  refine dk_objInit C oiX7_1 oi1 oi2 dX7_init_1 (by decide) (by decide) ?_
  refine dk_aload_n C dX7_init_4 rfl rfl ?_
  refine dk_iconst C (3) dX7_init_5 rfl ?_
  refine dk_anew C htt (t := 5) (N := 3) (by decide) rfl anX7_9 rfl q1 (by decide) rfl (by decide) (by decide) (by decide) dX7_init_6 ?_
  refine ck_putR C hNm fX7_11 fzX7_0 rfl (by decide) rfl rfl rfl dX7_init_9 ?_
  refine dk_iconst C (0) dX7_init_12 rfl ?_
  refine dk_istore_n C dX7_init_13 rfl (by decide) rfl ?_
  refine dk_iload_n C dX7_init_14 rfl rfl ?_
  refine dk_iconst C (3) dX7_init_15 rfl ?_
  refine dk_icmp_ge C 38 dX7_init_16 (by decide) (fun hz => absurd hz (by decide)) (fun _ => ?_)
  refine dk_aload_n C dX7_init_19 rfl rfl ?_
  refine ek_getR C fX7_11 rfl (by decide) rfl 1 rfl dX7_init_20 ?_
  refine dk_iload_n C dX7_init_23 rfl rfl ?_
  refine dk_new C htt (ci := 5) mkX7_9 rfl q2 (by decide) (by decide) dX7_init_24 ?_
  refine dk_dup C dX7_init_27 rfl ?_
  refine dk_callI C mX7_15 (c_X5_init_2 G htt _ _ _ _ q3 q4 q5) rfl rfl (Nat.le_of_ble_eq_true rfl) ⟨by decide, by decide⟩ ⟨by decide, by decide⟩ dX7_init_28 ?_
  rintro _ _ ⟨rfl, rfl⟩
  refine ck_aast C (a := 1) (t := 5) (N := 3) (v := 2) (ci := 5) (q := (RX5, TX5, 6)) 0 rfl (by decide) (by decide) rfl (by decide) (by decide) rfl (by decide) rfl rfl dX7_init_31 ?_
  refine dk_iinc C (1) dX7_init_32 rfl rfl (by decide) rfl ?_
  refine dk_goto C 14 dX7_init_35 (by decide) ?_
  refine dk_iload_n C dX7_init_14 rfl rfl ?_
  refine dk_iconst C (3) dX7_init_15 rfl ?_
  refine dk_icmp_ge C 38 dX7_init_16 (by decide) (fun hz => absurd hz (by decide)) (fun _ => ?_)
  refine dk_aload_n C dX7_init_19 rfl rfl ?_
  refine ek_getR C fX7_11 rfl (by decide) rfl 1 rfl dX7_init_20 ?_
  refine dk_iload_n C dX7_init_23 rfl rfl ?_
  refine dk_new C htt (ci := 5) mkX7_9 rfl q6 (by decide) (by decide) dX7_init_24 ?_
  refine dk_dup C dX7_init_27 rfl ?_
  refine dk_callI C mX7_15 (c_X5_init_6 G htt _ _ _ _ q7 q8 q9) rfl rfl (Nat.le_of_ble_eq_true rfl) ⟨by decide, by decide⟩ ⟨by decide, by decide⟩ dX7_init_28 ?_
  rintro _ _ ⟨rfl, rfl⟩
  refine ck_aast C (a := 1) (t := 5) (N := 3) (v := 6) (ci := 5) (q := (RX5, TX5, 6)) 1 rfl (by decide) (by decide) rfl (by decide) (by decide) rfl (by decide) rfl rfl dX7_init_31 ?_
  refine dk_iinc C (2) dX7_init_32 rfl rfl (by decide) rfl ?_
  refine dk_goto C 14 dX7_init_35 (by decide) ?_
  refine dk_iload_n C dX7_init_14 rfl rfl ?_
  refine dk_iconst C (3) dX7_init_15 rfl ?_
  refine dk_icmp_ge C 38 dX7_init_16 (by decide) (fun hz => absurd hz (by decide)) (fun _ => ?_)
  refine dk_aload_n C dX7_init_19 rfl rfl ?_
  refine ek_getR C fX7_11 rfl (by decide) rfl 1 rfl dX7_init_20 ?_
  refine dk_iload_n C dX7_init_23 rfl rfl ?_
  refine dk_new C htt (ci := 5) mkX7_9 rfl q10 (by decide) (by decide) dX7_init_24 ?_
  refine dk_dup C dX7_init_27 rfl ?_
  refine dk_callI C mX7_15 (c_X5_init_10 G htt _ _ _ _ q11 q12 q13) rfl rfl (Nat.le_of_ble_eq_true rfl) ⟨by decide, by decide⟩ ⟨by decide, by decide⟩ dX7_init_28 ?_
  rintro _ _ ⟨rfl, rfl⟩
  refine ck_aast C (a := 1) (t := 5) (N := 3) (v := 10) (ci := 5) (q := (RX5, TX5, 6)) 2 rfl (by decide) (by decide) rfl (by decide) (by decide) rfl (by decide) rfl rfl dX7_init_31 ?_
  refine dk_iinc C (3) dX7_init_32 rfl rfl (by decide) rfl ?_
  refine dk_goto C 14 dX7_init_35 (by decide) ?_
  refine dk_iload_n C dX7_init_14 rfl rfl ?_
  refine dk_iconst C (3) dX7_init_15 rfl ?_
  refine dk_icmp_ge C 38 dX7_init_16 (by decide) (fun _ => ?_) (fun hz => absurd (by decide) hz)
  refine dk_aload_n C dX7_init_38 rfl rfl ?_
  refine dk_new C htt (ci := 4) mkX7_16 rfl q14 (by decide) (by decide) dX7_init_39 ?_
  refine dk_dup C dX7_init_42 rfl ?_
  refine dk_callI C mX7_18 (c_X4_init_14 G htt _ _ _ _ q15 q16 q17 q18 q19 q20 q21 q22 q23 q24 q25 q26 q27 q28 q29) rfl rfl (Nat.le_of_ble_eq_true rfl) ⟨by decide, by decide⟩ ⟨by decide, by decide⟩ dX7_init_43 ?_
  rintro _ _ ⟨rfl, rfl⟩
  refine ck_putR C hNm fX7_19 fzX7_1 rfl (by decide) rfl rfl rfl dX7_init_46 ?_
  refine dk_aload_n C dX7_init_49 rfl rfl ?_
  refine dk_new C htt (ci := 3) mkX7_23 rfl q30 (by decide) (by decide) dX7_init_50 ?_
  refine dk_dup C dX7_init_53 rfl ?_
  refine dk_callI C mX7_25 (c_X3_init_30 G htt _ _ _ _ q31 q32 q33 q34 q35 q36 q37) rfl rfl (Nat.le_of_ble_eq_true rfl) ⟨by decide, by decide⟩ ⟨by decide, by decide⟩ dX7_init_54 ?_
  rintro _ _ ⟨rfl, rfl⟩
  refine ck_putR C hNm fX7_26 fzX7_2 rfl (by decide) rfl rfl rfl dX7_init_57 ?_
  refine dk_aload_n C dX7_init_60 rfl rfl ?_
  refine dk_new C htt (ci := 6) mkX7_30 rfl q38 (by decide) (by decide) dX7_init_61 ?_
  refine dk_dup C dX7_init_64 rfl ?_
  refine dk_callI C mX7_32 (c_X6_init_38 G htt _ _ _ _ q39 q40 q41 q42 q43 q44) rfl rfl (Nat.le_of_ble_eq_true rfl) ⟨by decide, by decide⟩ ⟨by decide, by decide⟩ dX7_init_65 ?_
  rintro _ _ ⟨rfl, rfl⟩
  refine ck_putR C hNm fX7_33 fzX7_3 rfl (by decide) rfl rfl rfl dX7_init_68 ?_
  refine dk_aload_n C dX7_init_71 rfl rfl ?_
  refine dk_iconst C (0) dX7_init_72 rfl ?_
  refine ek_putI C fX7_37 fwX7_4 rfl (by decide) rfl dX7_init_73 ?_
  exact dk_vret C E dX7_init_76 (by decide) (by decide) ⟨rfl, rfl⟩
def kIX8_45 (hi : Nat → Nat → Int32) : Nat → Nat → Int32 := md_empty (hi)
def kRX8_45 (hr : Nat → Nat → Option Nat) : Nat → Nat → Option Nat := dk_up (dk_up (dk_up (dk_up (dk_up (dk_up (dk_up (dk_up (dk_up (dk_up (dk_up (dk_up (dk_up (dk_up (dk_up (hr) 45 1 (some 46)) 45 2 (some 47)) 45 3 (some 48)) 45 4 (some 49)) 45 5 (some 50)) 45 8 (some 51)) 45 10 (some 52)) 45 12 (some 53)) 45 14 (some 54)) 45 18 (some 55)) 45 19 (some 56)) 45 20 (some 57)) 45 21 (some 58)) 45 25 (some 59)) 45 29 (some 60)
set_option maxHeartbeats 8000000 in
set_option maxRecDepth 100000 in
theorem c_X8_init_45 (G : dk_G) (htt : G.2.2.2.2.2.2 = true) (hi : Nat → Nat → Int32) (hf : Nat → Nat → UInt32) (hr : Nat → Nat → Option Nat) (z : (Nat → Nat → Int64) × (Nat → Nat → UInt64)) (q46 : dk_def (hi, hf, hr, z) 46) (q47 : dk_def (hi, hf, hr, z) 47) (q48 : dk_def (hi, hf, hr, z) 48) (q49 : dk_def (hi, hf, hr, z) 49) (q50 : dk_def (hi, hf, hr, z) 50) (q51 : dk_def (hi, hf, hr, z) 51) (q52 : dk_def (hi, hf, hr, z) 52) (q53 : dk_def (hi, hf, hr, z) 53) (q54 : dk_def (hi, hf, hr, z) 54) (q55 : dk_def (hi, hf, hr, z) 55) (q56 : dk_def (hi, hf, hr, z) 56) (q57 : dk_def (hi, hf, hr, z) 57) (q58 : dk_def (hi, hf, hr, z) 58) (q59 : dk_def (hi, hf, hr, z) 59) (q60 : dk_def (hi, hf, hr, z) 60) :
    dk_M G yX8_init cX8_init 1 none { frames := 1, cells := 15, slots := 1240, locals := 20 } [.ref 45] 46 (hi, hf, hr, z) 61 (fun r' h' => r' = none ∧ h' = (kIX8_45 hi, hf, kRX8_45 hr, z)) := by
  refine dk_met (L := [some (.ref 45)]) pnX8 rfl (Nat.le_of_ble_eq_true rfl) ?_
  intro X C E hNm
  refine dk_aload_n C dX8_init_0 rfl rfl ?_
  refine dk_objInit C oiX8_1 oi1 oi2 dX8_init_1 (by decide) (by decide) ?_
  refine dk_aload_n C dX8_init_4 rfl rfl ?_
  refine dk_iconst C (3) dX8_init_5 rfl ?_
  refine dk_newa C htt (t := 0) (N := 3) (atype := .int) (by decide) rfl ar_int rfl q46 (by decide) rfl (by decide) (by decide) (by decide) dX8_init_6 ?_
  refine ck_putR C hNm fX8_7 fzX8_1 rfl (by decide) rfl rfl rfl dX8_init_8 ?_
  refine dk_aload_n C dX8_init_11 rfl rfl ?_
  refine dk_iconst C (3) dX8_init_12 rfl ?_
  refine dk_newa C htt (t := 0) (N := 3) (atype := .int) (by decide) rfl ar_int rfl q47 (by decide) rfl (by decide) (by decide) (by decide) dX8_init_13 ?_
  refine ck_putR C hNm fX8_13 fzX8_2 rfl (by decide) rfl rfl rfl dX8_init_15 ?_
  refine dk_aload_n C dX8_init_18 rfl rfl ?_
  refine dk_sipush C (180) dX8_init_19 rfl ?_
  refine dk_newa C htt (t := 1) (N := 180) (atype := .boolean) (by decide) rfl ar_boolean rfl q48 (by decide) rfl (by decide) (by decide) (by decide) dX8_init_22 ?_
  refine ck_putR C hNm fX8_16 fzX8_3 rfl (by decide) rfl rfl rfl dX8_init_24 ?_
  refine dk_aload_n C dX8_init_27 rfl rfl ?_
  refine dk_sipush C (720) dX8_init_28 rfl ?_
  refine dk_newa C htt (t := 0) (N := 720) (atype := .int) (by decide) rfl ar_int rfl q49 (by decide) rfl (by decide) (by decide) (by decide) dX8_init_31 ?_
  refine ck_putR C hNm fX8_20 fzX8_4 rfl (by decide) rfl rfl rfl dX8_init_33 ?_
  refine dk_aload_n C dX8_init_36 rfl rfl ?_
  refine dk_bipush C (24) dX8_init_37 rfl ?_
  refine dk_newa C htt (t := 1) (N := 24) (atype := .boolean) (by decide) rfl ar_boolean rfl q50 (by decide) rfl (by decide) (by decide) (by decide) dX8_init_39 ?_
  refine ck_putR C hNm fX8_23 fzX8_5 rfl (by decide) rfl rfl rfl dX8_init_41 ?_
  refine dk_aload_n C dX8_init_44 rfl rfl ?_
  refine dk_iconst C (3) dX8_init_45 rfl ?_
  refine dk_newa C htt (t := 0) (N := 3) (atype := .int) (by decide) rfl ar_int rfl q51 (by decide) rfl (by decide) (by decide) (by decide) dX8_init_46 ?_
  refine ck_putR C hNm fX8_26 fzX8_8 rfl (by decide) rfl rfl rfl dX8_init_48 ?_
  refine dk_aload_n C dX8_init_51 rfl rfl ?_
  refine dk_bipush C (16) dX8_init_52 rfl ?_
  refine dk_newa C htt (t := 0) (N := 16) (atype := .int) (by decide) rfl ar_int rfl q52 (by decide) rfl (by decide) (by decide) (by decide) dX8_init_54 ?_
  refine ck_putR C hNm fX8_29 fzX8_10 rfl (by decide) rfl rfl rfl dX8_init_56 ?_
  refine dk_aload_n C dX8_init_59 rfl rfl ?_
  refine dk_bipush C (12) dX8_init_60 rfl ?_
  refine dk_newa C htt (t := 0) (N := 12) (atype := .int) (by decide) rfl ar_int rfl q53 (by decide) rfl (by decide) (by decide) (by decide) dX8_init_62 ?_
  refine ck_putR C hNm fX8_32 fzX8_12 rfl (by decide) rfl rfl rfl dX8_init_64 ?_
  refine dk_aload_n C dX8_init_67 rfl rfl ?_
  refine dk_bipush C (8) dX8_init_68 rfl ?_
  refine dk_newa C htt (t := 0) (N := 8) (atype := .int) (by decide) rfl ar_int rfl q54 (by decide) rfl (by decide) (by decide) (by decide) dX8_init_70 ?_
  refine ck_putR C hNm fX8_35 fzX8_14 rfl (by decide) rfl rfl rfl dX8_init_72 ?_
  refine dk_aload_n C dX8_init_75 rfl rfl ?_
  refine dk_iconst C (3) dX8_init_76 rfl ?_
  refine dk_newa C htt (t := 0) (N := 3) (atype := .int) (by decide) rfl ar_int rfl q55 (by decide) rfl (by decide) (by decide) (by decide) dX8_init_77 ?_
  refine ck_putR C hNm fX8_38 fzX8_18 rfl (by decide) rfl rfl rfl dX8_init_79 ?_
  refine dk_aload_n C dX8_init_82 rfl rfl ?_
  refine dk_iconst C (3) dX8_init_83 rfl ?_
  refine dk_newa C htt (t := 0) (N := 3) (atype := .int) (by decide) rfl ar_int rfl q56 (by decide) rfl (by decide) (by decide) (by decide) dX8_init_84 ?_
  refine ck_putR C hNm fX8_41 fzX8_19 rfl (by decide) rfl rfl rfl dX8_init_86 ?_
  refine dk_aload_n C dX8_init_89 rfl rfl ?_
  refine dk_iconst C (3) dX8_init_90 rfl ?_
  refine dk_newa C htt (t := 0) (N := 3) (atype := .int) (by decide) rfl ar_int rfl q57 (by decide) rfl (by decide) (by decide) (by decide) dX8_init_91 ?_
  refine ck_putR C hNm fX8_44 fzX8_20 rfl (by decide) rfl rfl rfl dX8_init_93 ?_
  refine dk_aload_n C dX8_init_96 rfl rfl ?_
  refine dk_iconst C (3) dX8_init_97 rfl ?_
  refine dk_newa C htt (t := 0) (N := 3) (atype := .int) (by decide) rfl ar_int rfl q58 (by decide) rfl (by decide) (by decide) (by decide) dX8_init_98 ?_
  refine ck_putR C hNm fX8_47 fzX8_21 rfl (by decide) rfl rfl rfl dX8_init_100 ?_
  refine dk_aload_n C dX8_init_103 rfl rfl ?_
  refine dk_iconst C (3) dX8_init_104 rfl ?_
  refine dk_newa C htt (t := 0) (N := 3) (atype := .int) (by decide) rfl ar_int rfl q59 (by decide) rfl (by decide) (by decide) (by decide) dX8_init_105 ?_
  refine ck_putR C hNm fX8_50 fzX8_25 rfl (by decide) rfl rfl rfl dX8_init_107 ?_
  refine dk_aload_n C dX8_init_110 rfl rfl ?_
  refine dk_sipush C (256) dX8_init_111 rfl ?_
  refine dk_newa C htt (t := 0) (N := 256) (atype := .int) (by decide) rfl ar_int rfl q60 (by decide) rfl (by decide) (by decide) (by decide) dX8_init_114 ?_
  refine ck_putR C hNm fX8_53 fzX8_29 rfl (by decide) rfl rfl rfl dX8_init_116 ?_
  refine dk_aload_n C dX8_init_119 rfl rfl ?_
  refine dk_callV C mX8_56 (c_X8_empty0 G _ _ _ _ (by decide)) rfl (by decide) rfl rfl (Nat.le_of_ble_eq_true rfl) ⟨by decide, by decide⟩ ⟨by decide, by decide⟩ dX8_init_120 ?_
  rintro _ _ ⟨rfl, rfl⟩
  exact dk_vret C E dX8_init_123 (by decide) (by decide) ⟨rfl, rfl⟩
