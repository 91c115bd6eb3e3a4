/-! ===== the finished desk: 63 cells, references as the constructors left them ===== -/
def dk_l (l : List Nat) (k : Nat) : Option Nat := (l.map some).getD k none
def dk_RF (sr : Nat → Option Nat) (a k : Nat) : Option Nat := match a with
  | 0 => dk_l [1, 14, 30, 38] k
  | 1 => dk_l [2, 6, 10] k
  | 2 => dk_l [3, 4, 5] k
  | 6 => dk_l [7, 8, 9] k
  | 10 => dk_l [11, 12, 13] k
  | 14 => dk_l [15, 16, 21, 25] k
  | 15 => sr k
  | 16 => dk_l [17, 18, 19, 20] k
  | 21 => dk_l [22, 23, 24] k
  | 25 => dk_l [26, 27, 28, 29] k
  | 30 => dk_l [31, 32, 33, 34, 35, 36, 37] k
  | 38 => dk_l [39, 40, 41, 42, 43, 44] k
  | 45 => ([none, some 46, some 47, some 48, some 49, some 50, none, none, some 51, none, some 52, none, some 53, none, some 54, none, none, none, some 55, some 56, some 57, some 58, none, none, none, some 59, none, none, none, some 60] : List (Option Nat)).getD k none
  | _ => none
/-- a table's cell -/
def dk_T (t : Nat) : Prop := t = 2 ∨ t = 6 ∨ t = 10
theorem dk_T.s0 {t : Nat} (T : dk_T t) : dk_SH t = .inl 5 := by rcases T with rfl | rfl | rfl <;> rfl
theorem dk_T.s1 {t : Nat} (T : dk_T t) : dk_SH (t + 1) = .inr (0, 24) := by rcases T with rfl | rfl | rfl <;> rfl
theorem dk_T.s2 {t : Nat} (T : dk_T t) : dk_SH (t + 2) = .inr (0, 96) := by rcases T with rfl | rfl | rfl <;> rfl
theorem dk_T.s3 {t : Nat} (T : dk_T t) : dk_SH (t + 3) = .inr (1, 8) := by rcases T with rfl | rfl | rfl <;> rfl
theorem dk_T.l0 {t : Nat} (T : dk_T t) : t < 63 := by rcases T with rfl | rfl | rfl <;> decide
theorem dk_T.l1 {t : Nat} (T : dk_T t) : t + 1 < 63 := by rcases T with rfl | rfl | rfl <;> decide
theorem dk_T.l2 {t : Nat} (T : dk_T t) : t + 2 < 63 := by rcases T with rfl | rfl | rfl <;> decide
theorem dk_T.l3 {t : Nat} (T : dk_T t) : t + 3 < 63 := by rcases T with rfl | rfl | rfl <;> decide
theorem dk_T.r0 {t : Nat} (T : dk_T t) (sr : Nat → Option Nat) : dk_RF sr t 0 = some (t + 1) := by rcases T with rfl | rfl | rfl <;> rfl
theorem dk_T.r1 {t : Nat} (T : dk_T t) (sr : Nat → Option Nat) : dk_RF sr t 1 = some (t + 2) := by rcases T with rfl | rfl | rfl <;> rfl
theorem dk_T.r2 {t : Nat} (T : dk_T t) (sr : Nat → Option Nat) : dk_RF sr t 2 = some (t + 3) := by rcases T with rfl | rfl | rfl <;> rfl
/-- a condition's, a join's, an output's cell -/
def dk_Q0 (c : Nat) : Prop := 17 ≤ c ∧ c < 21
def dk_Q1 (c : Nat) : Prop := 22 ≤ c ∧ c < 25
def dk_Q2 (c : Nat) : Prop := 26 ≤ c ∧ c < 30
theorem dk_Q0.s0 {c : Nat} (Q : dk_Q0 c) : dk_SH c = .inl 0 := by obtain ⟨a, b⟩ := Q; rcases (show c = 17 ∨ c = 18 ∨ c = 19 ∨ c = 20 by omega) with rfl | rfl | rfl | rfl <;> rfl
theorem dk_Q1.s0 {c : Nat} (Q : dk_Q1 c) : dk_SH c = .inl 1 := by obtain ⟨a, b⟩ := Q; rcases (show c = 22 ∨ c = 23 ∨ c = 24 by omega) with rfl | rfl | rfl <;> rfl
theorem dk_Q2.s0 {c : Nat} (Q : dk_Q2 c) : dk_SH c = .inl 2 := by obtain ⟨a, b⟩ := Q; rcases (show c = 26 ∨ c = 27 ∨ c = 28 ∨ c = 29 by omega) with rfl | rfl | rfl | rfl <;> rfl
theorem dk_Q0.l0 {c : Nat} (Q : dk_Q0 c) : c < 63 := Nat.lt_trans Q.2 (by decide)
theorem dk_Q1.l0 {c : Nat} (Q : dk_Q1 c) : c < 63 := Nat.lt_trans Q.2 (by decide)
theorem dk_Q2.l0 {c : Nat} (Q : dk_Q2 c) : c < 63 := Nat.lt_trans Q.2 (by decide)
/-- a contract of a method that makes no cell, by its answer and its heap -/
abbrev dk_MF (G : dk_G) (y : MethodName) (cc : ByteArray) (nL : Nat) (ret : Option FieldType) (rf rl : Nat) (as : List Value) (h : dk_H) (r : Option Value) (h1 : dk_H) : Prop :=
  dk_M G y cc nL ret { frames := rf, cells := 0, slots := 0, locals := rl } as 63 h 63 (fun r' h' => r' = r ∧ h' = h1)
theorem nI_at {i : Int32} {j N : Nat} (hj : i = nI j) (hlt : j < N) (hN : N < 2 ^ 31) : vp_in i N ∧ i.toNatClampNeg = j := by
  subst hj
  exact ⟨vp_in_nI hlt hN, nI_clamp (Nat.lt_trans hlt hN)⟩
section EK
variable {X : dk_X} {cc : ByteArray} {own : String} {nL : Nat} {ret : Option FieldType} {rm : Room} {G : dk_G} {pc : Nat} {L : List (Option Value)} {S : List Value} {n : Nat} {kc ks : Nat} {hi : Nat → Nat → Int32} {hf : Nat → Nat → UInt32} {hr : Nat → Nat → Option Nat} {z : (Nat → Nat → Int64) × (Nat → Nat → UInt64)}
theorem ek_getI (C : dk_C X cc own nL ret rm G) {idx ci kf a : Nat} (F : dk_F own idx ci kf) (hs : dk_SH a = .inl ci) (ha : a < n) (hk : (dk_ks ci).getD kf 0 = 0) (d : decode cc pc = .ok (.getfield idx, 3)) (k : dk_W X (pc + 3) L (.int (hi a kf) :: S) n (hi, hf, hr, z) kc ks) : dk_W X pc L (.ref a :: S) n (hi, hf, hr, z) kc ks :=
  dk_getf C F hs ha (.int (hi a kf)) (by rw [hk]; rfl) d k
theorem ek_getF (C : dk_C X cc own nL ret rm G) {idx ci kf a : Nat} (F : dk_F own idx ci kf) (hs : dk_SH a = .inl ci) (ha : a < n) (hk : (dk_ks ci).getD kf 0 = 1) (d : decode cc pc = .ok (.getfield idx, 3)) (k : dk_W X (pc + 3) L (.float (hf a kf) :: S) n (hi, hf, hr, z) kc ks) : dk_W X pc L (.ref a :: S) n (hi, hf, hr, z) kc ks :=
  dk_getf C F hs ha (.float (hf a kf)) (by rw [hk]; rfl) d k
theorem ek_getR (C : dk_C X cc own nL ret rm G) {idx ci kf a : Nat} (F : dk_F own idx ci kf) (hs : dk_SH a = .inl ci) (ha : a < n) (hk : (dk_ks ci).getD kf 0 = 2) (j : Nat) (hv : hr a kf = some j) (d : decode cc pc = .ok (.getfield idx, 3)) (k : dk_W X (pc + 3) L (.ref j :: S) n (hi, hf, hr, z) kc ks) : dk_W X pc L (.ref a :: S) n (hi, hf, hr, z) kc ks :=
  dk_getf C F hs ha (.ref j) (by rw [hk]; show va_rf (hr a kf) = _; rw [hv]; rfl) d k
theorem ek_putI (C : dk_C X cc own nL ret rm G) {idx ci kf a : Nat} (F : dk_F own idx ci kf) (Fw : dk_Fw ci kf .int) (hs : dk_SH a = .inl ci) (ha : a < n) (hk : (dk_ks ci).getD kf 0 = 0) {x : Int32} (d : decode cc pc = .ok (.putfield idx, 3)) (k : dk_W X (pc + 3) L S n (dk_up hi a kf x, hf, hr, z) kc ks) : dk_W X pc L (.int x :: .ref a :: S) n (hi, hf, hr, z) kc ks :=
  dk_putf C F Fw hs ha rfl rfl (dk_sI (hi, hf, hr, z) a kf x) (by rw [hk]; exact dk_upI _ _ _ _) d k
theorem ek_putZ (C : dk_C X cc own nL ret rm G) {idx ci kf a : Nat} (F : dk_F own idx ci kf) (Fw : dk_Fw ci kf .boolean) (hs : dk_SH a = .inl ci) (ha : a < n) (hk : (dk_ks ci).getD kf 0 = 0) {x : Int32} (hx : x = 0 ∨ x = 1) (d : decode cc pc = .ok (.putfield idx, 3)) (k : dk_W X (pc + 3) L S n (dk_up hi a kf x, hf, hr, z) kc ks) : dk_W X pc L (.int x :: .ref a :: S) n (hi, hf, hr, z) kc ks :=
  dk_putf C F Fw hs ha (by rcases hx with rfl | rfl <;> rfl) (by rcases hx with rfl | rfl <;> rfl) (dk_sI (hi, hf, hr, z) a kf x) (by rw [hk]; exact dk_upI _ _ _ _) d k
theorem ek_putF (C : dk_C X cc own nL ret rm G) {idx ci kf a : Nat} (F : dk_F own idx ci kf) (Fw : dk_Fw ci kf .float) (hs : dk_SH a = .inl ci) (ha : a < n) (hk : (dk_ks ci).getD kf 0 = 1) {x : UInt32} (d : decode cc pc = .ok (.putfield idx, 3)) (k : dk_W X (pc + 3) L S n (hi, dk_up hf a kf x, hr, z) kc ks) : dk_W X pc L (.float x :: .ref a :: S) n (hi, hf, hr, z) kc ks :=
  dk_putf C F Fw hs ha rfl rfl (dk_sF (hi, hf, hr, z) a kf x) (by rw [hk]; exact dk_upF _ _ _ _) d k
theorem ek_iald (C : dk_C X cc own nL ret rm G) {a N : Nat} {i : Int32} (hs : dk_SH a = .inr (0, N)) (ha : a < n) (j : Nat) (hj : i = nI j) (hlt : j < N) (hN : N < 2 ^ 31) (d : decode cc pc = .ok (.iaload, 1)) (k : dk_W X (pc + 1) L (.int (hi a j) :: S) n (hi, hf, hr, z) kc ks) : dk_W X pc L (.int i :: .ref a :: S) n (hi, hf, hr, z) kc ks := by
  obtain ⟨h1, h2⟩ := nI_at hj hlt hN
  exact dk_iald C hs ha h1 d (by rw [h2]; exact k)
theorem ek_zald (C : dk_C X cc own nL ret rm G) {a N : Nat} {i : Int32} (hs : dk_SH a = .inr (1, N)) (ha : a < n) (j : Nat) (hj : i = nI j) (hlt : j < N) (hN : N < 2 ^ 31) (d : decode cc pc = .ok (.baload, 1)) (k : dk_W X (pc + 1) L (.int (hi a j) :: S) n (hi, hf, hr, z) kc ks) : dk_W X pc L (.int i :: .ref a :: S) n (hi, hf, hr, z) kc ks := by
  obtain ⟨h1, h2⟩ := nI_at hj hlt hN
  exact dk_zald C hs ha h1 d (by rw [h2]; exact k)
theorem ek_fald (C : dk_C X cc own nL ret rm G) {a N : Nat} {i : Int32} (hs : dk_SH a = .inr (2, N)) (ha : a < n) (j : Nat) (hj : i = nI j) (hlt : j < N) (hN : N < 2 ^ 31) (d : decode cc pc = .ok (.faload, 1)) (k : dk_W X (pc + 1) L (.float (hf a j) :: S) n (hi, hf, hr, z) kc ks) : dk_W X pc L (.int i :: .ref a :: S) n (hi, hf, hr, z) kc ks := by
  obtain ⟨h1, h2⟩ := nI_at hj hlt hN
  exact dk_fald C hs ha h1 d (by rw [h2]; exact k)
theorem ek_aald (C : dk_C X cc own nL ret rm G) {a N t : Nat} {i : Int32} (hs : dk_SH a = .inr (t, N)) (ht : 5 ≤ t ∧ t < 9) (ha : a < n) (j : Nat) (hj : i = nI j) (hlt : j < N) (hN : N < 2 ^ 31) (v : Nat) (hv : hr a j = some v) (d : decode cc pc = .ok (.aaload, 1)) (k : dk_W X (pc + 1) L (.ref v :: S) n (hi, hf, hr, z) kc ks) : dk_W X pc L (.int i :: .ref a :: S) n (hi, hf, hr, z) kc ks := by
  obtain ⟨h1, h2⟩ := nI_at hj hlt hN
  exact dk_aald C hs ht ha h1 (.ref v) (by rw [h2]; show va_rf (hr a j) = _; rw [hv]; rfl) d k
theorem ek_iast (C : dk_C X cc own nL ret rm G) {a N : Nat} {i x : Int32} (hs : dk_SH a = .inr (0, N)) (ha : a < n) (j : Nat) (hj : i = nI j) (hlt : j < N) (hN : N < 2 ^ 31) (d : decode cc pc = .ok (.iastore, 1)) (k : dk_W X (pc + 1) L S n (dk_up hi a j x, hf, hr, z) kc ks) : dk_W X pc L (.int x :: .int i :: .ref a :: S) n (hi, hf, hr, z) kc ks := by
  obtain ⟨h1, h2⟩ := nI_at hj hlt hN
  exact dk_iast C hs ha h1 d (by rw [h2]; exact k)
theorem ek_zast (C : dk_C X cc own nL ret rm G) {a N : Nat} {i x : Int32} (hs : dk_SH a = .inr (1, N)) (ha : a < n) (j : Nat) (hj : i = nI j) (hlt : j < N) (hN : N < 2 ^ 31) (hx : x = 0 ∨ x = 1) (d : decode cc pc = .ok (.bastore, 1)) (k : dk_W X (pc + 1) L S n (dk_up hi a j x, hf, hr, z) kc ks) : dk_W X pc L (.int x :: .int i :: .ref a :: S) n (hi, hf, hr, z) kc ks := by
  obtain ⟨h1, h2⟩ := nI_at hj hlt hN
  exact dk_zast C hs ha h1 (by rcases hx with rfl | rfl <;> rfl) d (by rw [h2]; exact k)
theorem ek_fast (C : dk_C X cc own nL ret rm G) {a N : Nat} {i : Int32} {x : UInt32} (hs : dk_SH a = .inr (2, N)) (ha : a < n) (j : Nat) (hj : i = nI j) (hlt : j < N) (hN : N < 2 ^ 31) (d : decode cc pc = .ok (.fastore, 1)) (k : dk_W X (pc + 1) L S n (hi, dk_up hf a j x, hr, z) kc ks) : dk_W X pc L (.float x :: .int i :: .ref a :: S) n (hi, hf, hr, z) kc ks := by
  obtain ⟨h1, h2⟩ := nI_at hj hlt hN
  exact dk_fast C hs ha h1 d (by rw [h2]; exact k)
theorem ek_callV (C : dk_C X cc own nL ret rm G) {y : MethodName} {cc' : ByteArray} {nL' rf rl : Nat} {ret' : Option FieldType} {a : Nat} {as : List Value} {St : List Value} {idx np ci : Nat} {h h1 : dk_H} {v : Value}
    (K : dk_LV own idx y cc' nL' ret' np ci) (M : dk_MF G y cc' nL' ret' rf rl (.ref a :: as) h (some v) h1) (hs : dk_SH a = .inl ci) (ha : a < 63) (hst : St = as.reverse ++ .ref a :: S) (hnp : as.length = np) (hw : (S.map fun v => v.category).sum ≤ 8)
    (hro : rf + 1 ≤ rm.frames) (hro2 : 8 + (nL' + 11) + rl ≤ rm.locals) (hc : kc ≤ rm.cells) (hc2 : ks ≤ rm.slots) (d : decode cc pc = .ok (.invokevirtual idx, 3))
    (k : dk_W X (pc + 3) L (v :: S) 63 h1 kc ks) : dk_W X pc L St 63 h kc ks :=
  dk_callV C K M hs ha hst hnp hw ⟨hro, hro2⟩ ⟨hc, hc2⟩ d (fun r h' hq => by obtain ⟨rfl, rfl⟩ := hq; exact k)
theorem ek_callVv (C : dk_C X cc own nL ret rm G) {y : MethodName} {cc' : ByteArray} {nL' rf rl : Nat} {ret' : Option FieldType} {a : Nat} {as : List Value} {St : List Value} {idx np ci : Nat} {h h1 : dk_H}
    (K : dk_LV own idx y cc' nL' ret' np ci) (M : dk_MF G y cc' nL' ret' rf rl (.ref a :: as) h none h1) (hs : dk_SH a = .inl ci) (ha : a < 63) (hst : St = as.reverse ++ .ref a :: S) (hnp : as.length = np) (hw : (S.map fun v => v.category).sum ≤ 8)
    (hro : rf + 1 ≤ rm.frames) (hro2 : 8 + (nL' + 11) + rl ≤ rm.locals) (hc : kc ≤ rm.cells) (hc2 : ks ≤ rm.slots) (d : decode cc pc = .ok (.invokevirtual idx, 3))
    (k : dk_W X (pc + 3) L S 63 h1 kc ks) : dk_W X pc L St 63 h kc ks :=
  dk_callV C K M hs ha hst hnp hw ⟨hro, hro2⟩ ⟨hc, hc2⟩ d (fun r h' hq => by obtain ⟨rfl, rfl⟩ := hq; exact k)
theorem ek_callS (C : dk_C X cc own nL ret rm G) {y : MethodName} {cc' : ByteArray} {nL' rf rl : Nat} {ret' : Option FieldType} {as : List Value} {St : List Value} {idx np : Nat} {h h1 : dk_H} {v : Value}
    (K : dk_LS own idx y cc' nL' ret' np) (M : dk_MF G y cc' nL' ret' rf rl as h (some v) h1) (hst : St = as.reverse ++ S) (hnp : as.length = np) (hw : (S.map fun v => v.category).sum ≤ 8)
    (hro : rf + 1 ≤ rm.frames) (hro2 : 8 + (nL' + 11) + rl ≤ rm.locals) (hc : kc ≤ rm.cells) (hc2 : ks ≤ rm.slots) (d : decode cc pc = .ok (.invokestatic idx, 3))
    (k : dk_W X (pc + 3) L (v :: S) 63 h1 kc ks) : dk_W X pc L St 63 h kc ks :=
  dk_callS C K M hst hnp hw ⟨hro, hro2⟩ ⟨hc, hc2⟩ d (fun r h' hq => by obtain ⟨rfl, rfl⟩ := hq; exact k)
end EK

theorem pnX0 : plainName RX0 = true := by decide +kernel
theorem pnX1 : plainName RX1 = true := by decide +kernel
theorem pnX2 : plainName RX2 = true := by decide +kernel
theorem pnX3 : plainName RX3 = true := by decide +kernel
theorem pnX4 : plainName RX4 = true := by decide +kernel
theorem pnX5 : plainName RX5 = true := by decide +kernel
theorem pnX6 : plainName RX6 = true := by decide +kernel
theorem pnX7 : plainName RX7 = true := by decide +kernel
theorem pnX8 : plainName RX8 = true := by decide +kernel
theorem pnL : plainName RL = true := by decide +kernel
