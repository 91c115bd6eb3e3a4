theorem nfw : nativeFrameWords "java/lang/System" "arraycopy" 5 = 7 := by decide +kernel
/-- one array's ints moved within it -/
def dk_cp (hi : Nat → Nat → Int32) (a sp dp k : Nat) : Nat → Nat → Int32 := fun i j => if i = a then va_cpy (hi a) (hi a) sp dp k j else hi i j
/-- the sources with one more -/
def sr_up (sr : Nat → Option Nat) (k : Nat) (v : Option Nat) : Nat → Option Nat := fun j => if j = k then v else sr j
theorem dk_RF_up (sr : Nat → Option Nat) (k : Nat) (v : Option Nat) : dk_up (dk_RF sr) 15 k v = dk_RF (sr_up sr k v) := by
  funext i j
  unfold dk_up
  by_cases e : i = 15
  · subst e
    by_cases e2 : j = k
    · subst e2
      rw [if_pos ⟨rfl, rfl⟩]
      show v = sr_up sr j v j
      simp [sr_up]
    · rw [if_neg (fun q => e2 q.2)]
      show sr j = sr_up sr k v j
      simp [sr_up, e2]
  · rw [if_neg (fun q => e q.1)]
    unfold dk_RF
    split <;> first | rfl | exact absurd rfl e
section EK2
variable {X : dk_X} {cc : ByteArray} {own : String} {nL : Nat} {ret : Option FieldType} {rm : Room} {G : dk_G} {pc : Nat} {L : List (Option Value)} {S : List Value} {n : Nat} {kc ks : Nat} {hi : Nat → Nat → Int32} {hf : Nat → Nat → UInt32} {hr : Nat → Nat → Option Nat} {z : (Nat → Nat → Int64) × (Nat → Nat → UInt64)}
theorem ek_copyi (C : dk_C X cc own nL ret rm G) {idx a N : Nat} {sp dp i : Int32} (h01 : Cond.methodLink own idx arraycopyName ∈ dk_tbl) (hs : dk_SH a = .inr (0, N)) (ha : a < n)
    (s d9 k9 : Nat) (h1 : sp = nI s) (h2 : dp = nI d9) (h3 : i = nI k9) (h4 : s + k9 ≤ N) (h5 : d9 + k9 ≤ N) (hN : N < 2 ^ 31) (hfr : 1 ≤ rm.frames) (hlo : (S.map fun v => v.category).sum + 18 ≤ rm.locals) (d : decode cc pc = .ok (.invokestatic idx, 3))
    (k : dk_W X (pc + 3) L S n (dk_cp hi a s d9 k9, hf, hr, z) kc ks) : dk_W X pc L (.int i :: .int dp :: .ref a :: .int sp :: .ref a :: S) n (hi, hf, hr, z) kc ks := by
  subst h1 h2 h3
  have e1 : (nI s).toNatClampNeg = s := nI_clamp (by omega)
  have e2 : (nI d9).toNatClampNeg = d9 := nI_clamp (by omega)
  have e3 : (nI k9).toNatClampNeg = k9 := nI_clamp (by omega)
  refine dk_copyi C h01 ac2 ac3 ac4 hs ha (nI_pos (by omega)) (nI_pos (by omega)) (nI_pos (by omega)) (by rw [e1, e3]; exact h4) (by rw [e2, e3]; exact h5) hfr (by rw [nfw]; exact hlo) d ?_
  rw [e1, e2, e3]
  exact k
theorem ek_aast (C : dk_C X cc own nL ret rm G) {v : Nat} {i : Int32} {sr : Nat → Option Nat} (j : Nat) (hj : i = nI j) (hlt : j < 3) (T : dk_T v) (d : decode cc pc = .ok (.aastore, 1)) (k : dk_W X (pc + 1) L S 63 (hi, hf, dk_RF (sr_up sr j (some v)), z) kc ks) : dk_W X pc L (.ref v :: .int i :: .ref 15 :: S) 63 (hi, hf, dk_RF sr, z) kc ks := by
  obtain ⟨h1, h2⟩ := nI_at hj hlt (by decide)
  refine dk_aast C (q := (RX5, TX5, 6)) (t := 5) rfl (by decide) (by decide) h1 T.s0 T.l0 rfl rfl d ?_
  rw [h2]
  show dk_W X (pc + 1) L S 63 (hi, hf, dk_up (dk_RF sr) 15 j (some v), z) kc ks
  rw [dk_RF_up]
  exact k
end EK2
