/-! ===== the law: its helpers' links, its script ===== -/
def hx_LS (own : String) (idx : Nat) (y : MethodName) (cc : ByteArray) (nL : Nat) (ret : Option FieldType) (hh : List (Nat × Nat × Nat × Nat)) (np : Nat) : Prop :=
  (Cond.methodLink own idx y ∈ dk_tbl ∧ Cond.initialized y.cls ∈ dk_tbl ∧ Cond.codeWith y cc nL ret hh ∈ dk_tbl ∧ Cond.static y ∈ dk_tbl) ∧ y.cls ≠ "java/lang/invoke/MethodHandle" ∧ y.cls ≠ "java/lang/invoke/VarHandle" ∧ (parseMethodDescriptor y.desc).map (fun d => d.parameters.length) = some np
theorem hL_51 : hx_LS RL 51 yL_insert cL_insert 8 (some .int) [(0, 16, 19, 13), (0, 16, 23, 15)] 7 := ⟨⟨(dk_m3 15 rfl rfl), (dk_m1 0 rfl rfl), (dk_m3 17 rfl rfl), (dk_m3 16 rfl rfl)⟩, by decide +kernel, by decide +kernel, by decide +kernel⟩
theorem hL_61 : hx_LS RL 61 yL_delete cL_delete 4 (some .int) [(0, 6, 9, 13)] 3 := ⟨⟨(dk_m3 116 rfl rfl), (dk_m1 0 rfl rfl), (dk_m3 118 rfl rfl), (dk_m3 117 rfl rfl)⟩, by decide +kernel, by decide +kernel, by decide +kernel⟩
theorem hL_65 : hx_LS RL 65 yL_update cL_update 6 (some .int) [(0, 9, 12, 13)] 5 := ⟨⟨(dk_m3 139 rfl rfl), (dk_m1 0 rfl rfl), (dk_m3 141 rfl rfl), (dk_m3 140 rfl rfl)⟩, by decide +kernel, by decide +kernel, by decide +kernel⟩
theorem hL_69 : hx_LS RL 69 yL_cell cL_cell 6 (some .int) [(0, 12, 15, 13)] 5 := ⟨⟨(dk_m3 151 rfl rfl), (dk_m1 0 rfl rfl), (dk_m3 153 rfl rfl), (dk_m3 152 rfl rfl)⟩, by decide +kernel, by decide +kernel, by decide +kernel⟩
theorem hL_114 : hx_LS RL 114 yL_plan cL_plan 3 (some .int) [(0, 8, 11, 15)] 2 := ⟨⟨(dk_m3 159 rfl rfl), (dk_m1 0 rfl rfl), (dk_m3 161 rfl rfl), (dk_m3 160 rfl rfl)⟩, by decide +kernel, by decide +kernel, by decide +kernel⟩
theorem hL_118 : hx_LS RL 118 yL_explain cL_explain 5 (some .int) [(0, 10, 13, 37)] 4 := ⟨⟨(dk_m4 17 rfl rfl), (dk_m1 0 rfl rfl), (dk_m4 19 rfl rfl), (dk_m4 18 rfl rfl)⟩, by decide +kernel, by decide +kernel, by decide +kernel⟩
theorem hL_130 : hx_LS RL 130 yL_answer cL_answer 5 (some .int) [(0, 10, 13, 15), (0, 10, 17, 37)] 4 := ⟨⟨(dk_m4 41 rfl rfl), (dk_m1 0 rfl rfl), (dk_m4 43 rfl rfl), (dk_m4 42 rfl rfl)⟩, by decide +kernel, by decide +kernel, by decide +kernel⟩
def hx_K (X : dk_X) : Prop := match X with
  | (_, _, _, s, _, _, _, _, _, _, G) => dk_XK G s
/-- the script, an old array -/
def lw_S (X : dk_X) (N : Nat) (xs : Nat → Int32) : Prop := match X with
  | (_, _, _, s, _, _, _, _, _, _, G) => va_X (dk_sa G 3) N xs s (dk_H0 G) ∧ dk_sa G 3 < dk_b G
section LW
variable {X : dk_X} {cc : ByteArray} {own : String} {nL : Nat} {ret : Option FieldType} {rm : Room} {G : dk_G} {pc : Nat} {L : List (Option Value)} {S : List Value} {n : Nat} {h : dk_H} {kc ks : Nat} {post : Option Value → dk_H → Prop} {hh : List (Nat × Nat × Nat × Nat)}
theorem hx_callS (C : dk_C X cc own nL ret rm G) (XK : hx_K X) {y : MethodName} {cc' : ByteArray} {nL' : Nat} {ret' : Option FieldType} {rm' : Room} {as : List Value} {St : List Value} {idx np : Nat}
    (K : hx_LS own idx y cc' nL' ret' hh np) (M : hx_M G y cc' nL' ret' hh rm' as n h post) (hst : St = as.reverse ++ S) (hnp : as.length = np) (hw : (S.map fun v => v.category).sum ≤ 8)
    (hroom : rm'.frames + 1 ≤ rm.frames ∧ 8 + (nL' + 11) + rm'.locals ≤ rm.locals) (hcell : kc + rm'.cells ≤ rm.cells ∧ ks + rm'.slots ≤ rm.slots) (d : decode cc pc = .ok (.invokestatic idx, 3))
    (k : ∀ (r : Option Value) (h' : dk_H), post r h' → dk_W X (pc + 3) L (dk_push r S) n h' (kc + rm'.cells) (ks + rm'.slots)) : dk_W X pc L St n h kc ks := by
  obtain ⟨p, e, R, s, m, args, below, meth, c, Q, G'⟩ := X
  obtain ⟨hx, hb, hml, hown, hts, hr, hlk, hRm, hG, hK⟩ := C
  subst hG hst hRm
  have XK : dk_XK _ s := XK
  intro H locs ls hR hf hl
  obtain ⟨⟨k1, k2, k3, k7⟩, k4, k5, k6⟩ := K
  refine dk_back (vx_runSW (As := as.map (dk_rv _)) (bytes := cc') (maxL := nL') (ret := ret') (hh := hh) ⟨hx, hb, hml, hown, hts⟩ M (vx_cwSW np hts (dk_goodIn ?_) rfl rfl rfl ⟨k4, k5, k6⟩ hroom) ⟨nx_blind, fun U hU hW => ⟨rfl, hK.warm hW, by rw [hU]; exact hR, XK.warm hW⟩⟩ rfl (dk_lenR hnp) (hl.1.trans hml) ?_ (lv_room (by rw [dk_cats]; exact hw)) d hcell) hf hl k
  · intro w hw9
    unfold va_wsS at hw9
    rcases List.mem_append.mp hw9 with h1 | h1
    · simp only [List.mem_cons, List.not_mem_nil, or_false] at h1
      rcases h1 with rfl | rfl | rfl
      · exact k1
      · exact k7
      · exact k2
    · rcases List.mem_cons.mp h1 with rfl | h1
      · exact k3
      · exact h1
  · simp
theorem dk_sald (C : dk_C X cc own nL ret rm G) {N : Nat} {xs : Nat → Int32} (S3 : lw_S X N xs) {i : Int32} (j : Nat) (hj : i = nI j) (hlt : j < N) (hN : N < 2 ^ 31) (d : decode cc pc = .ok (.iaload, 1)) (k : dk_W X (pc + 1) L (.int (xs j) :: S) n h kc ks) : dk_W X pc L (.int i :: .retAddr 3 :: S) n h kc ks := by
  obtain ⟨p, e, R, s, m, args, below, meth, c, Q, G'⟩ := X
  obtain ⟨hx, hb, hml, hown, hts, hr, hlk, hRm, hG, hK⟩ := C
  subst hG
  intro H locs ls hR hf hl
  obtain ⟨⟨scr, h1, h2, h3, h4, h5⟩, h6⟩ := S3
  have ej : i.toNatClampNeg = j := by rw [hj]; exact nI_clamp (by omega)
  have hin' : ¬ (i < 0 ∨ scr.slots.size ≤ i.toNatClampNeg) := by
    rw [ej, h4]
    intro q
    rcases q with q | q
    · rw [hj] at q; exact nI_pos (by omega) q
    · omega
  exact W.iald (v := .int (xs j)) hx hb (by rw [hR.2.2.2 _ h6]; exact h1) h2 h3 hin' (by rw [ej]; exact h5 j hlt) rfl rfl d (k H locs ls hR hf hl)
theorem dk_slen (C : dk_C X cc own nL ret rm G) {N : Nat} {xs : Nat → Int32} (S3 : lw_S X N xs) (d : decode cc pc = .ok (.arraylength, 1)) (k : dk_W X (pc + 1) L (.int (nI N) :: S) n h kc ks) : dk_W X pc L (.retAddr 3 :: S) n h kc ks := by
  obtain ⟨p, e, R, s, m, args, below, meth, c, Q, G'⟩ := X
  obtain ⟨hx, hb, hml, hown, hts, hr, hlk, hRm, hG, hK⟩ := C
  subst hG
  intro H locs ls hR hf hl
  obtain ⟨⟨scr, h1, h2, h3, h4, h5⟩, h6⟩ := S3
  exact W.alen (n := nI N) hx hb (by rw [hR.2.2.2 _ h6]; exact h1) h2 (by rw [h4]; rfl) rfl rfl d (k H locs ls hR hf hl)
end LW
theorem lg_self (x : Int64) : lg_cmp x x = 0 := by
  unfold lg_cmp
  rw [if_neg (fun q => Int64.lt_irrefl q), if_pos rfl]
abbrev lw_L (j : Nat) (a6 a7 : Option Value) : List (Option Value) := [some (.retAddr 3), some (.ref 0), some (.ref 45), some (.ref 61), some (.ref 62), some (.int (nI j)), a6, a7]
/-- behind a round's call -/
def lw_K (X : dk_X) (j kc ks : Nat) : Prop := ∀ (hi : Nat → Nat → Int32) (hf : Nat → Nat → UInt32) (sr : Nat → Option Nat) (z : (Nat → Nat → Int64) × (Nat → Nat → UInt64)) (a6 a7 : Option Value) (kc' ks' : Nat), rR hi hf sr → kc' ≤ kc + 1 → ks' ≤ ks + 6 → dk_W X 1100 (lw_L j a6 a7) [] 63 (hi, hf, dk_RF sr, z) kc' ks'
