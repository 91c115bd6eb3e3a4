/-! ===== making cells; copying ints ===== -/
def dk_def (h : dk_H) (i : Nat) : Prop := ∀ k : Nat, h.1 i k = 0 ∧ h.2.1 i k = 0 ∧ h.2.2.1 i k = none ∧ h.2.2.2.1 i k = 0 ∧ h.2.2.2.2 i k = 0
def dk_dv (kd : Nat) : Value := match kd with
  | 0 => .int 0
  | 1 => .float 0
  | 2 => .null
  | 3 => .long 0
  | _ => .double 0
theorem dk_def.av {h : dk_H} {i : Nat} (hd : dk_def h i) (G : dk_G) (kd k : Nat) : dk_rv G (dk_av h kd i k) = dk_dv kd := by
  obtain ⟨h1, h2, h3, h4, h5⟩ := hd k
  match kd with
  | 0 => simp [dk_av, dk_dv, dk_rv, h1]
  | 1 => simp [dk_av, dk_dv, dk_rv, h2]
  | 2 => simp [dk_av, dk_dv, dk_rv, h3, va_rf]
  | 3 => simp [dk_av, dk_dv, dk_rv, h4]
  | _ + 4 => simp [dk_av, dk_dv, dk_rv, h5]
/-- a new cell at the end -/
theorem dk_R.push {G : dk_G} {n : Nat} {h : dk_H} {H H' : Heap} (hR : dk_R G n h H) (htt : G.2.2.2.2.2.2 = true) (hz : H'.size = H.size + 1) (ho : ∀ q : Nat, q < H.size → H'[q]? = H[q]?) (hat : dk_at G h H' n) : dk_R G (n + 1) h H' := by
  obtain ⟨h1, h2, h3, h4⟩ := hR
  have e := h1 htt
  refine ⟨fun _ => by omega, by omega, fun i hi => ?_, fun q hq => by rw [ho q (by omega)]; exact h4 q hq⟩
  by_cases e : i = n
  · subst e; exact hat
  · exact (h3 i (by omega)).kept (fun _ _ => rfl) (ho _ (by omega))
/-- a class whose objects are made -/
def dk_Mk (own : String) (idx ci : Nat) : Prop := ∃ (Cn : String) (T : u_T) (ty : Nat → FieldType), vwCl[ci]? = some (Cn, T, (dk_ks ci).length) ∧ (∀ w ∈ u_ws Cn T (dk_ks ci).length, w ∈ dk_tbl) ∧ (∀ k, k < (dk_ks ci).length → parseFieldDescriptor (T k).2.2.1 = some (ty k)) ∧ (∀ k, k < (dk_ks ci).length → defaultValue (ty k) = dk_dv ((dk_ks ci).getD k 0)) ∧ Cond.classLink own idx Cn ∈ dk_tbl ∧ Cond.instantiable Cn (dk_ks ci).length ∈ dk_tbl ∧ Cond.initialized Cn ∈ dk_tbl
section DKN
variable {X : dk_X} {cc : ByteArray} {own : String} {nL : Nat} {ret : Option FieldType} {rm : Room} {G : dk_G} {pc : Nat} {L : List (Option Value)} {S : List Value} {n : Nat} {h : dk_H} {kc ks : Nat}
theorem dk_new (C : dk_C X cc own nL ret rm G) (htt : G.2.2.2.2.2.2 = true) {idx ci : Nat} (Mk : dk_Mk own idx ci) (hs : dk_SH n = .inl ci) (hd : dk_def h n) (hc : kc + 1 ≤ rm.cells) (hsl : ks + (dk_ks ci).length ≤ rm.slots) (d : decode cc pc = .ok (.new idx, 3)) (k : dk_W X (pc + 3) L (.ref n :: S) (n + 1) h (kc + 1) (ks + (dk_ks ci).length)) : dk_W X pc L S n h kc ks := by
  obtain ⟨p, e, R, s, m, args, below, meth, c, Q, G'⟩ := X
  obtain ⟨hx, hb, hml, hown, hts, hr, hlk, hRm, hG, hK⟩ := C
  subst hG hRm
  intro H locs ls hR hf hl
  obtain ⟨Cn, T, ty, h1, h2, h3, h4, h5, h6, h7⟩ := Mk
  have hKn := hK.1.1 ci _ h1
  have hsz := hR.1 htt
  refine W.newcK hx hb hown (hts _ h5) (hts _ h6) (hts _ h7) rfl d hc hsl hKn.2.1 hsz fun H' kC hkC e1 z1 o1 => ?_
  refine k H' locs ls (hR.push htt (by rw [z1, hsz]) (by rw [hsz]; exact o1) ?_) hf hl
  unfold dk_at
  rw [hs]
  exact (u_born ty hts h2 hKn hkC e1 h3).to (fun j hj => by rw [hd.av, h4 j hj])
theorem dk_newa (C : dk_C X cc own nL ret rm G) (htt : G.2.2.2.2.2.2 = true) {atype : ArrayType} {t N : Nat} {i : Int32} (ht : t < 5) (hty : newarray.typeOf atype = dk_ty t) (harr : Cond.arrayClass (newarray.typeOf atype) ∈ dk_tbl) (hs : dk_SH n = .inr (t, N)) (hd : dk_def h n) (hi : ¬ i < 0) (hN : i.toNatClampNeg = N) (hby : N * 8 ≤ 536870912) (hc : kc + 1 ≤ rm.cells) (hsl : ks + N ≤ rm.slots) (d : decode cc pc = .ok (.newarray atype, 2)) (k : dk_W X (pc + 2) L (.ref n :: S) (n + 1) h (kc + 1) (ks + N)) : dk_W X pc L (.int i :: S) n h kc ks := by
  obtain ⟨p, e, R, s, m, args, below, meth, c, Q, G'⟩ := X
  obtain ⟨hx, hb, hml, hown, hts, hr, hlk, hRm, hG, hK⟩ := C
  subst hG hRm
  intro H locs ls hR hf hl
  have hsz := hR.1 htt
  have hcb : componentBytes (newarray.typeOf atype) ≤ 8 := by cases atype <;> decide
  refine va_newaK hx hb (hts _ harr) rfl d rfl hi hN (Nat.le_trans (Nat.mul_le_mul_left _ hcb) hby) hc hsl hsz fun H' cA e1 z1 o1 hAr hNm => ?_
  refine k H' locs ls (hR.push htt (by rw [z1, hsz]) (by rw [hsz]; exact o1) ?_) hf hl
  have hRA := (hK.1.2 t _ (dk_tys_at _ (by omega))).2
  have hcA : cA = dk_cT G' t := by
    have e2 : s.vm.findClass ("[" ++ (dk_ty t).toString) = some (dk_cT G' t) := by
      rcases (show t = 0 ∨ t = 1 ∨ t = 2 ∨ t = 3 ∨ t = 4 by omega) with rfl | rfl | rfl | rfl | rfl <;> exact hRA
    rw [hty, e2] at hNm
    exact (Option.some.inj hNm).symm
  unfold dk_at
  rw [hs]
  show H'[dk_b _ + n]? = _
  rw [e1, hcA, hty]
  congr 2
  funext j
  rw [hd.av]
  rcases (show t = 0 ∨ t = 1 ∨ t = 2 ∨ t = 3 ∨ t = 4 by omega) with rfl | rfl | rfl | rfl | rfl <;> rfl
theorem dk_anew (C : dk_C X cc own nL ret rm G) (htt : G.2.2.2.2.2.2 = true) {idx t N : Nat} {Cn : String} {i : Int32} (ht : 5 ≤ t ∧ t < 9) (hty : dk_ty t = .object Cn) (hlk0 : Cond.classLink own idx Cn ∈ dk_tbl) (hs : dk_SH n = .inr (t, N)) (hd : dk_def h n) (hi : ¬ i < 0) (hN : i.toNatClampNeg = N) (hby : N * 4 ≤ 536870912) (hc : kc + 1 ≤ rm.cells) (hsl : ks + N ≤ rm.slots) (d : decode cc pc = .ok (.anewarray idx, 3)) (k : dk_W X (pc + 3) L (.ref n :: S) (n + 1) h (kc + 1) (ks + N)) : dk_W X pc L (.int i :: S) n h kc ks := by
  obtain ⟨p, e, R, s, m, args, below, meth, c, Q, G'⟩ := X
  obtain ⟨hx, hb, hml, hown, hts, hr, hlk, hRm, hG, hK⟩ := C
  subst hG hRm
  intro H locs ls hR hf hl
  have hsz := hR.1 htt
  subst hN
  have hover : va_AO Cn s := by
    obtain ⟨-, -, -, a5, a6, a7, a8⟩ := hK
    rcases (show t = 5 ∨ t = 6 ∨ t = 7 ∨ t = 8 by omega) with rfl | rfl | rfl | rfl
    · cases hty; exact a5
    · cases hty; exact a6
    · cases hty; exact a7
    · cases hty; exact a8
  refine W.anew hx hb hown (hts _ hlk0) (va_AO.use hover) rfl d rfl hi hby hc hsl fun cA kA comp f1 f2 f3 f4 => ?_
  generalize hH1 : H.push ({ cls := cA, slots := Array.replicate i.toNatClampNeg .null, vm := .none } : Cell) = H1
  have z1 : H1.size = H.size + 1 := by rw [← hH1, Array.size_push]
  have e1 : H1[H.size]? = some (arrV cA i.toNatClampNeg (fun _ => .null)) := by rw [← hH1, Array.getElem?_push_size, ← arrV_new]
  have o1 : ∀ q : Nat, q < H.size → H1[q]? = H[q]? := fun q hq => by rw [← hH1, Array.getElem?_push, if_neg (Nat.ne_of_lt hq)]
  rw [hsz]
  refine k H1 locs ls (hR.push htt z1 o1 ?_) hf hl
  have hRA := (hK.1.2 t _ (dk_tys_at _ (by omega))).2
  have hcA : cA = dk_cT G' t := by
    rw [show (dk_cT G' t, dk_ty t).2 = .object Cn from hty] at hRA
    obtain ⟨-, -, -, -, -, e2⟩ := hRA
    rw [f1] at e2
    exact Option.some.inj e2
  unfold dk_at
  rw [hs]
  show H1[dk_b _ + n]? = _
  rw [← hsz, e1, hcA]
  congr 2
  funext j
  have he : dk_ek t = 2 := by
    rcases (show t = 5 ∨ t = 6 ∨ t = 7 ∨ t = 8 by omega) with rfl | rfl | rfl | rfl <;> rfl
  rw [hd.av]
  show _ = dk_dv (dk_ek t)
  rw [he]
  rfl
/-- System.arraycopy within one array of ints -/
def dk_cpI (h : dk_H) (a sp dp k : Nat) : dk_H := (fun i j => if i = a then va_cpy (h.1 a) (h.1 a) sp dp k j else h.1 i j, h.2)
theorem dk_copyi (C : dk_C X cc own nL ret rm G) {idx a N : Nat} {sp dp i : Int32} (h01 : Cond.methodLink own idx arraycopyName ∈ dk_tbl) (h02 : Cond.native arraycopyName ∈ dk_tbl) (h03 : Cond.static arraycopyName ∈ dk_tbl) (h04 : Cond.initialized "java/lang/System" ∈ dk_tbl) (hs : dk_SH a = .inr (0, N)) (ha : a < n)
    (h1 : ¬ sp < 0) (h2 : ¬ dp < 0) (h3 : ¬ i < 0) (h4 : sp.toNatClampNeg + i.toNatClampNeg ≤ N) (h5 : dp.toNatClampNeg + i.toNatClampNeg ≤ N) (hfr : 1 ≤ rm.frames) (hlo : (S.map fun v => v.category).sum + (nativeFrameWords "java/lang/System" "arraycopy" 5 + 11) ≤ rm.locals) (d : decode cc pc = .ok (.invokestatic idx, 3))
    (k : dk_W X (pc + 3) L S n (dk_cpI h a sp.toNatClampNeg dp.toNatClampNeg i.toNatClampNeg) kc ks) : dk_W X pc L (.int i :: .int dp :: .ref a :: .int sp :: .ref a :: S) n h kc ks := by
  obtain ⟨p, e, R, s, m, args, below, meth, c, Q, G'⟩ := X
  obtain ⟨hx, hb, hml, hown, hts, hr, hlk, hRm, hG, hK⟩ := C
  subst hG hRm
  intro H locs ls hR hf hl
  have hat := hR.2.2.1 a ha
  unfold dk_at at hat
  rw [hs] at hat
  have hat : H[dk_b G' + a]? = some (arrV (dk_cT G' 0) N (fun j => .int (h.1 a j))) := hat
  have nn : ∀ z : Int32, ¬ z < 0 → z.toInt = (z.toNatClampNeg : Int) := by
    intro z hz
    have hz0 : (0 : Int) ≤ z.toInt := by
      have := Int32.not_lt.mp hz
      simpa using Int32.le_iff_toInt_le.mp this
    show z.toInt = ((z.toInt.toNat : Nat) : Int)
    omega
  intro T hT XX
  obtain ⟨-, k0, hk0, cm0, hkk0⟩ := (hK.1.2 0 _ (dk_tys_at _ (by decide))).1 N (fun j => .int (h.1 a j))
  obtain ⟨vm', X', step⟩ := XX.arraycopy hx hown (hts _ h01) (hts _ h02) (hts _ h03) (hts _ h04) (src := dk_b G' + a) (dst := dk_b G' + a) (srcPos := sp) (destPos := dp) (n := i) (by rw [hT]; exact hat) (by rw [hT]; exact hat)
    (fun _ h => by cases h) (fun _ h => by cases h) (fun h => by cases h) (fun h => by cases h) hk0 hk0 hkk0 hkk0 (by simp [dk_ty, refKind]) h1 h2 h3
    (by rw [nn sp h1, nn i h3, arrV_size]; omega)
    (by rw [nn dp h2, nn i h3, arrV_size]; omega)
    (fun vm₁ _ j hj => by
      have e : (arrV (dk_cT G' 0) N (fun j => .int (h.1 a j))).slots.getD (sp.toNatClampNeg + j) .null = .int (h.1 a (sp.toNatClampNeg + j)) := by
        rw [Array.getD_eq_getD_getElem?, arrV_read _ _ (by omega)]
        rfl
      refine ⟨?_, ?_⟩
      · rw [e]; rfl
      · rw [e]; exact trivial)
    (g := F0 m pc ls (.int i :: .int dp :: .ref (dk_b G' + a) :: .int sp :: .ref (dk_b G' + a) :: S.map (dk_rv G'))) rfl hl.1 (rest := S.map (dk_rv G')) rfl (by rw [hb]; exact d) hfr (by rw [dk_cats]; show 2 * 0 + _ + _ ≤ _; omega)
  have e1 : copied (arrV (dk_cT G' 0) N (fun j => .int (h.1 a j))) (arrV (dk_cT G' 0) N (fun j => .int (h.1 a j))) sp dp i = arrV (dk_cT G' 0) N (fun j => .int (va_cpy (h.1 a) (h.1 a) sp.toNatClampNeg dp.toNatClampNeg i.toNatClampNeg j)) := va_copied (fun z => .int z) _ _ _ _ h4
  rw [e1] at X' step
  have hlt : dk_b G' + a < H.size := (Array.getElem?_eq_some_iff.mp hat).1
  generalize hcl : arrV (dk_cT G' 0) N (fun j => .int (va_cpy (h.1 a) (h.1 a) sp.toNatClampNeg dp.toNatClampNeg i.toNatClampNeg j)) = cl at X' step
  have hheap : ((T.setVm vm').setCell (dk_b G' + a) cl).heap = H.setIfInBounds (dk_b G' + a) cl := by rw [← hT]; rfl
  have oq : ∀ q : Nat, q ≠ dk_b G' + a → (H.setIfInBounds (dk_b G' + a) cl)[q]? = H[q]? := fun q hq => by simp [Array.getElem?_setIfInBounds, Ne.symm hq]
  have hR' : dk_R G' n (dk_cpI h a sp.toNatClampNeg dp.toNatClampNeg i.toNatClampNeg) (H.setIfInBounds (dk_b G' + a) cl) := by
    obtain ⟨r1, r2, r3, r4⟩ := hR
    refine ⟨fun z => by simp; exact r1 z, by simp; exact r2, fun j hj => ?_, fun q hq => by rw [oq q (by omega)]; exact r4 q hq⟩
    by_cases ej : j = a
    · subst ej
      unfold dk_at
      rw [hs]
      show (H.setIfInBounds (dk_b G' + j) cl)[dk_b G' + j]? = _
      rw [Array.getElem?_setIfInBounds, if_pos rfl, if_pos hlt, ← hcl]
      congr 2
      funext z
      show _ = dk_rv _ (Value.int ((dk_cpI h j _ _ _).1 j z))
      simp [dk_cpI, dk_rv]
    · refine (r3 j hj).kept (fun kd z => ?_) (oq _ (by omega))
      match kd with
      | 0 => simp [dk_av, dk_cpI, ej]
      | 1 => rfl
      | 2 => rfl
      | 3 => rfl
      | _ + 4 => rfl
  obtain ⟨t, a1, b1⟩ := k _ _ ls hR' (fun q hq => by
      rcases List.mem_append.mp hq with h | h
      · exact hf q h
      · obtain ⟨z, -, hz⟩ := List.mem_map.mp h
        rw [← hz]
        exact Nat.le_add_right _ _) hl _ hheap X'
  exact ⟨t, step t a1, b1⟩
end DKN
