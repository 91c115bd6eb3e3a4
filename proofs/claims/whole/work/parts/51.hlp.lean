/-! ===== methods with a table of handlers ===== -/
def hx_M (G : dk_G) (y : MethodName) (cc : ByteArray) (nL : Nat) (ret : Option FieldType) (hh : List (Nat × Nat × Nat × Nat)) (rm : Room) (as : List Value) (n : Nat) (h : dk_H) (post : Option Value → dk_H → Prop) : Prop :=
  Met G.1 y (Cond.codeWith y cc nL ret hh :: dk_tbl) rm (nx_Pc G as n h) (dk_Qc G n post) rm.cells rm.slots (fun q => dk_b G ≤ q)
def hx_T (X : dk_X) (hh : List (Nat × Nat × Nat × Nat)) : Prop := match X with
  | (_, _, _, s, _, _, _, _, c, _, G) => c.exceptionTable.toList = tableOf hh ∧ dk_XK G s
theorem hx_met {G : dk_G} {y : MethodName} {cc : ByteArray} {nL : Nat} {ret : Option FieldType} {hh : List (Nat × Nat × Nat × Nat)} {rm : Room} {as : List Value} {n : Nat} {h : dk_H} {post : Option Value → dk_H → Prop} (L : List (Option Value)) (hy : plainName y.cls = true) (hL : dk_pr G 0 L = lv_args 0 (as.map (dk_rv G))) (hlen : (lg_sl (as.map (dk_rv G))).length ≤ nL)
    (body : ∀ X : dk_X, dk_C X cc y.cls nL ret rm G → dk_E X n rm.cells rm.slots post → hx_T X hh → dk_W X 0 L [] n h 0 0) : hx_M G y cc nL ret hh rm as n h post := by
  refine va_MetW (cc := cc) (maxL := nL) (ret := ret) (hh := hh) hy rfl ?_
  intro p e s m args below meth c s₁ B hml hv
  obtain ⟨hargs, hK, hR, hXK⟩ := hv
  have hall := atoms_spec (ws := Cond.codeWith y cc nL ret hh :: dk_tbl) B.pre
  have hts : ∀ w ∈ dk_tbl, w.before args s = true := fun w hw => hall w (List.mem_cons_of_mem _ hw)
  have htab : c.exceptionTable.toList = tableOf hh := vx_table (x := y) B (hall _ List.mem_cons_self)
  have hb := body (p, e, rm, s, m, args, below, meth, c, MQ below (dk_Qc G n post) args s rm.cells rm.slots (fun q => dk_b G ≤ q), G)
    ⟨B.exec, B.bytes, hml, findClass_of_methodNamed B.named, hts, B.returns, B.notSynchronized, rfl, rfl, hK⟩ (fun _ _ _ z => z) ⟨htab, hXK⟩
  subst hargs
  rw [lg_entry_eq]
  refine hb s.heap [] _ hR (fun q hq => by cases hq) ?_
  have hl := lv_entry (as.map (dk_rv G)) (n := nL) hlen
  rw [hml, hL]
  exact hl
/-- E thrown at pc -/
def hx_W (X : dk_X) (pc : Nat) (L : List (Option Value)) (n : Nat) (h : dk_H) (kc ks : Nat) (E : String) : Prop := match X with
  | (p, e, R, s, m, args, below, meth, c, Q, G) => ∀ (H : Heap) (locs : List Loc) (ls : Array Slot) (rest : List Value) (q : Addr) (ce : Cell), dk_R G n h H → (∀ z ∈ locs, dk_b G ≤ z.base) → lv_has ls c.maxLocals (dk_pr G 0 L) → H[q]? = some ce → ce.vm = .none → s.vm.findClass E = some ce.cls → vx_W p G.1 e R s m args below meth c H locs kc ks Q (F0 m pc ls rest) q
section HX
variable {X : dk_X} {cc : ByteArray} {nL : Nat} {ret : Option FieldType} {rm : Room} {G : dk_G} {pc : Nat} {L : List (Option Value)} {S : List Value} {n : Nat} {h : dk_H} {kc ks : Nat} {post : Option Value → dk_H → Prop} {pX : String → dk_H → Prop} {hh : List (Nat × Nat × Nat × Nat)}
theorem hx_call (C : dk_C X cc RL nL ret rm G) (Tt : hx_T X hh) {y : MethodName} {cc' : ByteArray} {nL' : Nat} {ret' : Option FieldType} {rm' : Room} {a : Nat} {as : List Value} {St : List Value} {idx np ci : Nat}
    (K : dk_LV RL idx y cc' nL' ret' np ci) (M : nx_M G y cc' nL' ret' rm' (.ref a :: as) n h post pX) (hs : dk_SH a = .inl ci) (ha : a < n) (hst : St = as.reverse ++ .ref a :: S) (hnp : as.length = np) (hw : (S.map fun v => v.category).sum ≤ 8)
    (hroom : rm'.frames + 1 ≤ rm.frames ∧ 8 + (nL' + 11) + rm'.locals ≤ rm.locals) (hcell : kc + rm'.cells ≤ rm.cells ∧ ks + rm'.slots ≤ rm.slots) (d : decode cc pc = .ok (.invokevirtual idx, 3))
    (k : ∀ (r : Option Value) (h' : dk_H), post r h' → dk_W X (pc + 3) L (dk_push r S) n h' (kc + rm'.cells) (ks + rm'.slots))
    (kx : ∀ (E : String) (h' : dk_H), pX E h' → hx_W X pc L n h' (kc + rm'.cells) (ks + rm'.slots) E) : dk_W X pc L St n h kc ks := by
  obtain ⟨p, e, R, s, m, args, below, meth, c, Q, G'⟩ := X
  obtain ⟨hx, hb, hml, hown, hts, hr, hlk, hRm, hG, hK⟩ := C
  obtain ⟨htab, hXK⟩ := Tt
  subst hG hst hRm
  intro H locs ls hR hf hl
  obtain ⟨⟨⟨k1, k2, k3⟩, k4, k5, k6⟩, ⟨k7, k8⟩, q, hq, hqn⟩ := K
  have hat := hR.2.2.1 a ha
  unfold dk_at at hat
  rw [hs] at hat
  obtain ⟨cellB, g1, g2, g3, -⟩ := hat
  have hfc := (hK.1.1 ci q hq).2.1
  rw [hqn] at hfc
  have hrun := vx_runV (l := G'.1) (p := p) (e := e) (R := R) (s := s) (m := m) (args := args) (below := below) (meth := meth) (c := c) (H := H) (locs := locs) (cells := kc) (slots := ks) (As := as.map (dk_rv G')) (C := y.cls) (b := dk_b G' + a) (rest := S.map (dk_rv G')) (g := F0 m pc ls ((as.reverse ++ .ref a :: S).map (dk_rv G'))) ⟨hx, hb, hml, hown, hts⟩ M (cwV np hts (dk_goodIn (by
      intro w hw9
      unfold wsV at hw9
      rcases List.mem_append.mp hw9 with h1 | h1
      · simp only [List.mem_cons, List.not_mem_nil, or_false] at h1
        rcases h1 with rfl | rfl | rfl | rfl
        · exact k1
        · exact k7
        · exact k8
        · exact k2
      · rcases List.mem_cons.mp h1 with rfl | h1
        · exact k3
        · exact h1)) rfl rfl rfl ⟨rfl, k4, k5, k6⟩ hroom) ⟨nx_blind, ⟨cellB, g1, by rw [g3]; rfl, by rw [g2]; exact hfc⟩, fun U hU hW => ⟨rfl, hK.warm hW, by rw [hU]; exact hR, hXK.warm hW⟩⟩ rfl (dk_lenR hnp) (hl.1.trans hml) (by simp [dk_rv]) (lv_room (by rw [dk_cats]; exact hw)) d hcell
  intro T hT X
  rcases hrun T hT X with ⟨v, st₀, t, T', L', h0, X', hL, e1, e2, ⟨r, h', hv, hp, hR'⟩, st⟩ | ⟨q9, st₀, t, T', L', E, ce, h0, X', hL, e1, e2, ⟨h', hp, hR'⟩, hce, hcv, hcl, st⟩
  · cases hv
    obtain ⟨t2, a1, b1⟩ := k r h' hp T'.heap (locs ++ L') ls (by rw [e1]; exact hR') (fun q hq => by
        rcases List.mem_append.mp hq with h | h
        · exact hf q h
        · exact hL q h) hl T' rfl X'
    refine ⟨t2, st t2 ?_, b1⟩
    rw [dk_push_map]
    exact a1
  · obtain ⟨t2, a1, b1⟩ := kx E h' hp T'.heap (locs ++ L') ls (S.map (dk_rv G')) q9 ce (by rw [e1]; exact hR') (fun q hq => by
        rcases List.mem_append.mp hq with h | h
        · exact hf q h
        · exact hL q h) hl (by rw [e1]; exact hce) hcv hcl T' rfl X'
    exact ⟨t2, st.trans a1, b1⟩
theorem dk_store0 {G : dk_G} {ls : Array Slot} {nL i : Nat} {L : List (Option Value)} {v : Value} (hok : dk_ok L i = true)
    (h : lv_has ls nL ((i, v) :: (dk_pr G 0 L).filter (fun q => !(q.1 == i) && !(q.1 + 1 == i && q.2.category == 2)))) : lv_has ls nL (dk_pr G 0 (L.set i none)) := by
  refine ⟨h.1, h.2.1, fun q hq => ?_⟩
  obtain ⟨j, w, h1, rfl⟩ := (dk_pr_mem _ 0 q).mp hq
  rw [Nat.zero_add]
  by_cases e : j = i
  · subst e
    have hlt : j < L.length := by
      have := (List.getElem?_eq_some_iff.mp h1).1
      simpa using this
    rw [List.getElem?_set_self hlt] at h1
    cases h1
  · rw [List.getElem?_set_ne (Ne.symm e)] at h1
    refine h.2.2 (j, dk_rv G w) (List.mem_cons_of_mem _ (List.mem_filter.mpr ⟨(dk_pr_mem L 0 _).mpr ⟨j, w, h1, by simp⟩, ?_⟩))
    have hc : j + 1 = i → w.category ≠ 2 := fun z => dk_ok_cat hok h1 z
    simp only [Bool.and_eq_true, Bool.not_eq_true', beq_eq_false_iff_ne, Bool.and_eq_false_iff, dk_rv_cat]
    refine ⟨e, ?_⟩
    by_cases z : j + 1 = i
    · exact Or.inr (hc z)
    · exact Or.inl z
/-- the exception is put away at hp -/
def hx_D (cc : ByteArray) (hp i l : Nat) : Prop := (decode cc hp = .ok (.astore i, 2) ∧ l = 2) ∨ ∃ j : Fin 4, (j : Nat) = i ∧ decode cc hp = .ok (.astore_n j, 1) ∧ l = 1
theorem hx_put (C : dk_C X cc RL nL ret rm G) {hp i l : Nat} (d : hx_D cc hp i l) (hn : i < nL) (hok : dk_ok L i = true) (k : dk_W X (hp + l) (L.set i none) [] n h kc ks) :
    match X with | (p, e, R, s, m, args, below, meth, c, Q, G) => ∀ (H : Heap) (locs : List Loc) (ls : Array Slot) (q : Addr), dk_R G n h H → (∀ z ∈ locs, dk_b G ≤ z.base) → lv_has ls c.maxLocals (dk_pr G 0 L) → W p G.1 e R s m args below meth c H locs kc ks Q (F0 m hp ls [.ref q]) := by
  obtain ⟨p, e, R, s, m, args, below, meth, c, Q, G'⟩ := X
  obtain ⟨hx, hb, hml, -⟩ := C
  intro H locs ls q hR hf hl
  rcases d with ⟨d, rfl⟩ | ⟨j, hj, d, rfl⟩
  · exact lv_astore hx hb d hl (by rw [hml]; exact hn) rfl (fun ls' hl' => k H locs ls' hR hf (dk_store0 hok hl'))
  · exact lv_astore_n hx hb d hj hl (by rw [hml]; exact hn) rfl (fun ls' hl' => k H locs ls' hR hf (dk_store0 hok hl'))
/-- caught by the first row -/
theorem hx_c1 (C : dk_C X cc RL nL ret rm G) {x : Nat × Nat × Nat × Nat} {suf : List (Nat × Nat × Nat × Nat)} (Tt : hx_T X (x :: suf)) (k9 : Nat) (hcov : covers ⟨x.1, x.2.1, x.2.2.1, x.2.2.2⟩ pc = true) (h0 : x.2.2.2 ≠ 0) (hlink : Cond.classLink RL x.2.2.2 (nE k9) ∈ dk_tbl) {i l : Nat} (d : hx_D cc x.2.2.1 i l) (hn : i < nL) (hok : dk_ok L i = true) (k : dk_W X (x.2.2.1 + l) (L.set i none) [] n h kc ks) : hx_W X pc L n h kc ks (nE k9) := by
  have hput := hx_put (X := X) (h := h) (n := n) C d hn hok k
  obtain ⟨p, e, R, s, m, args, below, meth, c, Q, G'⟩ := X
  obtain ⟨hx, hb, hml, hown, hts, hr, hlk, hRm, hG, hK⟩ := C
  obtain ⟨htab, hXK⟩ := Tt
  intro H locs ls rest q ce hR hf hl hce hcv hcl
  exact vx_catch hown [] ⟨x.1, x.2.1, x.2.2.1, x.2.2.2⟩ (tableOf suf) htab (fun z hz => by cases hz) hcov h0 (hts _ hlink) (va_Nw.use rfl (hXK.2.1.1 k9)) hce hcv hcl (hput H locs ls q hR hf hl)
/-- caught by the second row, passing the first -/
theorem hx_c2 (C : dk_C X cc RL nL ret rm G) {x0 x : Nat × Nat × Nat × Nat} {suf : List (Nat × Nat × Nat × Nat)} (Tt : hx_T X (x0 :: x :: suf)) (k0 k9 : Nat) (hnc : ∀ U : State, dk_XK G U → va_Nc (nE k9) (nE k0) U) (h00 : x0.2.2.2 ≠ 0) (hlink0 : Cond.classLink RL x0.2.2.2 (nE k0) ∈ dk_tbl) (hcov : covers ⟨x.1, x.2.1, x.2.2.1, x.2.2.2⟩ pc = true) (h0 : x.2.2.2 ≠ 0) (hlink : Cond.classLink RL x.2.2.2 (nE k9) ∈ dk_tbl) {i l : Nat} (d : hx_D cc x.2.2.1 i l) (hn : i < nL) (hok : dk_ok L i = true) (k : dk_W X (x.2.2.1 + l) (L.set i none) [] n h kc ks) : hx_W X pc L n h kc ks (nE k9) := by
  have hput := hx_put (X := X) (h := h) (n := n) C d hn hok k
  obtain ⟨p, e, R, s, m, args, below, meth, c, Q, G'⟩ := X
  obtain ⟨hx, hb, hml, hown, hts, hr, hlk, hRm, hG, hK⟩ := C
  obtain ⟨htab, hXK⟩ := Tt
  subst hG
  intro H locs ls rest q ce hR hf hl hce hcv hcl
  refine vx_catch hown [⟨x0.1, x0.2.1, x0.2.2.1, x0.2.2.2⟩] ⟨x.1, x.2.1, x.2.2.1, x.2.2.2⟩ (tableOf suf) htab (fun z hz => ?_) hcov h0 (hts _ hlink) (va_Nw.use rfl (hXK.2.1.1 k9)) hce hcv hcl (hput H locs ls q hR hf hl)
  rw [List.mem_singleton.mp hz]
  exact Or.inr ⟨h00, nE k0, hts _ hlink0, hnc s hXK⟩
end HX
