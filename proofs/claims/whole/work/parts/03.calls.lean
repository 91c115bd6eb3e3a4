/-! ===== contracts over the desk layer ===== -/
def dk_Qc (G : dk_G) (n' : Nat) (post : Option Value → dk_H → Prop) : Array Value → State → Outcome → State → Prop := fun _ _ o t => ∃ (r : Option Value) (h' : dk_H), o = .returned (r.map (dk_rv G)) ∧ post r h' ∧ dk_R G n' h' t.heap
def dk_Pc (G : dk_G) (as : List Value) (n : Nat) (h : dk_H) : Array Value → State → Prop := va_Pc (as.map (dk_rv G)) (fun U => dk_K G U ∧ dk_R G n h U.heap)
abbrev dk_ws (y : MethodName) (cc : ByteArray) (nL : Nat) (ret : Option FieldType) : List Cond := .code y cc nL ret :: dk_tbl
/-- the contract of y: at these arguments and this heap it returns, and post holds of its answer and of the heap behind it -/
def dk_M (G : dk_G) (y : MethodName) (cc : ByteArray) (nL : Nat) (ret : Option FieldType) (rm : Room) (as : List Value) (n : Nat) (h : dk_H) (n' : Nat) (post : Option Value → dk_H → Prop) : Prop :=
  Met G.1 y (dk_ws y cc nL ret) rm (dk_Pc G as n h) (dk_Qc G n' post) rm.cells rm.slots (fun q => dk_b G ≤ q)
/-- how a walk of y may end -/
def dk_E (X : dk_X) (n' mc ms : Nat) (post : Option Value → dk_H → Prop) : Prop := match X with
  | (p, e, R, s, m, args, below, meth, c, Q, G) => ∀ (H : Heap) (locs : List Loc) (g : JFrame), W p G.1 e R s m args below meth c H locs mc ms (MQ below (dk_Qc G n' post) args s mc ms (fun q => dk_b G ≤ q)) g → W p G.1 e R s m args below meth c H locs mc ms Q g
theorem dk_blind {G : dk_G} {as : List Value} {n : Nat} {h : dk_H} : FrameBlind (dk_Pc G as n h) := fun a U g mk q => ⟨q.1, q.2.1.same rfl, q.2.2⟩
/-- a contract by a walk of its body -/
theorem dk_met {G : dk_G} {y : MethodName} {cc : ByteArray} {nL : Nat} {ret : Option FieldType} {rm : Room} {as : List Value} {n : Nat} {h : dk_H} {n' : Nat} {post : Option Value → dk_H → Prop} (L : List (Option Value)) (hy : plainName y.cls = true) (hL : dk_pr G 0 L = lv_args 0 (as.map (dk_rv G))) (hlen : (lg_sl (as.map (dk_rv G))).length ≤ nL)
    (body : ∀ X : dk_X, dk_C X cc y.cls nL ret rm G → dk_E X n' rm.cells rm.slots post → X.2.2.2.2.2.2.2.1.name = y.name → dk_W X 0 L [] n h 0 0) : dk_M G y cc nL ret rm as n h n' post := by
  refine Met.ofW (cc := cc) (maxL := nL) (ret := ret) hy rfl ?_
  intro p e s m args below meth c s₁ B hml hv
  obtain ⟨hargs, hK, hR⟩ := hv
  have hts : ∀ w ∈ dk_tbl, w.before args s = true := fun w hw => atoms_spec (ws := dk_ws y cc nL ret) B.pre w (List.mem_cons_of_mem _ hw)
  have hb := body (p, e, rm, s, m, args, below, meth, c, MQ below (dk_Qc G n' post) args s rm.cells rm.slots (fun q => dk_b G ≤ q), G)
    ⟨B.exec, B.bytes, hml, findClass_of_methodNamed B.named, hts, B.returns, B.notSynchronized, rfl, rfl, hK⟩ (fun _ _ _ z => z) (name_of_methodNamed B.named B.method).1
  subst hargs
  rw [lg_entry_eq]
  refine hb s.heap [] _ hR (fun q hq => by cases hq) ?_
  have hl := lv_entry (as.map (dk_rv G)) (n := nL) hlen
  rw [hml, hL]
  exact hl
section DKC
variable {X : dk_X} {cc : ByteArray} {own : String} {nL : Nat} {ret : Option FieldType} {rm : Room} {G : dk_G} {pc : Nat} {L : List (Option Value)} {S : List Value} {n : Nat} {h : dk_H} {kc ks : Nat} {n' mc ms : Nat} {post : Option Value → dk_H → Prop}
theorem dk_iret (C : dk_C X cc own nL (some .int) rm G) (E : dk_E X n mc ms post) {v : Int32} (d : decode cc pc = .ok (.ireturn, 1)) (hc : kc ≤ mc) (hs : ks ≤ ms) (hp : post (some (.int v)) h) : dk_W X pc L [.int v] n h kc ks := by
  obtain ⟨p, e, R, s, m, args, below, meth, c, Q, G'⟩ := X
  obtain ⟨hx, hb, hml, hown, hts, hr, hlk, hRm, hG, hK⟩ := C
  subst hG
  exact fun H locs ls hR hf hl => W.widen hc hs (E H locs _ (W.iret hx hb hr (fun t ht _ => ⟨some (.int v), h, rfl, hp, by rw [ht]; exact hR⟩) hf d hlk))
theorem dk_zret (C : dk_C X cc own nL (some .boolean) rm G) (E : dk_E X n mc ms post) {v : Int32} (hv : narrow .boolean (.int v) = .int v) (d : decode cc pc = .ok (.ireturn, 1)) (hc : kc ≤ mc) (hs : ks ≤ ms) (hp : post (some (.int v)) h) : dk_W X pc L [.int v] n h kc ks := by
  obtain ⟨p, e, R, s, m, args, below, meth, c, Q, G'⟩ := X
  obtain ⟨hx, hb, hml, hown, hts, hr, hlk, hRm, hG, hK⟩ := C
  subst hG
  exact fun H locs ls hR hf hl => W.widen hc hs (E H locs _ (W.zret hx hb hr hv (fun t ht _ => ⟨some (.int v), h, rfl, hp, by rw [ht]; exact hR⟩) hf d hlk))
theorem dk_fret (C : dk_C X cc own nL (some .float) rm G) (E : dk_E X n mc ms post) {v : UInt32} (d : decode cc pc = .ok (.freturn, 1)) (hc : kc ≤ mc) (hs : ks ≤ ms) (hp : post (some (.float v)) h) : dk_W X pc L [.float v] n h kc ks := by
  obtain ⟨p, e, R, s, m, args, below, meth, c, Q, G'⟩ := X
  obtain ⟨hx, hb, hml, hown, hts, hr, hlk, hRm, hG, hK⟩ := C
  subst hG
  exact fun H locs ls hR hf hl => W.widen hc hs (E H locs _ (W.fret hx hb hr (fun t ht _ => ⟨some (.float v), h, rfl, hp, by rw [ht]; exact hR⟩) hf d hlk))
theorem dk_vret (C : dk_C X cc own nL none rm G) (E : dk_E X n mc ms post) (d : decode cc pc = .ok (.return_, 1)) (hc : kc ≤ mc) (hs : ks ≤ ms) (hp : post none h) : dk_W X pc L [] n h kc ks := by
  obtain ⟨p, e, R, s, m, args, below, meth, c, Q, G'⟩ := X
  obtain ⟨hx, hb, hml, hown, hts, hr, hlk, hRm, hG, hK⟩ := C
  subst hG
  exact fun H locs ls hR hf hl => W.widen hc hs (E H locs _ (W.vret hx hb hr (fun t ht _ => ⟨none, h, rfl, hp, by rw [ht]; exact hR⟩) hf d hlk))
theorem dk_aret (C : dk_C X cc own nL ret rm G) (E : dk_E X n mc ms post) {rt : FieldType} (hrt : ret = some rt) (hra : (∃ n, rt = .object n) ∨ ∃ t, rt = .array t) {j : Nat} (d : decode cc pc = .ok (.areturn, 1)) (hc : kc ≤ mc) (hs : ks ≤ ms) (hp : post (some (.retAddr j)) h) : dk_W X pc L [.retAddr j] n h kc ks := by
  obtain ⟨p, e, R, s, m, args, below, meth, c, Q, G'⟩ := X
  obtain ⟨hx, hb, hml, hown, hts, hr, hlk, hRm, hG, hK⟩ := C
  subst hG
  exact fun H locs ls hR hf hl => W.widen hc hs (E H locs _ (W.aret hx hb (hr.trans hrt) hra (Or.inr ⟨_, rfl⟩) (fun t ht _ => ⟨some (.retAddr j), h, rfl, hp, by rw [ht]; exact hR⟩) hf d hlk))
def dk_push (r : Option Value) (S : List Value) : List Value := match r with
  | some v => v :: S
  | none => S
theorem dk_push_map (G : dk_G) (r : Option Value) (S : List Value) : (r.map (dk_rv G)).toList ++ S.map (dk_rv G) = (dk_push r S).map (dk_rv G) := by cases r <;> rfl
theorem dk_cats (G : dk_G) (S : List Value) : ((S.map (dk_rv G)).map fun v => v.category).sum = (S.map fun v => v.category).sum := by
  simp only [List.map_map]
  congr 2
  funext v
  exact dk_rv_cat G v
/-- behind a call -/
theorem dk_back {p : Program} {e : Env} {R : Room} {s : State} {m : MethodId} {args : Array Value} {below : List Frame} {meth : Method} {c : Code} {Q : State → Prop} {G : dk_G} {H : Heap} {locs : List Loc} {ls : Array Slot} {st0 : List Value} {a : Array Value}
    (hr : va_Run p G.1 e R s m args below meth c H locs kc ks mc ms (F0 m pc ls st0) (S.map (dk_rv G)) (dk_Qc G n' post a) (fun q => dk_b G ≤ q)) (hf : ∀ q ∈ locs, dk_b G ≤ q.base) (hl : lv_has ls c.maxLocals (dk_pr G 0 L))
    (k : ∀ (r : Option Value) (h' : dk_H), post r h' → dk_W (p, e, R, s, m, args, below, meth, c, Q, G) (pc + 3) L (dk_push r S) n' h' (kc + mc) (ks + ms)) : W p G.1 e R s m args below meth c H locs kc ks Q (F0 m pc ls st0) := by
  intro T hT X
  obtain ⟨v, st₀, t, T', L', h0, X', hL, e1, e2, ⟨r, h', hv, hp, hR'⟩, st⟩ := hr T hT X
  cases hv
  obtain ⟨t2, a1, b1⟩ := k r h' hp T'.heap (locs ++ L') ls (by rw [e1]; exact hR') (fun q hq => by
      rcases List.mem_append.mp hq with h | h
      · exact hf q h
      · exact hL q h) hl T' rfl X'
  refine ⟨t2, st t2 ?_, b1⟩
  rw [dk_push_map]
  exact a1
/-- a method's place in the tables, for a call -/
def dk_LB (own : String) (idx : Nat) (y : MethodName) (cc : ByteArray) (nL : Nat) (ret : Option FieldType) (np : Nat) : Prop :=
  (Cond.methodLink own idx y ∈ dk_tbl ∧ Cond.initialized y.cls ∈ dk_tbl ∧ Cond.code y cc nL ret ∈ dk_tbl) ∧ y.cls ≠ "java/lang/invoke/MethodHandle" ∧ y.cls ≠ "java/lang/invoke/VarHandle" ∧ (parseMethodDescriptor y.desc).map (fun d => d.parameters.length) = some np
def dk_LV (own : String) (idx : Nat) (y : MethodName) (cc : ByteArray) (nL : Nat) (ret : Option FieldType) (np ci : Nat) : Prop :=
  dk_LB own idx y cc nL ret np ∧ (Cond.instanceMethod y ∈ dk_tbl ∧ Cond.selects y.cls y y ∈ dk_tbl) ∧ ∃ q : vw_C, vwCl[ci]? = some q ∧ q.1 = y.cls
def dk_LS (own : String) (idx : Nat) (y : MethodName) (cc : ByteArray) (nL : Nat) (ret : Option FieldType) (np : Nat) : Prop :=
  dk_LB own idx y cc nL ret np ∧ Cond.static y ∈ dk_tbl
def dk_LI (own : String) (idx : Nat) (y : MethodName) (cc : ByteArray) (nL : Nat) (np : Nat) : Prop :=
  dk_LB own idx y cc nL none np ∧ Cond.instanceMethod y ∈ dk_tbl ∧ y.name = "<init>"
theorem dk_lenR {G : dk_G} {as : List Value} {np : Nat} (h : as.length = np) : (as.map (dk_rv G)).length = np := by rw [List.length_map]; exact h
theorem dk_callV (C : dk_C X cc own nL ret rm G) {y : MethodName} {cc' : ByteArray} {nL' : Nat} {ret' : Option FieldType} {rm' : Room} {a : Nat} {as : List Value} {St : List Value} {idx np ci : Nat}
    (K : dk_LV own idx y cc' nL' ret' np ci) (M : dk_M G y cc' nL' ret' rm' (.ref a :: as) n h n' post) (hs : dk_SH a = .inl ci) (ha : a < n) (hst : St = as.reverse ++ .ref a :: S) (hnp : as.length = np) (hw : (S.map fun v => v.category).sum ≤ 8)
    (hroom : rm'.frames + 1 ≤ rm.frames ∧ 8 + (nL' + 11) + rm'.locals ≤ rm.locals) (hcell : kc + rm'.cells ≤ rm.cells ∧ ks + rm'.slots ≤ rm.slots) (d : decode cc pc = .ok (.invokevirtual idx, 3))
    (k : ∀ (r : Option Value) (h' : dk_H), post r h' → dk_W X (pc + 3) L (dk_push r S) n' h' (kc + rm'.cells) (ks + rm'.slots)) : dk_W X pc L St n h kc ks := by
  obtain ⟨p, e, R, s, m, args, below, meth, c, Q, G'⟩ := X
  obtain ⟨hx, hb, hml, hown, hts, hr, hlk, hRm, hG, hK⟩ := C
  subst hG hst hRm
  intro H locs ls hR hf hl
  obtain ⟨⟨⟨k1, k2, k3⟩, k4, k5, k6⟩, ⟨k7, k8⟩, q, hq, hqn⟩ := K
  have hat := hR.2.2.1 a ha
  unfold dk_at at hat
  rw [hs] at hat
  obtain ⟨cellB, g1, g2, g3, -⟩ := hat
  have hfc := (hK.1.1 ci q hq).2.1
  rw [hqn] at hfc
  refine dk_back (va_runV (As := as.map (dk_rv _)) (C := y.cls) ⟨hx, hb, hml, hown, hts⟩ M (cwV np hts (dk_goodIn ?_) rfl rfl rfl ⟨rfl, k4, k5, k6⟩ hroom) ⟨dk_blind, ⟨cellB, g1, by rw [g3]; rfl, by rw [g2]; exact hfc⟩, fun U hU hW => ⟨rfl, hK.warm hW, by rw [hU]; exact hR⟩⟩ rfl (dk_lenR hnp) (hl.1.trans hml) ?_ (lv_room (by rw [dk_cats]; exact hw)) d hcell) hf hl k
  · intro w hw9
    unfold wsV at hw9
    rcases List.mem_append.mp hw9 with h1 | h1
    · simp only [List.mem_cons, List.not_mem_nil, or_false] at h1
      rcases h1 with rfl | rfl | rfl | rfl
      · exact k1
      · exact k7
      · exact k8
      · exact k2
    · rcases List.mem_cons.mp h1 with rfl | h1
      · exact k3
      · exact h1
  · simp [dk_rv]
theorem dk_callS (C : dk_C X cc own nL ret rm G) {y : MethodName} {cc' : ByteArray} {nL' : Nat} {ret' : Option FieldType} {rm' : Room} {as : List Value} {St : List Value} {idx np : Nat}
    (K : dk_LS own idx y cc' nL' ret' np) (M : dk_M G y cc' nL' ret' rm' as n h n' post) (hst : St = as.reverse ++ S) (hnp : as.length = np) (hw : (S.map fun v => v.category).sum ≤ 8)
    (hroom : rm'.frames + 1 ≤ rm.frames ∧ 8 + (nL' + 11) + rm'.locals ≤ rm.locals) (hcell : kc + rm'.cells ≤ rm.cells ∧ ks + rm'.slots ≤ rm.slots) (d : decode cc pc = .ok (.invokestatic idx, 3))
    (k : ∀ (r : Option Value) (h' : dk_H), post r h' → dk_W X (pc + 3) L (dk_push r S) n' h' (kc + rm'.cells) (ks + rm'.slots)) : dk_W X pc L St n h kc ks := by
  obtain ⟨p, e, R, s, m, args, below, meth, c, Q, G'⟩ := X
  obtain ⟨hx, hb, hml, hown, hts, hr, hlk, hRm, hG, hK⟩ := C
  subst hG hst hRm
  intro H locs ls hR hf hl
  obtain ⟨⟨⟨k1, k2, k3⟩, k4, k5, k6⟩, k7⟩ := K
  refine dk_back (va_runS (As := as.map (dk_rv _)) ⟨hx, hb, hml, hown, hts⟩ M (va_cwS np hts (dk_goodIn ?_) rfl rfl rfl ⟨k4, k5, k6⟩ hroom) ⟨dk_blind, fun U hU hW => ⟨rfl, hK.warm hW, by rw [hU]; exact hR⟩⟩ rfl (dk_lenR hnp) (hl.1.trans hml) ?_ (lv_room (by rw [dk_cats]; exact hw)) d hcell) hf hl k
  · intro w hw9
    unfold va_wsS at hw9
    rcases List.mem_append.mp hw9 with h1 | h1
    · simp only [List.mem_cons, List.not_mem_nil, or_false] at h1
      rcases h1 with rfl | rfl | rfl
      · exact k1
      · exact k7
      · exact k2
    · rcases List.mem_cons.mp h1 with rfl | h1
      · exact k3
      · exact h1
  · simp
theorem dk_callI (C : dk_C X cc own nL ret rm G) {y : MethodName} {cc' : ByteArray} {nL' : Nat} {rm' : Room} {a : Nat} {as : List Value} {St : List Value} {idx np : Nat}
    (K : dk_LI own idx y cc' nL' np) (M : dk_M G y cc' nL' none rm' (.ref a :: as) n h n' post) (hst : St = as.reverse ++ .ref a :: S) (hnp : as.length = np) (hw : (S.map fun v => v.category).sum ≤ 8)
    (hroom : rm'.frames + 1 ≤ rm.frames ∧ 8 + (nL' + 11) + rm'.locals ≤ rm.locals) (hcell : kc + rm'.cells ≤ rm.cells ∧ ks + rm'.slots ≤ rm.slots) (d : decode cc pc = .ok (.invokespecial idx, 3))
    (k : ∀ (r : Option Value) (h' : dk_H), post r h' → dk_W X (pc + 3) L (dk_push r S) n' h' (kc + rm'.cells) (ks + rm'.slots)) : dk_W X pc L St n h kc ks := by
  obtain ⟨p, e, R, s, m, args, below, meth, c, Q, G'⟩ := X
  obtain ⟨hx, hb, hml, hown, hts, hr, hlk, hRm, hG, hK⟩ := C
  subst hG hst hRm
  intro H locs ls hR hf hl
  obtain ⟨⟨⟨k1, k2, k3⟩, k4, k5, k6⟩, k7, k8⟩ := K
  refine dk_back (va_runI (As := as.map (dk_rv _)) (b := dk_b _ + a) ⟨hx, hb, hml, hown, hts⟩ M (cwI np hts (dk_goodIn ?_) rfl rfl rfl (hts _ k2) (hts _ k1) (hts _ k7) k8 ⟨k4, k5, k6⟩ hroom) ⟨dk_blind, fun U hU hW => ⟨rfl, hK.warm hW, by rw [hU]; exact hR⟩⟩ rfl (dk_lenR hnp) (hl.1.trans hml) ?_ (lv_room (by rw [dk_cats]; exact hw)) d hcell) hf hl k
  · intro w hw9
    rcases List.mem_cons.mp hw9 with rfl | h1
    · exact k3
    · exact h1
  · simp [dk_rv]
def dk_LN (own : String) (idx : Nat) (y : MethodName) (cc : ByteArray) (nL : Nat) (np : Nat) : Prop :=
  (Cond.initialized y.cls ∈ dk_tbl ∧ Cond.code y cc nL none ∈ dk_tbl ∧ Cond.instanceMethod y ∈ dk_tbl ∧ y.name = "<init>") ∧ (y.cls ≠ "java/lang/invoke/MethodHandle" ∧ y.cls ≠ "java/lang/invoke/VarHandle" ∧ (parseMethodDescriptor y.desc).map (fun d => d.parameters.length) = some np) ∧ ∀ (G : dk_G) (U : State), dk_K G U → va_Nw (.methodLinkNest own idx y RX7) U
theorem dk_callIN (C : dk_C X cc own nL ret rm G) {y : MethodName} {cc' : ByteArray} {nL' : Nat} {rm' : Room} {a : Nat} {as : List Value} {St : List Value} {idx np : Nat}
    (K : dk_LN own idx y cc' nL' np) (M : dk_M G y cc' nL' none rm' (.ref a :: as) n h n' post) (hst : St = as.reverse ++ .ref a :: S) (hnp : as.length = np) (hw : (S.map fun v => v.category).sum ≤ 8)
    (hroom : rm'.frames + 1 ≤ rm.frames ∧ 8 + (nL' + 11) + rm'.locals ≤ rm.locals) (hcell : kc + rm'.cells ≤ rm.cells ∧ ks + rm'.slots ≤ rm.slots) (d : decode cc pc = .ok (.invokespecial idx, 3))
    (k : ∀ (r : Option Value) (h' : dk_H), post r h' → dk_W X (pc + 3) L (dk_push r S) n' h' (kc + rm'.cells) (ks + rm'.slots)) : dk_W X pc L St n h kc ks := by
  obtain ⟨p, e, R, s, m, args, below, meth, c, Q, G'⟩ := X
  obtain ⟨hx, hb, hml, hown, hts, hr, hlk, hRm, hG, hK⟩ := C
  subst hG hst hRm
  intro H locs ls hR hf hl
  obtain ⟨⟨k2, k3, k7, k8⟩, ⟨k4, k5, k6⟩, k1⟩ := K
  refine dk_back (va_runIN (As := as.map (dk_rv _)) (b := dk_b _ + a) ⟨hx, hb, hml, hown, hts⟩ M ⟨va_cnB np hts (dk_goodIn ?_) rfl rfl rfl (k1 _ _ hK) (hts _ k2) ⟨k4, k5, k6⟩ hroom, k8, hts _ k7⟩ ⟨dk_blind, fun U hU hW => ⟨rfl, hK.warm hW, by rw [hU]; exact hR⟩⟩ rfl (dk_lenR hnp) (hl.1.trans hml) ?_ (lv_room (by rw [dk_cats]; exact hw)) d hcell) hf hl k
  · intro w hw9
    rcases List.mem_cons.mp hw9 with rfl | h1
    · exact k3
    · exact h1
  · simp [dk_rv]
theorem dk_objInit (C : dk_C X cc own nL ret rm G) {idx a : Nat} (hk : Cond.methodLink own idx objectInit ∈ dk_tbl) (h1 : Cond.instanceMethod objectInit ∈ dk_tbl) (h2 : Cond.code objectInit ⟨#[0xb1]⟩ 1 none ∈ dk_tbl) (d : decode cc pc = .ok (.invokespecial idx, 3)) (hfr : 1 ≤ rm.frames) (hlo : (S.map fun v => v.category).sum + 12 ≤ rm.locals)
    (k : dk_W X (pc + 3) L S n h kc ks) : dk_W X pc L (.ref a :: S) n h kc ks := by
  obtain ⟨p, e, R, s, m, args, below, meth, c, Q, G'⟩ := X
  obtain ⟨hx, hb, hml, hown, hts, hr, hlk, hRm, hG, hK⟩ := C
  subst hG hRm
  intro H locs ls hR hf hl
  exact W.objInit hx hb hown (hts _ hk) (hts _ h1) (hts _ h2) rfl hl.1 rfl d hfr (by rw [dk_cats]; show 2 * 0 + _ + 12 ≤ _; omega) (k H locs ls hR hf hl)
theorem dk_mmin (C : dk_C X cc own nL ret rm G) {idx : Nat} (h0 : Cond.methodLink own idx Lib.Math.min.name ∈ dk_tbl) (h1 : Cond.static Lib.Math.min.name ∈ dk_tbl) (h2 : Cond.initialized "java/lang/Math" ∈ dk_tbl) (h3 : Cond.code Lib.Math.min.name Lib.Math.min.code 2 (some .int) ∈ dk_tbl) {x y : Int32} (d : decode cc pc = .ok (.invokestatic idx, 3)) (hfr : 1 ≤ rm.frames) (hlo : (S.map fun v => v.category).sum + 13 ≤ rm.locals) (hc : kc ≤ rm.cells) (hs : ks ≤ rm.slots)
    (k : dk_W X (pc + 3) L (.int (if y < x then y else x) :: S) n h kc ks) : dk_W X pc L (.int y :: .int x :: S) n h kc ks := by
  obtain ⟨p, e, R, s, m, args, below, meth, c, Q, G'⟩ := X
  obtain ⟨hx, hb, hml, hown, hts, hr, hlk, hRm, hG, hK⟩ := C
  subst hG hRm
  intro H locs ls hR hf hl
  exact va_mmin hx hb hl.1.symm hown (hts _ h0) (hts _ h1) (hts _ h2) (hts _ h3) hfr (by rw [dk_cats]; exact hlo) hc hs d (k H locs ls hR hf hl)
theorem dk_mmax (C : dk_C X cc own nL ret rm G) {idx : Nat} (h0 : Cond.methodLink own idx Lib.Math.max.name ∈ dk_tbl) (h1 : Cond.static Lib.Math.max.name ∈ dk_tbl) (h2 : Cond.initialized "java/lang/Math" ∈ dk_tbl) (h3 : Cond.code Lib.Math.max.name Lib.Math.max.code 2 (some .int) ∈ dk_tbl) {x y : Int32} (d : decode cc pc = .ok (.invokestatic idx, 3)) (hfr : 1 ≤ rm.frames) (hlo : (S.map fun v => v.category).sum + 13 ≤ rm.locals) (hc : kc ≤ rm.cells) (hs : ks ≤ rm.slots)
    (k : dk_W X (pc + 3) L (.int (if x < y then y else x) :: S) n h kc ks) : dk_W X pc L (.int y :: .int x :: S) n h kc ks := by
  obtain ⟨p, e, R, s, m, args, below, meth, c, Q, G'⟩ := X
  obtain ⟨hx, hb, hml, hown, hts, hr, hlk, hRm, hG, hK⟩ := C
  subst hG hRm
  intro H locs ls hR hf hl
  exact va_mmax hx hb hl.1.symm hown (hts _ h0) (hts _ h1) (hts _ h2) (hts _ h3) hfr (by rw [dk_cats]; exact hlo) hc hs d (k H locs ls hR hf hl)
theorem dk_gets (C : dk_C X cc own nL ret rm G) {idx : Nat} (j : Nat) (hj : j < 3) (hk : Cond.fieldLink own idx RX3 (dk_sn j) "[I" ∈ dk_tbl) (d : decode cc pc = .ok (.getstatic idx, 3)) (k : dk_W X (pc + 3) L (.retAddr j :: S) n h kc ks) : dk_W X pc L S n h kc ks := by
  obtain ⟨p, e, R, s, m, args, below, meth, c, Q, G'⟩ := X
  obtain ⟨hx, hb, hml, hown, hts, hr, hlk, hRm, hG, hK⟩ := C
  subst hG
  intro H locs ls hR hf hl
  obtain ⟨cf, kf, fi, f, a, cell, h1, h2, h3, h4, h5, h6, h7, h8⟩ := (hK.2.1 j hj).1
  exact W.gets hx hb hown (hts _ hk) h1 h2 h3 h4 (by rw [hR.2.2.2 a (Nat.not_le.mp h8)]; exact h5) (fun e => by rw [e] at h6; cases h6) h7 rfl d (k H locs ls hR hf hl)
theorem dk_saldS (C : dk_C X cc own nL ret rm G) (j : Nat) (hj : j < 3) {i : Int32} (hin : vp_in i (dk_sl j)) (d : decode cc pc = .ok (.iaload, 1)) (k : dk_W X (pc + 1) L (.int (dk_sv j i.toNatClampNeg) :: S) n h kc ks) : dk_W X pc L (.int i :: .retAddr j :: S) n h kc ks := by
  obtain ⟨p, e, R, s, m, args, below, meth, c, Q, G'⟩ := X
  obtain ⟨hx, hb, hml, hown, hts, hr, hlk, hRm, hG, hK⟩ := C
  subst hG
  intro H locs ls hR hf hl
  obtain ⟨cell, h1, h2, h3, h4, h5, h6, h7⟩ := (hK.2.1 j hj).2
  have hlt : i.toNatClampNeg < dk_sl j := Nat.not_le.mp fun q => hin (Or.inr q)
  have hin' : ¬ (i < 0 ∨ cell.slots.size ≤ i.toNatClampNeg) := by
    intro q
    rcases q with q | q
    · exact hin (Or.inl q)
    · omega
  exact W.iald (v := .int (dk_sv j i.toNatClampNeg)) hx hb (by rw [hR.2.2.2 _ (Nat.not_le.mp h7)]; exact h1) h2 h3 hin' (h6 _ hlt) rfl rfl d (k H locs ls hR hf hl)
end DKC
