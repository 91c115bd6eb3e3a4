/-! ===== throws over the desk layer ===== -/
theorem nRx_d2 : decode (nRx 2) 0 = .ok (.aload_n 0, 1) ∧ decode (nRx 2) 1 = .ok (.aload_n 1, 1) ∧ decode (nRx 2) 2 = .ok (.invokespecial (nIx 2), 3) ∧ decode (nRx 2) 5 = .ok (.return_, 1) := ⟨by decide +kernel, by decide +kernel, by decide +kernel, by decide +kernel⟩
theorem nE_fit2 : Bundle.fit (nE 2) = true := by decide +kernel
theorem nRx_d (k : Nat) : decode (nRx k) 0 = .ok (.aload_n 0, 1) ∧ decode (nRx k) 1 = .ok (.aload_n 1, 1) ∧ decode (nRx k) 2 = .ok (.invokespecial (nIx k), 3) ∧ decode (nRx k) 5 = .ok (.return_, 1) := by
  match k with
  | 0 => exact ⟨by decide +kernel, by decide +kernel, by decide +kernel, by decide +kernel⟩
  | 1 => exact ⟨by decide +kernel, by decide +kernel, by decide +kernel, by decide +kernel⟩
  | _ + 2 => exact nRx_d2
theorem nE_fit (k : Nat) : Bundle.fit (nE k) = true := by
  match k with
  | 0 => decide +kernel
  | 1 => decide +kernel
  | _ + 2 => exact nE_fit2
theorem nx_throwW {p : Program} {l : Launch} {e : Env} {R : Room} {s : State} {m : MethodId} {args : Array Value} {below : List Frame} {meth : Method} {c : Code} {H : Heap} {locs : List Loc} {cells slots : Nat} {ls : Array Slot} {rest : List Value} {free : Addr → Prop} {Qc : Array Value → State → Outcome → State → Prop} {XC : String → State → State → Prop} {cc : ByteArray} {pc : Nat} (hexec : p.tables.exec = Jvm.exec) (hb : c.code = cc) (hl : l.stackTraces = false) {k i mc ms sa : Nat}
    (hown : s.vm.findClass RX7 = some m.cls) (hts : ∀ w ∈ dk_tbl, w.before args s = true) (h4 : ∀ w ∈ nW (nE k), ∀ s' : State, s'.vm = s.vm → s'.heap = H → w.before args s' = true) (hstr : vk_R RX7 (sIx i) (sTx i) sa s) (hsize : ls.size = c.maxLocals)
    (d0 : decode cc pc = .ok (.new (nIk k), 3)) (d3 : decode cc (pc + 3) = .ok (.dup, 1)) (d4 : decode cc (pc + 4) = .ok (.ldc (sIx i), 2)) (d6 : decode cc (pc + 6) = .ok (.invokespecial (nIc k), 3)) (d9 : decode cc (pc + 9) = .ok (.athrow, 1))
    (hout : ∀ x ∈ c.exceptionTable.toList, covers x (pc + 9) = false) (hRframes : 5 < R.frames) (hRlocals : (rest.map fun v => v.category).sum + 82 ≤ R.locals) (hRcells : cells + 1 ≤ R.cells) (hRslots : slots + 6 ≤ R.slots) (hlocks : meth.locks = false)
    (hx : ∀ t : State, s.vm.Alike t.vm → H.size ≤ t.heap.size → (∀ q : Nat, q < H.size → t.heap[q]? = H[q]?) → XC (nE k) s t)
    (hf : ∀ z ∈ locs, free z.base) (hc : cells + 1 ≤ mc) (hs : slots + 6 ≤ ms) :
    W p l e R s m args below meth c H locs cells slots (vx_MQ below Qc XC args s mc ms free) (F0 m pc ls rest) := by
  intro T hT X
  have htr : e.platform.stackTraces = false := (show e.platform.stackTraces = l.stackTraces by rw [X.admits.platform]).trans hl
  have Y := vx_rebase X (R' := { frames := R.frames, locals := R.locals, cells := 1, slots := 6 }) (Nat.le_refl _) (Nat.le_refl _) hRcells hRslots
  obtain ⟨s', hA⟩ : ∃ z, z = (T.setVm s.vm).setFrames (.invoking m args :: below) := ⟨_, rfl⟩
  rw [← hA] at Y
  have hvm : s'.vm = s.vm := by rw [hA]; rfl
  have hhp : s'.heap = H := by rw [hA]; exact hT
  have hW0 : s.WarmedH s'.vm := by rw [hvm]; exact State.WarmedH.refl s
  have hgood : ∀ w ∈ dk_tbl, w.before args s' = true := fun w hw => word_at hW0 (good_of_word (List.mem_filter.mp hw).2) (hts w hw)
  have h : ∀ w ∈ nx_w RX7 (nIc k) (nE k) (nIx k) (nRx k) "java/lang/RuntimeException" ["java/lang/Exception"], w.before args s' = true := fun w hw => (nw_ok k w hw).elim (hgood w) (fun z => h4 w z s' hvm hhp)
  have hk' := hgood _ (nk_ok k)
  have hini' := hgood _ (ni_ok k)
  have hown' : s'.vm.findClass RX7 = some m.cls := by rw [hvm]; exact hown
  have hins : (Cond.instantiable (nE k) 6).before args s' = true := h _ (by simp [nx_w])
  obtain ⟨vm₁, cX, kX, hfX, hkX, -, -, X₁, st1⟩ := Y.newCold hexec (own := RX7) (C := nE k) (index := nIk k) (n := 6) hown' hk' hins hini'
    (g := F0 m pc ls rest) rfl (by rw [hb]; exact d0) (Nat.le_refl _) (Nat.le_refl _)
  generalize hT1 : (T.setVm vm₁).pushCell { cls := cX, slots := kX.instanceTypes.map defaultValue, vm := .none } = T1 at X₁ st1
  have hcat : (Value.ref T.heap.size).category = 1 := rfl
  have hcellA : T1.heap[T.heap.size]? = some (freshCell cX kX) := by rw [← hT1]; exact State.heap_pushCell_size _ _
  have d3' : decode c.code (pc + 3) = .ok (.dup, 1) := by rw [hb]; exact d3
  have d4' : decode c.code (pc + 4) = .ok (.ldc (sIx i), 2) := by rw [hb]; exact d4
  have hstr' : vk_R RX7 (sIx i) (sTx i) sa s' := vk_R.warm hW0 hstr
  obtain ⟨x0, x1, x2, x5⟩ := nRx_d k
  obtain ⟨U, hsteps, hrun, hend, hW, hsame, ce, hce, hO1, hO2⟩ := nx_ctor X₁ hexec htr (own := RX7) (cls := nE k) (Y9 := "java/lang/RuntimeException") (r := ["java/lang/Exception"]) (ic := nIc k) (ix := nIx k) (rx := nRx k) x0 x1 x2 x5 hown' (nE_fit k) (by decide +kernel) (by decide +kernel) h (fun x hx => nomatch hx) hfX hkX hcellA (by rw [hhp, hT]; exact Nat.le_refl _) (msg := .ref sa) rfl
    (g := { method := m, pc := pc + 6, locals := ls, stack := .ref sa :: .ref T.heap.size :: .ref T.heap.size :: rest, locked := none }) rfl hsize rfl rfl (rest := rest) rfl
    (by rw [hb]; exact d6) (by rw [hb]; exact d9) hout hRframes (by show 2 * _ + ((Value.ref T.heap.size :: rest).map fun v => v.category).sum + (13 * (1 + 2) + 42) ≤ R.locals; rw [List.map_cons, List.sum_cons, hcat]; show 2 * 0 + _ + _ ≤ _; omega) hlocks
  obtain ⟨f1, f2⟩ := vx_frame hsame
  rw [hhp] at f1 f2
  have hWs : s.WarmedH U.vm := State.WarmedH.trans hW0 hW
  have hcl : s.vm.findClass (nE k) = some ce.cls := by
    rw [hvm] at hO1
    exact hO1
  have hall : s.sameButNew ({ U with vm := s.vm } : State) locs mc ms := by
    subst hA
    obtain ⟨e1, e2⟩ := hsame
    rw [State.setFrames_setFrames] at e1
    have h2 : (T.setVm s.vm).sameButNew ({ U with vm := s.vm } : State) [] (0 + 1) (0 + 6) := ⟨e1, e2⟩
    have h3 := X.same.trans h2
    rw [List.append_nil] at h3
    exact h3.mono hc hs
  refine ⟨U, ?_, .threw T.heap.size, hrun, hend, Or.inr ⟨T.heap.size, rfl, nE k, ce, locs, hx U hWs.alike f1 (fun q hq => f2 q hq (fun z hz => nomatch hz)), hce, hO2, hcl, hWs, hall, hf⟩⟩
  refine st1 _ ?_
  show Steps p.tables e below (T1.setTop { method := m, pc := pc + 3, locals := ls, stack := .ref T.heap.size :: rest, locked := none }) _
  jvm_step X₁.here [X₁.here.top, hexec, d3', Value.category]
  exact X₁.ldcString hexec (own := RX7) (text := sTx i) (index := sIx i) (a := sa) hown' hstr'.1 hstr'.2
    (g := { method := m, pc := pc + 4, locals := ls, stack := .ref T.heap.size :: .ref T.heap.size :: rest, locked := none }) rfl d4' _ hsteps
/-- what a throw wants of the start -/
def dk_XK (G : dk_G) (U : State) : Prop := (G.1.stackTraces = false ∧ G.2.2.2.2.2.2 = false) ∧
  ((∀ k : Nat, va_Nw (.castable (nE k) (nE k)) U) ∧ va_Nw (.declares (Bundle.initS "java/lang/RuntimeException")) U ∧ va_Nw (.declares (Bundle.initS "java/lang/Exception")) U ∧ va_Nw (.declares (Bundle.initS Bundle.tN)) U) ∧
  (vx_Zq Bundle.tN "UNASSIGNED_STACK" Bundle.steD (fun q => dk_b G ≤ q) U (dk_H0 G) ∧ vx_Zq Bundle.tN "SUPPRESSED_SENTINEL" Bundle.listD (fun q => dk_b G ≤ q) U (dk_H0 G)) ∧
  (∀ i : Nat, i < 8 → ∃ sa, vk_R RX7 (sIx i) (sTx i) sa U) ∧ va_Nc (nE 1) (nE 0) U ∧ va_Nc (nE 2) (nE 1) U
theorem dk_XK.warm {G : dk_G} {s U : State} (hW : s.WarmedH U.vm) (h : dk_XK G s) : dk_XK G U := by
  obtain ⟨h1, ⟨h2, h3, h4, h5⟩, ⟨h6, h7⟩, h8, h9, h10⟩ := h
  exact ⟨h1, ⟨fun k => va_Nw.warmC hW (h2 k), va_Nw.warmD hW h3, va_Nw.warmD hW h4, va_Nw.warmD hW h5⟩, ⟨vx_Zq.moved hW.alike h6, vx_Zq.moved hW.alike h7⟩, fun i hi => (h8 i hi).elim (fun sa hs => ⟨sa, vk_R.warm hW hs⟩), va_Nc.moved hW.alike h9, va_Nc.moved hW.alike h10⟩
theorem dk_XK.same {G : dk_G} {s U : State} (hv : s.vm = U.vm) (h : dk_XK G s) : dk_XK G U := h.warm (by rw [← hv]; exact State.WarmedH.refl s)
theorem dk_XK.words {G : dk_G} {s : State} (h : dk_XK G s) {n : Nat} {hh : dk_H} {H : Heap} (hR : dk_R G n hh H) (args : Array Value) (k : Nat) : ∀ w ∈ nW (nE k), ∀ s' : State, s'.vm = s.vm → s'.heap = H → w.before args s' = true := by
  intro w hw s' hvm hhp
  obtain ⟨h1, ⟨h2, h3, h4, h5⟩, ⟨h6, h7⟩, h8, h9, h10⟩ := h
  have hW0 : s.WarmedH s'.vm := by rw [hvm]; exact State.WarmedH.refl s
  have k6 : vx_Zq Bundle.tN "UNASSIGNED_STACK" Bundle.steD (fun q => dk_b G ≤ q) s' s'.heap := by rw [hhp]; exact vx_Zq.moved hW0.alike (h6.kept (fun a ha _ => hR.2.2.2 a ha))
  have k7 : vx_Zq Bundle.tN "SUPPRESSED_SENTINEL" Bundle.listD (fun q => dk_b G ≤ q) s' s'.heap := by rw [hhp]; exact vx_Zq.moved hW0.alike (h7.kept (fun a ha _ => hR.2.2.2 a ha))
  unfold nW at hw
  simp only [List.mem_cons, List.not_mem_nil, or_false] at hw
  rcases hw with rfl | rfl | rfl | rfl | rfl | rfl | rfl | rfl
  · exact va_Nw.use rfl (va_Nw.warmC hW0 (h2 k))
  · exact va_Nw.use rfl (va_Nw.warmD hW0 h3)
  · exact va_Nw.use rfl (va_Nw.warmD hW0 h4)
  · exact va_Nw.use rfl (va_Nw.warmD hW0 h5)
  · exact k6.2.word
  · exact k7.2.word
  · exact vx_isRefq k6.1
  · exact vx_isRefq k7.1
/-- what is left behind a throw: which class, and the heap -/
def nx_XC (G : dk_G) (n : Nat) (pX : String → dk_H → Prop) : String → State → State → Prop := fun E _ t => ∃ h' : dk_H, pX E h' ∧ dk_R G n h' t.heap
def nx_Pc (G : dk_G) (as : List Value) (n : Nat) (h : dk_H) : Array Value → State → Prop := va_Pc (as.map (dk_rv G)) (fun U => dk_K G U ∧ dk_R G n h U.heap ∧ dk_XK G U)
theorem nx_blind {G : dk_G} {as : List Value} {n : Nat} {h : dk_H} : FrameBlind (nx_Pc G as n h) := fun a U g mk q => ⟨q.1, q.2.1.same rfl, q.2.2.1, q.2.2.2.same rfl⟩
/-- the contract of y, which returns or throws -/
def nx_M (G : dk_G) (y : MethodName) (cc : ByteArray) (nL : Nat) (ret : Option FieldType) (rm : Room) (as : List Value) (n : Nat) (h : dk_H) (post : Option Value → dk_H → Prop) (pX : String → dk_H → Prop) : Prop :=
  vx_Met G.1 y (dk_ws y cc nL ret) rm (nx_Pc G as n h) (dk_Qc G n post) (nx_XC G n pX) rm.cells rm.slots (fun q => dk_b G ≤ q)
/-- how a walk of y may throw -/
def nx_T (X : dk_X) (n mc ms : Nat) (pX : String → dk_H → Prop) : Prop := match X with
  | (_, _, _, s, _, args, below, _, c, Q, G) => (∀ x ∈ c.exceptionTable.toList, False) ∧ dk_XK G s ∧ ∃ Qc, Q = vx_MQ below Qc (nx_XC G n pX) args s mc ms (fun q => dk_b G ≤ q)
theorem nx_met {G : dk_G} {y : MethodName} {cc : ByteArray} {nL : Nat} {ret : Option FieldType} {rm : Room} {as : List Value} {n : Nat} {h : dk_H} {post : Option Value → dk_H → Prop} {pX : String → dk_H → Prop} (L : List (Option Value)) (hy : plainName y.cls = true) (hL : dk_pr G 0 L = lv_args 0 (as.map (dk_rv G))) (hlen : (lg_sl (as.map (dk_rv G))).length ≤ nL)
    (body : ∀ X : dk_X, dk_C X cc y.cls nL ret rm G → dk_E X n rm.cells rm.slots post → nx_T X n rm.cells rm.slots pX → dk_W X 0 L [] n h 0 0) : nx_M G y cc nL ret rm as n h post pX := by
  refine vx_ofW (cc := cc) (maxL := nL) (ret := ret) hy rfl ?_
  intro p e s m args below meth c s₁ B hml ht hv
  obtain ⟨hargs, hK, hR, hXK⟩ := hv
  have hts : ∀ w ∈ dk_tbl, w.before args s = true := fun w hw => atoms_spec (ws := dk_ws y cc nL ret) B.pre w (List.mem_cons_of_mem _ hw)
  have hb := body (p, e, rm, s, m, args, below, meth, c, vx_MQ below (dk_Qc G n post) (nx_XC G n pX) args s rm.cells rm.slots (fun q => dk_b G ≤ q), G)
    ⟨B.exec, B.bytes, hml, findClass_of_methodNamed B.named, hts, B.returns, B.notSynchronized, rfl, rfl, hK⟩ (fun _ _ _ z => vx_ret z) ⟨ht, hXK, _, rfl⟩
  subst hargs
  rw [lg_entry_eq]
  refine hb s.heap [] _ hR (fun q hq => by cases hq) ?_
  have hl := lv_entry (as.map (dk_rv G)) (n := nL) hlen
  rw [hml, hL]
  exact hl
theorem nx_throw {X : dk_X} {cc : ByteArray} {nL : Nat} {ret : Option FieldType} {rm : Room} {G : dk_G} {pc : Nat} {L : List (Option Value)} {S : List Value} {n : Nat} {h : dk_H} {kc ks mc ms : Nat} {pX : String → dk_H → Prop} (C : dk_C X cc RX7 nL ret rm G) (Tt : nx_T X n mc ms pX) (k i : Nat) (hi : i < 8) (hp : pX (nE k) h)
    (d0 : decode cc pc = .ok (.new (nIk k), 3)) (d3 : decode cc (pc + 3) = .ok (.dup, 1)) (d4 : decode cc (pc + 4) = .ok (.ldc (sIx i), 2)) (d6 : decode cc (pc + 6) = .ok (.invokespecial (nIc k), 3)) (d9 : decode cc (pc + 9) = .ok (.athrow, 1))
    (hfr : 5 < rm.frames) (hlo : (S.map fun v => v.category).sum + 82 ≤ rm.locals) (hce : kc + 1 ≤ rm.cells ∧ ks + 6 ≤ rm.slots) (hmc : kc + 1 ≤ mc ∧ ks + 6 ≤ ms) : dk_W X pc L S n h kc ks := by
  obtain ⟨p, e, R, s, m, args, below, meth, c, Q, G'⟩ := X
  obtain ⟨hx, hb, hml, hown, hts, hr, hlk, hRm, hG, hK⟩ := C
  obtain ⟨hout, hXK, Qc, hQ⟩ := Tt
  subst hG hRm hQ
  intro H locs ls hR hf hl
  obtain ⟨sa, hsa⟩ := hXK.2.2.2.1 i hi
  refine nx_throwW hx hb hXK.1.1 hown hts (hXK.words hR args k) hsa hl.1 d0 d3 d4 d6 d9 (fun x hx => absurd hx (fun y => (hout x y).elim)) hfr (by rw [dk_cats]; exact hlo) hce.1 hce.2 hlk ?_ hf hmc.1 hmc.2
  intro t hal hsz hq
  refine ⟨h, hp, fun y => ?_, Nat.le_trans hR.2.1 hsz, fun i hi' => ?_, fun q hq' => ?_⟩
  · rw [hXK.1.2] at y; cases y
  · exact (hR.2.2.1 i hi').kept (fun _ _ => rfl) (hq _ (by have := hR.2.1; omega))
  · rw [hq q (by have := hR.2.1; omega)]; exact hR.2.2.2 q hq'
