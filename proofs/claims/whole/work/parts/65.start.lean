/-! ===== the law's entry (by gen_start.py) ===== -/
theorem lw_m1 {w : Cond} (i : Nat) (h : tables_1_1[i]? = some w) : w ∈ lw_tbl := List.mem_append_right _ (List.mem_append_left _ (List.mem_of_getElem? h))
theorem lw_m3 {w : Cond} (i : Nat) (h : tables_1_3[i]? = some w) : w ∈ lw_tbl := List.mem_append_right _ (List.mem_append_right _ (List.mem_append_right _ (List.mem_append_left _ (List.mem_of_getElem? h))))
theorem lw_m4 {w : Cond} (i : Nat) (h : tables_1_4[i]? = some w) : w ∈ lw_tbl := List.mem_append_right _ (List.mem_append_right _ (List.mem_append_right _ (List.mem_append_right _ (List.mem_append_left _ (List.mem_of_getElem? h)))))
theorem st_f {args : Array Value} {s : State} (h : (Jvm.Cond.and given_1 narrow_1).before args s = true) (i : Nat) {w : Cond} (e : (flatC (Jvm.Cond.and given_1 narrow_1))[i]? = some w) : w.before args s = true := flat_of_before _ h _ (List.mem_of_getElem? e)
theorem st_prim {args : Array Value} {s : State} {ty : FieldType} (h : (Cond.arrayClass ty).before args s = true) : ∃ cA, ArrOfT s cA ty ∧ s.vm.findClass ("[" ++ ty.toString) = some cA := by
  obtain ⟨cA, kA, comp, h1, h2, h3⟩ := Cond.arrayClass_spec h
  exact ⟨cA, fun n z => ⟨fun k h => (by cases h), kA, h2, comp, h3⟩, h1⟩
theorem st_obj {args : Array Value} {s : State} {C : String} (h : (Cond.arrayOver (.object C)).before args s = true) : ∃ cA, ArrOfT s cA (.object C) ∧ va_RA s cA (.object C) := by
  obtain ⟨comp, cA, kA, h1, _, h2, h3, h4⟩ := Cond.arrayOver_spec h
  exact ⟨cA, fun n z => ⟨fun k h => (by cases h), kA, h2, comp, h3⟩, kA, comp, h2, h3, h1, h4⟩
set_option maxHeartbeats 4000000 in
set_option maxRecDepth 100000 in
theorem st_S0 {b : Nat} {s : State} (hts : ∀ w ∈ lw_tbl, w.before #[Value.ref b] s = true) (hgv : (Jvm.Cond.and given_1 narrow_1).before #[Value.ref b] s = true) : ∃ t : Nat, va_Z RX3 (dk_sn 0) "[I" (.ref t) (fun q => s.heap.size ≤ q) s s.heap ∧ va_T .int t (dk_sl 0) (fun k => .int (dk_sv 0 k)) (fun q => s.heap.size ≤ q) s s.heap := by
  have hA : ∀ a : Nat, a < s.heap.size → ¬ (fun q : Nat => s.heap.size ≤ q) a := fun a h => Nat.not_le.mpr h
  have hel : ∀ k : Nat, k < 1 → (Term.elem (.static RX3 "ORDERS_OF_ONE" "[I") (.int (Int32.ofNat k))).eval #[Value.ref b] s none [] s = some (.int (dk_sv 0 k)) := by
    intro k hk
    rcases (show k = 0 by omega) with rfl
    · exact va_eqt (st_f hgv 9 rfl)
  obtain ⟨t, h1, h2⟩ := va_Tof (args := #[Value.ref b]) (s := s) (tm := .static RX3 "ORDERS_OF_ONE" "[I") (ty := .int) (N := 1) (f := fun k => .int (dk_sv 0 k)) (A := fun q => s.heap.size ≤ q) (by decide) (st_f hgv 7 rfl) (va_eqt (st_f hgv 8 rfl)) hel hA
  exact ⟨t, va_Zref (hts _ (lw_m3 209 rfl)) (hts _ (lw_m1 7 rfl)) h1 hA, h2⟩
set_option maxHeartbeats 4000000 in
set_option maxRecDepth 100000 in
theorem st_S1 {b : Nat} {s : State} (hts : ∀ w ∈ lw_tbl, w.before #[Value.ref b] s = true) (hgv : (Jvm.Cond.and given_1 narrow_1).before #[Value.ref b] s = true) : ∃ t : Nat, va_Z RX3 (dk_sn 1) "[I" (.ref t) (fun q => s.heap.size ≤ q) s s.heap ∧ va_T .int t (dk_sl 1) (fun k => .int (dk_sv 1 k)) (fun q => s.heap.size ≤ q) s s.heap := by
  have hA : ∀ a : Nat, a < s.heap.size → ¬ (fun q : Nat => s.heap.size ≤ q) a := fun a h => Nat.not_le.mpr h
  have hel : ∀ k : Nat, k < 4 → (Term.elem (.static RX3 "ORDERS_OF_TWO" "[I") (.int (Int32.ofNat k))).eval #[Value.ref b] s none [] s = some (.int (dk_sv 1 k)) := by
    intro k hk
    rcases (show k = 0 ∨ k = 1 ∨ k = 2 ∨ k = 3 by omega) with rfl | rfl | rfl | rfl
    · exact va_eqt (st_f hgv 13 rfl)
    · exact va_eqt (st_f hgv 14 rfl)
    · exact va_eqt (st_f hgv 15 rfl)
    · exact va_eqt (st_f hgv 16 rfl)
  obtain ⟨t, h1, h2⟩ := va_Tof (args := #[Value.ref b]) (s := s) (tm := .static RX3 "ORDERS_OF_TWO" "[I") (ty := .int) (N := 4) (f := fun k => .int (dk_sv 1 k)) (A := fun q => s.heap.size ≤ q) (by decide) (st_f hgv 11 rfl) (va_eqt (st_f hgv 12 rfl)) hel hA
  exact ⟨t, va_Zref (hts _ (lw_m3 211 rfl)) (hts _ (lw_m1 7 rfl)) h1 hA, h2⟩
set_option maxHeartbeats 4000000 in
set_option maxRecDepth 100000 in
theorem st_S2 {b : Nat} {s : State} (hts : ∀ w ∈ lw_tbl, w.before #[Value.ref b] s = true) (hgv : (Jvm.Cond.and given_1 narrow_1).before #[Value.ref b] s = true) : ∃ t : Nat, va_Z RX3 (dk_sn 2) "[I" (.ref t) (fun q => s.heap.size ≤ q) s s.heap ∧ va_T .int t (dk_sl 2) (fun k => .int (dk_sv 2 k)) (fun q => s.heap.size ≤ q) s s.heap := by
  have hA : ∀ a : Nat, a < s.heap.size → ¬ (fun q : Nat => s.heap.size ≤ q) a := fun a h => Nat.not_le.mpr h
  have hel : ∀ k : Nat, k < 18 → (Term.elem (.static RX3 "ORDERS_OF_THREE" "[I") (.int (Int32.ofNat k))).eval #[Value.ref b] s none [] s = some (.int (dk_sv 2 k)) := by
    intro k hk
    rcases (show k = 0 ∨ k = 1 ∨ k = 2 ∨ k = 3 ∨ k = 4 ∨ k = 5 ∨ k = 6 ∨ k = 7 ∨ k = 8 ∨ k = 9 ∨ k = 10 ∨ k = 11 ∨ k = 12 ∨ k = 13 ∨ k = 14 ∨ k = 15 ∨ k = 16 ∨ k = 17 by omega) with rfl | rfl | rfl | rfl | rfl | rfl | rfl | rfl | rfl | rfl | rfl | rfl | rfl | rfl | rfl | rfl | rfl | rfl
    · exact va_eqt (st_f hgv 20 rfl)
    · exact va_eqt (st_f hgv 21 rfl)
    · exact va_eqt (st_f hgv 22 rfl)
    · exact va_eqt (st_f hgv 23 rfl)
    · exact va_eqt (st_f hgv 24 rfl)
    · exact va_eqt (st_f hgv 25 rfl)
    · exact va_eqt (st_f hgv 26 rfl)
    · exact va_eqt (st_f hgv 27 rfl)
    · exact va_eqt (st_f hgv 28 rfl)
    · exact va_eqt (st_f hgv 29 rfl)
    · exact va_eqt (st_f hgv 30 rfl)
    · exact va_eqt (st_f hgv 31 rfl)
    · exact va_eqt (st_f hgv 32 rfl)
    · exact va_eqt (st_f hgv 33 rfl)
    · exact va_eqt (st_f hgv 34 rfl)
    · exact va_eqt (st_f hgv 35 rfl)
    · exact va_eqt (st_f hgv 36 rfl)
    · exact va_eqt (st_f hgv 37 rfl)
  obtain ⟨t, h1, h2⟩ := va_Tof (args := #[Value.ref b]) (s := s) (tm := .static RX3 "ORDERS_OF_THREE" "[I") (ty := .int) (N := 18) (f := fun k => .int (dk_sv 2 k)) (A := fun q => s.heap.size ≤ q) (by decide) (st_f hgv 18 rfl) (va_eqt (st_f hgv 19 rfl)) hel hA
  exact ⟨t, va_Zref (hts _ (lw_m3 213 rfl)) (hts _ (lw_m1 7 rfl)) h1 hA, h2⟩
set_option maxHeartbeats 4000000 in
set_option maxRecDepth 100000 in
theorem st_K {b : Nat} {s : State} (hts : ∀ w ∈ lw_tbl, w.before #[Value.ref b] s = true) (hgv : (Jvm.Cond.and given_1 narrow_1).before #[Value.ref b] s = true) : ∃ (ci : Nat → ClassId) (sl : Nat → Nat → Nat) (cT : Nat → ClassId) (sa : Nat → Nat), sa 3 = b ∧ ∀ (l : Launch) (tt : Bool), dk_K (l, ci, sl, cT, s.heap, sa, tt) s := by
  have hD : ∀ w ∈ dk_tbl, w.before #[Value.ref b] s = true := fun w hw => hts w (dk_sub hw)
  obtain ⟨c0, i0, k0⟩ := u_known (C := RX0) (T := TX0) (N := 4) (n := 4) hD inX0 (hts (.instantiable RX0 4) (lw_m1 67 rfl))
  obtain ⟨c1, i1, k1⟩ := u_known (C := RX1) (T := TX1) (N := 4) (n := 4) hD inX1 (hts (.instantiable RX1 4) (lw_m1 95 rfl))
  obtain ⟨c2, i2, k2⟩ := u_known (C := RX2) (T := TX2) (N := 2) (n := 2) hD inX2 (hts (.instantiable RX2 2) (lw_m1 127 rfl))
  obtain ⟨c3, i3, k3⟩ := u_known (C := RX3) (T := TX3) (N := 8) (n := 8) hD inX3 (hts (.instantiable RX3 8) (lw_m1 199 rfl))
  obtain ⟨c4, i4, k4⟩ := u_known (C := RX4) (T := TX4) (N := 11) (n := 11) hD inX4 (hts (.instantiable RX4 11) (lw_m1 59 rfl))
  obtain ⟨c5, i5, k5⟩ := u_known (C := RX5) (T := TX5) (N := 6) (n := 6) hD inX5 (hts (.instantiable RX5 6) (lw_m1 28 rfl))
  obtain ⟨c6, i6, k6⟩ := u_known (C := RX6) (T := TX6) (N := 9) (n := 9) hD inX6 (hts (.instantiable RX6 9) (lw_m1 239 rfl))
  obtain ⟨c7, i7, k7⟩ := u_known (C := RX7) (T := TX7) (N := 5) (n := 5) hD inX7 (hts (.instantiable RX7 5) (lw_m1 19 rfl))
  obtain ⟨c8, i8, k8⟩ := u_known (C := RX8) (T := TX8) (N := 30) (n := 30) hD inX8 (hts (.instantiable RX8 30) (lw_m4 55 rfl))
  obtain ⟨a0, b0, d0⟩ := st_prim (hD _ ar_int)
  obtain ⟨a1, b1, d1⟩ := st_prim (hD _ ar_boolean)
  obtain ⟨a2, b2, d2⟩ := st_prim (hD _ ar_float)
  obtain ⟨a3, b3, d3⟩ := st_prim (hD _ ar_long)
  obtain ⟨a4, b4, d4⟩ := st_prim (hD _ ar_double)
  obtain ⟨a5, b5, d5⟩ := st_obj (C := RX5) (hts _ (lw_m1 27 rfl))
  obtain ⟨a6, b6, d6⟩ := st_obj (C := RX0) (hts _ (lw_m1 66 rfl))
  obtain ⟨a7, b7, d7⟩ := st_obj (C := RX1) (hts _ (lw_m1 94 rfl))
  obtain ⟨a8, b8, d8⟩ := st_obj (C := RX2) (hts _ (lw_m1 126 rfl))
  obtain ⟨s0, z0⟩ := st_S0 hts hgv
  obtain ⟨s1, z1⟩ := st_S1 hts hgv
  obtain ⟨s2, z2⟩ := st_S2 hts hgv
  refine ⟨fun k => ([c0, c1, c2, c3, c4, c5, c6, c7, c8] : List ClassId).getD k c0, fun k => ([i0, i1, i2, i3, i4, i5, i6, i7, i8] : List (Nat → Nat)).getD k i0, fun k => ([a0, a1, a2, a3, a4, a5, a6, a7, a8] : List ClassId).getD k a0, fun k => ([s0, s1, s2, b] : List Nat).getD k 0, rfl, fun l tt => ⟨⟨fun k q hq => ?_, fun k q hq => ?_⟩, fun j hj => ?_, ⟨va_Nw.of rfl (hts _ (lw_m1 68 rfl)), va_Nw.of rfl (hts _ (lw_m1 96 rfl)), va_Nw.of rfl (hts _ (lw_m1 128 rfl))⟩, va_AO.of (hts _ (lw_m1 27 rfl)), va_AO.of (hts _ (lw_m1 66 rfl)), va_AO.of (hts _ (lw_m1 94 rfl)), va_AO.of (hts _ (lw_m1 126 rfl))⟩⟩
  · match k, hq with
    | 0, hq => cases hq; exact k0
    | 1, hq => cases hq; exact k1
    | 2, hq => cases hq; exact k2
    | 3, hq => cases hq; exact k3
    | 4, hq => cases hq; exact k4
    | 5, hq => cases hq; exact k5
    | 6, hq => cases hq; exact k6
    | 7, hq => cases hq; exact k7
    | 8, hq => cases hq; exact k8
    | k + 9, hq => exact absurd hq (by simp)
  · match k, hq with
    | 0, hq => cases hq; exact ⟨b0, d0⟩
    | 1, hq => cases hq; exact ⟨b1, d1⟩
    | 2, hq => cases hq; exact ⟨b2, d2⟩
    | 3, hq => cases hq; exact ⟨b3, d3⟩
    | 4, hq => cases hq; exact ⟨b4, d4⟩
    | 5, hq => cases hq; exact ⟨b5, d5⟩
    | 6, hq => cases hq; exact ⟨b6, d6⟩
    | 7, hq => cases hq; exact ⟨b7, d7⟩
    | 8, hq => cases hq; exact ⟨b8, d8⟩
    | k + 9, hq => exact absurd hq (by simp [dk_tys])
  · rcases (by omega : j = 0 ∨ j = 1 ∨ j = 2) with rfl | rfl | rfl
    · exact z0
    · exact z1
    · exact z2
set_option maxHeartbeats 4000000 in
set_option maxRecDepth 100000 in
theorem st_XK {b : Nat} {s : State} (hts : ∀ w ∈ lw_tbl, w.before #[Value.ref b] s = true) (hgv : (Jvm.Cond.and given_1 narrow_1).before #[Value.ref b] s = true) {l : Launch} (hl : l.stackTraces = false) (ci : Nat → ClassId) (sl : Nat → Nat → Nat) (cT : Nat → ClassId) (sa : Nat → Nat) : dk_XK (l, ci, sl, cT, s.heap, sa, false) s := by
  have hA : ∀ a : Nat, a < s.heap.size → ¬ (fun q : Nat => s.heap.size ≤ q) a := fun a h => Nat.not_le.mpr h
  refine ⟨⟨hl, rfl⟩, ⟨fun k => ?_, va_Nw.of rfl (hts _ (lw_m3 28 rfl)), va_Nw.of rfl (hts _ (lw_m3 30 rfl)), va_Nw.of rfl (hts _ (lw_m3 32 rfl))⟩, ⟨vx_Zqof (hts _ (lw_m3 51 rfl)) (hts _ (lw_m1 10 rfl)) (st_f hgv 4 rfl) hA, vx_Zqof (hts _ (lw_m3 53 rfl)) (hts _ (lw_m1 10 rfl)) (st_f hgv 5 rfl) hA⟩, fun i hi => ?_, va_Nc.of (st_f hgv 47 rfl), va_Nc.of (st_f hgv 59 rfl)⟩
  · match k with
    | 0 => exact va_Nw.of rfl (hts _ (lw_m3 26 rfl))
    | 1 => exact va_Nw.of rfl (hts _ (lw_m3 98 rfl))
    | k + 2 => exact va_Nw.of rfl (hts _ (lw_m4 27 rfl))
  · rcases (by omega : i = 0 ∨ i = 1 ∨ i = 2 ∨ i = 3 ∨ i = 4 ∨ i = 5 ∨ i = 6 ∨ i = 7) with rfl | rfl | rfl | rfl | rfl | rfl | rfl | rfl
    · obtain ⟨a, _, _, _, h1, _⟩ := Cond.exactly_spec (st_f hgv 71 rfl)
      exact ⟨a, vk_R.of (hts _ (lw_m3 65 rfl)) h1⟩
    · obtain ⟨a, _, _, _, h1, _⟩ := Cond.exactly_spec (st_f hgv 88 rfl)
      exact ⟨a, vk_R.of (hts _ (lw_m3 105 rfl)) h1⟩
    · obtain ⟨a, _, _, _, h1, _⟩ := Cond.exactly_spec (st_f hgv 121 rfl)
      exact ⟨a, vk_R.of (hts _ (lw_m3 131 rfl)) h1⟩
    · obtain ⟨a, _, _, _, h1, _⟩ := Cond.exactly_spec (st_f hgv 147 rfl)
      exact ⟨a, vk_R.of (hts _ (lw_m3 146 rfl)) h1⟩
    · obtain ⟨a, _, _, _, h1, _⟩ := Cond.exactly_spec (st_f hgv 182 rfl)
      exact ⟨a, vk_R.of (hts _ (lw_m3 166 rfl)) h1⟩
    · obtain ⟨a, _, _, _, h1, _⟩ := Cond.exactly_spec (st_f hgv 217 rfl)
      exact ⟨a, vk_R.of (hts _ (lw_m4 34 rfl)) h1⟩
    · obtain ⟨a, _, _, _, h1, _⟩ := Cond.exactly_spec (st_f hgv 248 rfl)
      exact ⟨a, vk_R.of (hts _ (lw_m4 48 rfl)) h1⟩
    · obtain ⟨a, _, _, _, h1, _⟩ := Cond.exactly_spec (st_f hgv 282 rfl)
      exact ⟨a, vk_R.of (hts _ (lw_m4 49 rfl)) h1⟩
/-! THE CLAIM OUT OF ONE WALK OF THE LAW'S BODY. Your part is whole_start (and what it stands on); all else here is the same for every law, but numbers. -/
def R_law : String := "QueryDeskLaw"
def lw_P (b : Addr) (xs : List Int32) (args : Array Value) (s : State) : Prop := args = #[.ref b] ∧ s.IntsAt b xs ∧ xs.length ≤ 384 ∧ (Jvm.Cond.and given_1 narrow_1).before args s = true
def lw_Q (_ : Array Value) (s : State) (o : Outcome) (t : State) : Prop := o = .returned (some (.int 1)) ∧ Framed s o t [] 600128 7301098
def lw_Z (below : List Frame) (a : Array Value) (s : State) : State → Prop := fun t => ∃ o, t.status = .running ∧ Ended t below o ∧ lw_Q a s o t
/-- the law's own end, with 1 on the stack, nothing written that was there before, its room as the claim has it -/
theorem lw_ret {p : Program} {l : Launch} {e : Env} {s : State} {m : MethodId} {below : List Frame} {meth : Method} {c : Code} {b : Nat} (hx : p.tables.exec = Jvm.exec) (hb : c.code = code) (hr : meth.sig.returnType = ret) (hlocks : meth.locks = false) {pc : Nat} {H : Heap} {ls : Array Slot} (hdg : decode code pc = .ok (.ireturn, 1)) : W p l e room_1 s m #[Value.ref b] below meth c H [] 600128 7301098 (lw_Z below #[Value.ref b] s) (F0 m pc ls [.int 1]) := by
  intro T hT X
  obtain ⟨fs, hret, hrun, hended, hW, hframe⟩ := X.leave (v := some (.int 1)) (hlocks := hlocks) (fun h => by rw [hr] at h; cases h)
  have hmeth' : T.vm.method? m = some meth := X.method'
  refine ⟨T.setFrames fs, ?_, .returned (some (.int 1)), hrun, hended, rfl, ⟨_, rfl⟩, hW, hframe⟩
  jvm_step X.here [X.here.top, hx, hb, hdg, hmeth', hr, ret, narrow_b1]
  (try refine ⟨rfl, ?_⟩); (try refine ⟨rfl, ?_⟩)
  first | (intro acts; rw [hret _ acts rfl rfl rfl]) | rw [hret _ _ rfl rfl rfl]
  exact Steps.refl _
/-- what holds at the law's entry: the machine, the code, the tables' words (any of lw_tbl by 'hts w (by decide +kernel)'), the script of L ints xs at the cell b, what the Statement gives of the start (any of its parts by flat_of_before) -/
def lw_At (p : Program) (s : State) (m : MethodId) (meth : Method) (c : Code) (b L : Nat) (xs : Nat → Int32) : Prop :=
  p.tables.exec = Jvm.exec ∧ c.code = code ∧ meth.sig.returnType = ret ∧ c.maxLocals = 8 ∧ s.vm.findClass R_law = some m.cls ∧ (∀ w ∈ lw_tbl, w.before #[Value.ref b] s = true) ∧ va_X b L xs s s.heap ∧ b < s.heap.size ∧ meth.locks = false ∧ (Jvm.Cond.and given_1 narrow_1).before #[Value.ref b] s = true
set_option maxHeartbeats 4000000 in
set_option maxRecDepth 100000 in
theorem whole_start {p : Program} {e : Env} {s : State} {m : MethodId} {below : List Frame} {meth : Method} {c : Code} (l : Launch) (hlt : l.stackTraces = false) {b L : Nat} {xs : Nat → Int32} (hL : L ≤ 384) (C0 : lw_At p s m meth c b L xs) : W p l e room_1 s m #[Value.ref b] below meth c s.heap [] 0 0 (lw_Z below #[Value.ref b] s) (entryFrame m ([Value.ref b] : List Value).toArray 8) := by
  obtain ⟨hx, hb, hr, hml, hown, hts, hX, hbl, hlocks, hgv⟩ := id C0
  obtain ⟨ci, sl, cT, sa, hsa, hK⟩ := st_K hts hgv
  have hXK := st_XK hts hgv hlt ci sl cT sa
  have hD : ∀ w ∈ dk_tbl, w.before #[Value.ref b] s = true := fun w hw => hts w (dk_sub hw)
  have E : ∀ (L : List (Option Value)) (h : dk_H) (kc ks : Nat), kc ≤ 600128 → ks ≤ 7301098 → dk_W (p, e, room_1, s, m, #[Value.ref b], below, meth, c, lw_Z below #[Value.ref b] s, (l, ci, sl, cT, s.heap, sa, false)) 1106 L [] 63 h kc ks := by
    intro L h kc ks h1 h2
    have C2 : dk_C (p, e, room_1, s, m, #[Value.ref b], below, meth, c, lw_Z below #[Value.ref b] s, (l, ci, sl, cT, s.heap, sa, false)) cL_law RL 8 (some .boolean) room_1 (l, ci, sl, cT, s.heap, sa, false) := ⟨hx, hb, hml, hown, hD, hr, hlocks, rfl, rfl, hK l false⟩
    refine dk_iconst C2 (1) dL_law_1106 rfl ?_
    intro H locs ls hR hf hl
    exact va_forget hf (W.widen h1 h2 (lw_ret hx hb hr hlocks dL_law_1107))
  have K := lw_all (p := p) (e := e) (s := s) (m := m) (args := #[Value.ref b]) (below := below) (meth := meth) (c := c) (Q := lw_Z below #[Value.ref b] s) (l := l) (ci := ci) (sl := sl) (cT := cT) (H0 := s.heap) (sa := sa) (N := L) (xs := xs) ⟨hx, hb, hml, hown, hD, hr, hlocks, rfl, rfl, hK l true⟩ hXK ⟨by rw [hsa]; exact hX, by rw [hsa]; exact hbl⟩ hL E
  rw [lg_entry_eq]
  refine K s.heap [] _ ⟨fun _ => rfl, Nat.le_refl _, fun i hi => absurd hi (Nat.not_lt_zero i), fun _ _ => rfl⟩ (fun q hq => by cases hq) ?_
  have hl := lv_entry ([.ref b]) (n := 8) (Nat.le_of_ble_eq_true rfl)
  have hp : dk_pr (l, ci, sl, cT, s.heap, sa, true) 0 [some (.retAddr 3), none, none, none, none, none, none, none] = lv_args 0 [.ref b] := by
    show [(0, Value.ref (sa 3))] = lv_args 0 [.ref b]
    rw [hsa]; rfl
  rw [hml, hp]
  exact hl
set_option maxHeartbeats 4000000 in
theorem lw_walk (l : Launch) (hlt : l.stackTraces = false) (b : Addr) (xs : List Int32) : MetFree l x (headSpec (Jvm.Cond.code x code maxLocals ret :: tables_1) room_1) (lw_P b xs) (fun _ _ _ _ _ => True) lw_Q := by
  refine MetFree.of_bodyS (code := code) (maxLocals := maxLocals) (ret := ret) (by decide) ?_ ?_
  · intro args s m h hn
    obtain ⟨meth, c, h1, h2, h3, h4, h5, h6, -, -⟩ := Cond.code_spec hn (atoms_spec (ws := Jvm.Cond.code x code maxLocals ret :: tables_1) h _ List.mem_cons_self)
    exact ⟨meth, c, h1, h2, h3, h4, h5, h6⟩
  · intro p e s m args below meth c s₁ B hml0 hP _
    obtain ⟨rfl, hx, hbd, hgv⟩ := hP
    obtain ⟨scr, harrAt, hlist, hof, hsmall⟩ := hx
    obtain ⟨hcb, hkn, -, -⟩ := State.arrayAt?_spec harrAt
    have hown : s.vm.findClass R_law = some m.cls := findClass_of_methodNamed B.named
    have hts0 : ∀ c ∈ (Jvm.Cond.code x code maxLocals ret :: tables_1), c.before #[Value.ref b] s = true := atoms_spec (ws := Jvm.Cond.code x code maxLocals ret :: tables_1) B.pre
    have hts : ∀ w ∈ lw_tbl, w.before #[Value.ref b] s = true := k2_hts_sels lw_privs (fun w hw => hts0 w (List.mem_cons_of_mem _ hw)) lw_privs_ok
    have hml : c.maxLocals = 8 := B.maxLocals_eq (hts0 _ List.mem_cons_self)
    have X₀ : Stand p l e room_1 s m #[Value.ref b] below meth c s₁ [] 0 0 := Stand.of_body B
    have hh0 : s₁.heap = s.heap := by rw [B.state]; rfl
    have hsz : scr.slots.size = xs.length := by rw [← Array.length_toList, hlist, List.length_map]
    have hval : ∀ j : Nat, j < xs.length → scr.slots[j]? = some (.int (xs.getD j 0)) := fun j hj => by
      rw [← Array.getElem?_toList, hlist]
      simp [hj]
    have hbl : b < s.heap.size := (Array.getElem?_eq_some_iff.mp hcb).1
    have hX : va_X b xs.length (fun j => xs.getD j 0) s s.heap := ⟨scr, hcb, hof, hkn, hsz, hval⟩
    have K : W p l e room_1 s m #[Value.ref b] below meth c s₁.heap [] 0 0 (lw_Z below #[Value.ref b] s) (entryFrame m ([Value.ref b] : List Value).toArray 8) := by
      rw [hh0]
      exact whole_start l hlt hbd ⟨B.exec, B.bytes, B.returns, hml, hown, hts, hX, hbl, B.notSynchronized, hgv⟩
    obtain ⟨t, a1, o, b1, b2, b3⟩ := K s₁ rfl X₀
    exact ⟨t, o, a1, b1, b2, b3⟩
theorem lw_pre_spec {args : Array Value} {s : State} (h : (Jvm.Cond.and given_1 narrow_1).before args s = true) (hr : rest_1_c.before args s = true) : ∃ (b : Addr) (xs : List Int32), lw_P b xs args s := by
  have hs := flat_of_before _ h
  have hq := flat_of_before _ hr
  have hc : (Cond.count 1).before args s = true := hs _ (by decide +kernel)
  have harr : (Cond.arrayOf (.arg 0) .int).before args s = true := hs _ (by decide +kernel)
  have hle : (Cond.le (.length (.arg 0)) (.int 384)).before args s = true := hs _ (by decide +kernel)
  have hlen : (Cond.isInt (.length (.arg 0))).before args s = true := hq _ (by decide +kernel)
  have hall : (Cond.all (.arg 0) (.isInt (.elem (.arg 0) (.index 0)))).before args s = true := hq _ (by decide +kernel)
  obtain ⟨b, xs, hb, hx⟩ := State.ints_of_pre rfl harr hlen hall
  have hsm : xs.length < 2 ^ 31 := hx.choose_spec.2.2.2
  have hev : (Term.length (.arg 0)).eval args s none [] s = some (.int xs.length.toInt32) := hx.length_eval hb
  have hv := Cond.le_ints hev (show (Term.int 384).eval args s none [] s = some (.int 384) from rfl)
  have hd : xs.length.toInt32 ≤ 384 := by
    simpa [Cond.before, Cond.holds, hv] using hle
  have hN : xs.length ≤ 384 := (Int32.ofNat_le_ofNat hsm (by decide)).mp (show Int32.ofNat xs.length ≤ Int32.ofNat 384 from hd)
  exact ⟨b, xs, Cond.one_arg hc (show args[0]? = some (.ref b) from hb), hx, hN, h⟩
theorem lw_comes (l : Launch) (hlt : l.stackTraces = false) : Comes l x (Jvm.Cond.code x code maxLocals ret :: tables_1) room_1 (fun tb e args s => Calls_1 tb e args s ∧ rest_1 tb e args s ∧ Pre_1 tb e args s)
    (fun _ _ args s o t => lw_Q args s o t) := by
  intro p e ha hc hk s m args below hf hfit hheap happ hpre
  obtain ⟨b, xs, hP⟩ := lw_pre_spec hpre.2.2 hpre.2.1
  obtain ⟨k, o, h1, h2, h3, hQ⟩ := lw_walk l hlt b xs p e ha hc hk s m args below hf ((Spec.applies_iff_loose hf).mp happ).1 hP trivial
  exact ⟨k, o, h1, h2, h3, hQ⟩
theorem lw_frame {s t : State} {o : Outcome} {args : Array Value} (h : Framed s o t [] 600128 7301098) :
    Framed s o t (fieldLocs frame_1_writes args s ++ arrayLocs frame_1_arrays args s ++ staticLocs frame_1_statics s) 600128 7301098 := h
theorem lw_limb (L : Cond) (hL : ∀ (args : Array Value) (s t : State), L.after args s (.returned (some (.int 1))) t = true) :
    ArmFor flags0 classFile x code maxLocals ret World_1 tables_1 room_1 Calls_1 rest_1 Pre_1
      (fun tb e a s o t => postC L tb e a s o t ∧ Framed s o t (fieldLocs frame_1_writes a s ++ arrayLocs frame_1_arrays a s ++ staticLocs frame_1_statics s) 600128 7301098) := by
  intro l hfl _ _ p e ha hc hk s m args below hf hfit hheap happ hpre
  have hlt : l.stackTraces = false := by
    unfold Launch.stackTraces
    rw [hfl]
    decide
  obtain ⟨k, o, h1, h2, h3, rfl, hF⟩ := lw_comes l hlt p e ha hc hk s m args below hf hfit hheap happ hpre
  exact ⟨k, _, h1, h2, h3, hL args s _, lw_frame hF⟩
theorem i_vc : Claimed_1_1 ∧ Claimed_1_2 := ⟨lw_limb limb_1_1 (fun args s t => by simp [limb_1_1, Cond.after, Cond.holds, Cond.value]), lw_limb limb_1_2 (fun args s t => Cond.after_iff.mpr (by
  first | (rw [show limb_1_2 = Cond.eq .result (.int 1) from rfl, Cond.eq_ints (x := 1) (y := 1) rfl rfl]; simp; done) | (simp [limb_1_2, Cond.value, Term.eval]; done)))⟩
