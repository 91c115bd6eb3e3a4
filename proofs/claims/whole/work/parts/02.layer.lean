/-! ===== THE DESK LAYER: the machine over an abstract heap of numbered cells ===== -/
def dk_tbl : List Cond := lw_tbl.filter (fun w => goodWord w)
theorem dk_goodIn {ws : List Cond} (h : ∀ w ∈ ws, w ∈ dk_tbl) : GoodIn dk_tbl ws := fun w hw => ⟨h w hw, good_of_word (List.mem_filter.mp (h w hw)).2⟩
theorem dk_sub {w : Cond} (h : w ∈ dk_tbl) : w ∈ lw_tbl := (List.mem_filter.mp h).1
/-- the abstract heap: ints, floats, references, longs, doubles of a cell, by slot -/
abbrev dk_H : Type := (Nat → Nat → Int32) × (Nat → Nat → UInt32) × (Nat → Nat → Option Nat) × (Nat → Nat → Int64) × (Nat → Nat → UInt64)
/-- launch, class ids, slots of fields, ids of array classes, the heap before the first cell, old addresses, whether nothing else was made -/
abbrev dk_G : Type := Launch × (Nat → ClassId) × (Nat → Nat → Nat) × (Nat → ClassId) × Heap × (Nat → Nat) × Bool
abbrev dk_H0 (G : dk_G) : Heap := G.2.2.2.2.1
abbrev dk_b (G : dk_G) : Nat := G.2.2.2.2.1.size
abbrev dk_sa (G : dk_G) : Nat → Nat := G.2.2.2.2.2.1
abbrev dk_cT (G : dk_G) : Nat → ClassId := G.2.2.2.1
def dk_rv (G : dk_G) (v : Value) : Value := match v with
  | .ref i => .ref (dk_b G + i)
  | .retAddr j => .ref (dk_sa G j)
  | .int x => .int x
  | .long x => .long x
  | .float x => .float x
  | .double x => .double x
  | .null => .null
theorem dk_rv_cat (G : dk_G) (v : Value) : (dk_rv G v).category = v.category := by cases v <;> rfl
def dk_av (h : dk_H) (kd i k : Nat) : Value := match kd with
  | 0 => .int (h.1 i k)
  | 1 => .float (h.2.1 i k)
  | 2 => va_rf (h.2.2.1 i k)
  | 3 => .long (h.2.2.2.1 i k)
  | _ => .double (h.2.2.2.2 i k)
def dk_up {α : Type} (f : Nat → Nat → α) (i k : Nat) (v : α) : Nat → Nat → α := fun a b => if a = i ∧ b = k then v else f a b
theorem dk_up_same {α : Type} (f : Nat → Nat → α) (i k : Nat) (v : α) : dk_up f i k v i k = v := by simp [dk_up]
theorem dk_up_ne {α : Type} (f : Nat → Nat → α) {i k a b : Nat} (v : α) (h : a ≠ i ∨ b ≠ k) : dk_up f i k v a b = f a b := by
  unfold dk_up
  rw [if_neg (fun q => h.elim (fun z => z q.1) (fun z => z q.2))]
def dk_sI (h : dk_H) (i k : Nat) (x : Int32) : dk_H := (dk_up h.1 i k x, h.2)
def dk_sF (h : dk_H) (i k : Nat) (x : UInt32) : dk_H := (h.1, dk_up h.2.1 i k x, h.2.2)
def dk_sR (h : dk_H) (i k : Nat) (x : Option Nat) : dk_H := (h.1, h.2.1, dk_up h.2.2.1 i k x, h.2.2.2)
def dk_sL (h : dk_H) (i k : Nat) (x : Int64) : dk_H := (h.1, h.2.1, h.2.2.1, dk_up h.2.2.2.1 i k x, h.2.2.2.2)
def dk_sD (h : dk_H) (i k : Nat) (x : UInt64) : dk_H := (h.1, h.2.1, h.2.2.1, h.2.2.2.1, dk_up h.2.2.2.2 i k x)
/-- h' is h but for the slot k of the cell a, where it holds v (read as kind kd) -/
def dk_Up (h h' : dk_H) (kd a k : Nat) (v : Value) : Prop := dk_av h' kd a k = v ∧ ∀ (kd' i j : Nat), (i ≠ a ∨ j ≠ k) → dk_av h' kd' i j = dk_av h kd' i j
theorem dk_upI (h : dk_H) (a k : Nat) (x : Int32) : dk_Up h (dk_sI h a k x) 0 a k (.int x) := by
  refine ⟨by simp [dk_av, dk_sI, dk_up], fun kd' i j hn => ?_⟩
  match kd' with
  | 0 => simp only [dk_av, dk_sI]; rw [dk_up_ne _ _ hn]
  | 1 => rfl
  | 2 => rfl
  | 3 => rfl
  | _ + 4 => rfl
theorem dk_upF (h : dk_H) (a k : Nat) (x : UInt32) : dk_Up h (dk_sF h a k x) 1 a k (.float x) := by
  refine ⟨by simp [dk_av, dk_sF, dk_up], fun kd' i j hn => ?_⟩
  match kd' with
  | 0 => rfl
  | 1 => simp only [dk_av, dk_sF]; rw [dk_up_ne _ _ hn]
  | 2 => rfl
  | 3 => rfl
  | _ + 4 => rfl
theorem dk_upR (h : dk_H) (a k : Nat) (x : Option Nat) : dk_Up h (dk_sR h a k x) 2 a k (va_rf x) := by
  refine ⟨by simp [dk_av, dk_sR, dk_up], fun kd' i j hn => ?_⟩
  match kd' with
  | 0 => rfl
  | 1 => rfl
  | 2 => simp only [dk_av, dk_sR]; rw [dk_up_ne _ _ hn]
  | 3 => rfl
  | _ + 4 => rfl
theorem dk_upL (h : dk_H) (a k : Nat) (x : Int64) : dk_Up h (dk_sL h a k x) 3 a k (.long x) := by
  refine ⟨by simp [dk_av, dk_sL, dk_up], fun kd' i j hn => ?_⟩
  match kd' with
  | 0 => rfl
  | 1 => rfl
  | 2 => rfl
  | 3 => simp only [dk_av, dk_sL]; rw [dk_up_ne _ _ hn]
  | _ + 4 => rfl
theorem dk_upD (h : dk_H) (a k : Nat) (x : UInt64) : dk_Up h (dk_sD h a k x) 4 a k (.double x) := by
  refine ⟨by simp [dk_av, dk_sD, dk_up], fun kd' i j hn => ?_⟩
  match kd' with
  | 0 => rfl
  | 1 => rfl
  | 2 => rfl
  | 3 => rfl
  | _ + 4 => simp only [dk_av, dk_sD]; rw [dk_up_ne _ _ hn]
/-- the kinds of a class's fields: 0 int or boolean, 1 float, 2 reference -/
def dk_ks (ci : Nat) : List Nat := match ci with
  | 0 => [0, 0, 0, 0]
  | 1 => [0, 0, 0, 0]
  | 2 => [0, 0]
  | 3 => [2, 2, 2, 2, 2, 2, 2, 1]
  | 4 => [2, 2, 2, 2, 0, 0, 0, 0, 0, 0, 0]
  | 5 => [2, 2, 2, 0, 0, 0]
  | 6 => [2, 2, 2, 2, 2, 2, 0, 0, 0]
  | 7 => [2, 2, 2, 2, 0]
  | _ => [0, 2, 2, 2, 2, 2, 0, 0, 2, 0, 2, 0, 2, 0, 2, 0, 0, 0, 2, 2, 2, 2, 0, 0, 0, 2, 0, 0, 0, 2]
/-- what the cells are: an object of a class, or an array (its kind, its length) -/
def dk_shapes : List (Nat ⊕ (Nat × Nat)) :=
  [.inl 7, .inr (5, 3),
   .inl 5, .inr (0, 24), .inr (0, 96), .inr (1, 8),
   .inl 5, .inr (0, 24), .inr (0, 96), .inr (1, 8),
   .inl 5, .inr (0, 24), .inr (0, 96), .inr (1, 8),
   .inl 4, .inr (5, 3), .inr (6, 4), .inl 0, .inl 0, .inl 0, .inl 0, .inr (7, 3), .inl 1, .inl 1, .inl 1, .inr (8, 4), .inl 2, .inl 2, .inl 2, .inl 2,
   .inl 3, .inr (2, 4), .inr (2, 3), .inr (2, 3), .inr (0, 3), .inr (0, 3), .inr (0, 3), .inr (0, 3),
   .inl 6, .inr (0, 72), .inr (0, 3), .inr (0, 3), .inr (0, 3), .inr (0, 256), .inr (0, 64),
   .inl 8, .inr (0, 3), .inr (0, 3), .inr (1, 180), .inr (0, 720), .inr (1, 24), .inr (0, 3), .inr (0, 16), .inr (0, 12), .inr (0, 8), .inr (0, 3), .inr (0, 3), .inr (0, 3), .inr (0, 3), .inr (0, 3), .inr (0, 256),
   .inr (3, 1), .inr (4, 1)]
def dk_SH (i : Nat) : Nat ⊕ (Nat × Nat) := dk_shapes.getD i (.inr (0, 0))
def dk_ek (t : Nat) : Nat := match t with
  | 0 => 0
  | 1 => 0
  | 2 => 1
  | 3 => 3
  | 4 => 4
  | _ => 2
def dk_ty (t : Nat) : FieldType := match t with
  | 0 => .int
  | 1 => .boolean
  | 2 => .float
  | 3 => .long
  | 4 => .double
  | 5 => .object RX5
  | 6 => .object RX0
  | 7 => .object RX1
  | _ => .object RX2
def dk_tys (cT : Nat → ClassId) : List (ClassId × FieldType) := (List.range 9).map fun t => (cT t, dk_ty t)
theorem dk_tys_at (cT : Nat → ClassId) {t : Nat} (h : t < 9) : (dk_tys cT)[t]? = some (cT t, dk_ty t) := by
  simp [dk_tys, h]
def dk_at (G : dk_G) (h : dk_H) (H : Heap) (i : Nat) : Prop := match dk_SH i with
  | .inl ci => t_OB (dk_b G + i) (G.2.1 ci) (dk_ks ci).length (G.2.2.1 ci) H (fun k => dk_rv G (dk_av h ((dk_ks ci).getD k 0) i k))
  | .inr x => H[dk_b G + i]? = some (arrV (dk_cT G x.1) x.2 (fun j => dk_rv G (dk_av h (dk_ek x.1) i j)))
def dk_R (G : dk_G) (n : Nat) (h : dk_H) (H : Heap) : Prop := (G.2.2.2.2.2.2 = true → H.size = dk_b G + n) ∧ dk_b G + n ≤ H.size ∧ (∀ i, i < n → dk_at G h H i) ∧ ∀ q : Nat, q < dk_b G → H[q]? = (dk_H0 G)[q]?
theorem dk_at.kept {G : dk_G} {h h' : dk_H} {H H' : Heap} {i : Nat} (hat : dk_at G h H i) (hv : ∀ kd j : Nat, dk_av h' kd i j = dk_av h kd i j) (hq : H'[dk_b G + i]? = H[dk_b G + i]?) : dk_at G h' H' i := by
  unfold dk_at at hat ⊢
  split at hat
  · exact (hat.kept hq).to (fun k _ => by rw [hv])
  · show H'[dk_b G + i]? = _
    rw [hq, hat]
    simp only [hv]
theorem dk_R.set {G : dk_G} {n : Nat} {h h' : dk_H} {H H' : Heap} {kd a k : Nat} {v : Value} (hR : dk_R G n h H) (hup : dk_Up h h' kd a k v) (hz : H'.size = H.size) (ho : ∀ q : Nat, q ≠ dk_b G + a → H'[q]? = H[q]?) (hat : a < n → dk_at G h' H' a) : dk_R G n h' H' := by
  obtain ⟨h1, h2, h3, h4⟩ := hR
  refine ⟨fun z => by rw [hz]; exact h1 z, by rw [hz]; exact h2, fun i hi => ?_, fun q hq => by rw [ho q (by omega)]; exact h4 q hq⟩
  by_cases e : i = a
  · subst e; exact hat hi
  · exact (h3 i hi).kept (fun kd' j => hup.2 kd' i j (Or.inl e)) (ho _ (by omega))
/-- static arrays of Plan: their lengths and contents -/
def dk_sl (j : Nat) : Nat := match j with
  | 0 => 1
  | 1 => 4
  | _ => 18
def dk_sv (j k : Nat) : Int32 := match j with
  | 0 => 0
  | 1 => ([0, 1, 1, 0] : List Int32).getD k 0
  | _ => ([0, 1, 2, 0, 2, 1, 1, 0, 2, 1, 2, 0, 2, 0, 1, 2, 1, 0] : List Int32).getD k 0
def dk_sn (j : Nat) : String := match j with
  | 0 => "ORDERS_OF_ONE"
  | 1 => "ORDERS_OF_TWO"
  | _ => "ORDERS_OF_THREE"
/-- words that are carried beside the tables: nest mates' constructors, arrays of references -/
def dk_K (G : dk_G) (U : State) : Prop := va_K (G.2.1, G.2.2.1) vwCl (dk_tys (dk_cT G)) U ∧
  (∀ j, j < 3 → va_Z RX3 (dk_sn j) "[I" (.ref (dk_sa G j)) (fun q => dk_b G ≤ q) U (dk_H0 G) ∧ va_T .int (dk_sa G j) (dk_sl j) (fun k => .int (dk_sv j k)) (fun q => dk_b G ≤ q) U (dk_H0 G)) ∧
  (va_Nw (.methodLinkNest RX4 23 yX0_init RX7) U ∧ va_Nw (.methodLinkNest RX4 30 yX1_init RX7) U ∧ va_Nw (.methodLinkNest RX4 37 yX2_init RX7) U) ∧
  (va_AO RX5 U ∧ va_AO RX0 U ∧ va_AO RX1 U ∧ va_AO RX2 U)
theorem dk_K.warm {G : dk_G} {s U : State} (hW : s.WarmedH U.vm) (h : dk_K G s) : dk_K G U :=
  ⟨va_K.moved hW.alike h.1, fun j hj => ⟨va_Z.moved hW.alike (h.2.1 j hj).1, va_T.moved hW.alike (h.2.1 j hj).2⟩, ⟨va_Nw.warmM hW h.2.2.1.1, va_Nw.warmM hW h.2.2.1.2.1, va_Nw.warmM hW h.2.2.1.2.2⟩,
   va_AO.moved hW.alike h.2.2.2.1, va_AO.moved hW.alike h.2.2.2.2.1, va_AO.moved hW.alike h.2.2.2.2.2.1, va_AO.moved hW.alike h.2.2.2.2.2.2⟩
theorem dk_K.same {G : dk_G} {s U : State} (hv : s.vm = U.vm) (h : dk_K G s) : dk_K G U := by
  have ha : s.vm.Alike U.vm := by rw [hv]; exact Vm.Alike.refl U.vm
  exact ⟨va_K.moved ha h.1, fun j hj => ⟨va_Z.moved ha (h.2.1 j hj).1, va_T.moved ha (h.2.1 j hj).2⟩, ⟨va_Nw.same rfl hv h.2.2.1.1, va_Nw.same rfl hv h.2.2.1.2.1, va_Nw.same rfl hv h.2.2.1.2.2⟩,
   va_AO.moved ha h.2.2.2.1, va_AO.moved ha h.2.2.2.2.1, va_AO.moved ha h.2.2.2.2.2.1, va_AO.moved ha h.2.2.2.2.2.2⟩
/-- the locals that are known -/
def dk_pr (G : dk_G) : Nat → List (Option Value) → List (Nat × Value)
  | _, [] => []
  | i, none :: L => dk_pr G (i + 1) L
  | i, some v :: L => (i, dk_rv G v) :: dk_pr G (i + 1) L
theorem dk_pr_mem {G : dk_G} : ∀ (L : List (Option Value)) (i : Nat) (q : Nat × Value), q ∈ dk_pr G i L ↔ ∃ (j : Nat) (v : Value), L[j]? = some (some v) ∧ q = (i + j, dk_rv G v)
  | [], i, q => by simp [dk_pr]
  | none :: L, i, q => by
    rw [dk_pr, dk_pr_mem L (i + 1) q]
    constructor
    · rintro ⟨j, v, h1, h2⟩
      exact ⟨j + 1, v, by simpa using h1, by rw [h2]; congr 1; omega⟩
    · rintro ⟨j, v, h1, h2⟩
      cases j with
      | zero => simp at h1
      | succ j => exact ⟨j, v, by simpa using h1, by rw [h2]; congr 1; omega⟩
  | some w :: L, i, q => by
    rw [dk_pr, List.mem_cons, dk_pr_mem L (i + 1) q]
    constructor
    · rintro (h | ⟨j, v, h1, h2⟩)
      · exact ⟨0, w, by simp, by simpa using h⟩
      · exact ⟨j + 1, v, by simpa using h1, by rw [h2]; congr 1; omega⟩
    · rintro ⟨j, v, h1, h2⟩
      cases j with
      | zero =>
        simp at h1
        left; rw [h2, h1]; rfl
      | succ j => exact Or.inr ⟨j, v, by simpa using h1, by rw [h2]; congr 1; omega⟩
theorem dk_pr_at {G : dk_G} {ls : Array Slot} {nL : Nat} {L : List (Option Value)} {i : Nat} {v : Value} (h : lv_has ls nL (dk_pr G 0 L)) (hL : L[i]? = some (some v)) : ls[i]? = some (.val (dk_rv G v)) :=
  h.2.2 (i, dk_rv G v) ((dk_pr_mem L 0 _).mpr ⟨i, v, hL, by simp⟩)
/-- a store at i spoils no wide value before it -/
def dk_ok (L : List (Option Value)) (i : Nat) : Bool := match i with
  | 0 => true
  | j + 1 => match L[j]? with
    | some (some (.long _)) => false
    | some (some (.double _)) => false
    | _ => true
theorem dk_ok_cat {L : List (Option Value)} {i j : Nat} {v : Value} (h : dk_ok L i = true) (hj : L[j]? = some (some v)) (e : j + 1 = i) : v.category ≠ 2 := by
  subst e
  unfold dk_ok at h
  simp only [hj] at h
  cases v <;> simp_all [Value.category]
theorem dk_store1 {G : dk_G} {ls : Array Slot} {nL i : Nat} {L : List (Option Value)} {v : Value} (hok : dk_ok L i = true)
    (h : lv_has ls nL ((i, dk_rv G v) :: (dk_pr G 0 L).filter (fun q => !(q.1 == i) && !(q.1 + 1 == i && q.2.category == 2)))) : lv_has ls nL (dk_pr G 0 (L.set i (some v))) := by
  refine ⟨h.1, h.2.1, fun q hq => ?_⟩
  obtain ⟨j, w, h1, rfl⟩ := (dk_pr_mem _ 0 q).mp hq
  rw [Nat.zero_add]
  by_cases e : j = i
  · subst e
    have hlt : j < L.length := by
      have := (List.getElem?_eq_some_iff.mp h1).1
      simpa using this
    rw [List.getElem?_set_self hlt] at h1
    cases h1
    exact h.2.2 (j, dk_rv G v) List.mem_cons_self
  · rw [List.getElem?_set_ne (Ne.symm e)] at h1
    refine h.2.2 (j, dk_rv G w) (List.mem_cons_of_mem _ (List.mem_filter.mpr ⟨(dk_pr_mem L 0 _).mpr ⟨j, w, h1, by simp⟩, ?_⟩))
    have hc : j + 1 = i → w.category ≠ 2 := fun z => dk_ok_cat hok h1 z
    simp only [Bool.and_eq_true, Bool.not_eq_true', beq_eq_false_iff_ne, Bool.and_eq_false_iff, dk_rv_cat]
    refine ⟨e, ?_⟩
    by_cases z : j + 1 = i
    · exact Or.inr (hc z)
    · exact Or.inl z
theorem dk_store2 {G : dk_G} {ls : Array Slot} {nL i : Nat} {L : List (Option Value)} {v : Value} (hok : dk_ok L i = true)
    (h : lv_has ls nL ((i, dk_rv G v) :: (dk_pr G 0 L).filter (fun q => !(q.1 == i) && (!(q.1 == i + 1) && !(q.1 + 1 == i && q.2.category == 2))))) : lv_has ls nL (dk_pr G 0 ((L.set (i + 1) none).set i (some v))) := by
  refine ⟨h.1, h.2.1, fun q hq => ?_⟩
  obtain ⟨j, w, h1, rfl⟩ := (dk_pr_mem _ 0 q).mp hq
  rw [Nat.zero_add]
  by_cases e : j = i
  · subst e
    have hlt : j < (L.set (j + 1) none).length := by
      have := (List.getElem?_eq_some_iff.mp h1).1
      simpa using this
    rw [List.getElem?_set_self hlt] at h1
    cases h1
    exact h.2.2 (j, dk_rv G v) List.mem_cons_self
  · rw [List.getElem?_set_ne (Ne.symm e)] at h1
    by_cases e2 : j = i + 1
    · subst e2
      have hlt : i + 1 < L.length := by
        have := (List.getElem?_eq_some_iff.mp h1).1
        simpa using this
      rw [List.getElem?_set_self hlt] at h1
      cases h1
    · rw [List.getElem?_set_ne (Ne.symm e2)] at h1
      refine h.2.2 (j, dk_rv G w) (List.mem_cons_of_mem _ (List.mem_filter.mpr ⟨(dk_pr_mem L 0 _).mpr ⟨j, w, h1, by simp⟩, ?_⟩))
      have hc : j + 1 = i → w.category ≠ 2 := fun z => dk_ok_cat hok h1 z
      simp only [Bool.and_eq_true, Bool.not_eq_true', beq_eq_false_iff_ne, Bool.and_eq_false_iff, dk_rv_cat]
      refine ⟨e, e2, ?_⟩
      by_cases z : j + 1 = i
      · exact Or.inr (hc z)
      · exact Or.inl z
/-- where a walk stands: machine, environment, room, start, method, arguments, stack below, code, end, globals -/
abbrev dk_X : Type := Program × Env × Room × State × MethodId × Array Value × List Frame × Method × Code × (State → Prop) × dk_G
def dk_C (X : dk_X) (cc : ByteArray) (own : String) (nL : Nat) (ret : Option FieldType) (rm : Room) (G : dk_G) : Prop := match X with
  | (p, _, R, s, m, args, _, meth, c, _, G') => p.tables.exec = Jvm.exec ∧ c.code = cc ∧ c.maxLocals = nL ∧ s.vm.findClass own = some m.cls ∧ (∀ w ∈ dk_tbl, w.before args s = true) ∧ meth.sig.returnType = ret ∧ meth.locks = false ∧ R = rm ∧ G' = G ∧ dk_K G s
def dk_W (X : dk_X) (pc : Nat) (L : List (Option Value)) (S : List Value) (n : Nat) (h : dk_H) (kc ks : Nat) : Prop := match X with
  | (p, e, R, s, m, args, below, meth, c, Q, G) => ∀ (H : Heap) (locs : List Loc) (ls : Array Slot), dk_R G n h H → (∀ q ∈ locs, dk_b G ≤ q.base) → lv_has ls c.maxLocals (dk_pr G 0 L) → W p G.1 e R s m args below meth c H locs kc ks Q (F0 m pc ls (S.map (dk_rv G)))
/-- a field: the place idx of own's pool names slot k of class ci -/
def dk_F (own : String) (idx ci k : Nat) : Prop := ∃ (Cn : String) (T : u_T), vwCl[ci]? = some (Cn, T, (dk_ks ci).length) ∧ (∀ w ∈ u_ws Cn T (dk_ks ci).length, w ∈ dk_tbl) ∧ k < (dk_ks ci).length ∧ Cond.fieldLink own idx (T k).1 (T k).2.1 (T k).2.2.1 ∈ dk_tbl
/-- names and types of a class -/
def dk_N (ci : Nat) : Prop := ∀ (Cn : String) (T : u_T) (N : Nat), vwCl[ci]? = some (Cn, T, N) → (∃ ty : Nat → FieldType, ∀ k, k < N → parseFieldDescriptor (T k).2.2.1 = some (ty k)) ∧ ∀ a, a < N → ∀ b, b < N → a ≠ b → (T a).2.1 ≠ (T b).2.1
def dk_Fw (ci k : Nat) (ty : FieldType) : Prop := dk_N ci ∧ ∀ (Cn : String) (T : u_T) (N : Nat), vwCl[ci]? = some (Cn, T, N) → (T k).2.2.2 = false ∧ parseFieldDescriptor (T k).2.2.1 = some ty
def dk_Fz (own : String) (ci k : Nat) (ty : FieldType) : Prop := dk_N ci ∧ ∀ (Cn : String) (T : u_T) (N : Nat), vwCl[ci]? = some (Cn, T, N) → (T k).2.2.2 = true ∧ (T k).1 = own ∧ parseFieldDescriptor (T k).2.2.1 = some ty
section DK
variable {X : dk_X} {cc : ByteArray} {own : String} {nL : Nat} {ret : Option FieldType} {rm : Room} {G : dk_G} {pc : Nat} {L : List (Option Value)} {S : List Value} {n : Nat} {h : dk_H} {kc ks : Nat}

theorem dk_iconst (C : dk_C X cc own nL ret rm G) {i : Int} (v : Int32) (d : decode cc pc = .ok (.iconst i, 1)) (hv : Int32.ofInt i = v) (k : dk_W X (pc + 1) L (.int v :: S) n h kc ks) : dk_W X pc L (S) n h kc ks := by
  obtain ⟨p, e, R, s, m, args, below, meth, c, Q, G'⟩ := X
  obtain ⟨hx, hb, -⟩ := C
  exact fun H locs ls hR hf hl => lv_iconst hx hb d hv (k H locs ls hR hf hl)
theorem dk_bipush (C : dk_C X cc own nL ret rm G) {i : Int} (v : Int32) (d : decode cc pc = .ok (.bipush i, 2)) (hv : (Int8.ofInt i).toInt32 = v) (k : dk_W X (pc + 2) L (.int v :: S) n h kc ks) : dk_W X pc L (S) n h kc ks := by
  obtain ⟨p, e, R, s, m, args, below, meth, c, Q, G'⟩ := X
  obtain ⟨hx, hb, -⟩ := C
  exact fun H locs ls hR hf hl => lv_bipush hx hb d hv (k H locs ls hR hf hl)
theorem dk_sipush (C : dk_C X cc own nL ret rm G) {i : Int} (v : Int32) (d : decode cc pc = .ok (.sipush i, 3)) (hv : (Int16.ofInt i).toInt32 = v) (k : dk_W X (pc + 3) L (.int v :: S) n h kc ks) : dk_W X pc L (S) n h kc ks := by
  obtain ⟨p, e, R, s, m, args, below, meth, c, Q, G'⟩ := X
  obtain ⟨hx, hb, -⟩ := C
  exact fun H locs ls hR hf hl => lv_sipush hx hb d hv (k H locs ls hR hf hl)
theorem dk_lconst (C : dk_C X cc own nL ret rm G) {i : Fin 2} (v : Int64) (d : decode cc pc = .ok (.lconst i, 1)) (hv : Int64.ofNat (i : Nat) = v) (k : dk_W X (pc + 1) L (.long v :: S) n h kc ks) : dk_W X pc L (S) n h kc ks := by
  obtain ⟨p, e, R, s, m, args, below, meth, c, Q, G'⟩ := X
  obtain ⟨hx, hb, -⟩ := C
  exact fun H locs ls hR hf hl => lv_lconst hx hb d hv (k H locs ls hR hf hl)
theorem dk_fconst0 (C : dk_C X cc own nL ret rm G)  (d : decode cc pc = .ok (.fconst 0, 1)) (k : dk_W X (pc + 1) L (.float FP.fconst0 :: S) n h kc ks) : dk_W X pc L (S) n h kc ks := by
  obtain ⟨p, e, R, s, m, args, below, meth, c, Q, G'⟩ := X
  obtain ⟨hx, hb, -⟩ := C
  exact fun H locs ls hR hf hl => lv_fconst0 hx hb d (k H locs ls hR hf hl)
theorem dk_fconst1 (C : dk_C X cc own nL ret rm G)  (d : decode cc pc = .ok (.fconst 1, 1)) (k : dk_W X (pc + 1) L (.float FP.fconst1 :: S) n h kc ks) : dk_W X pc L (S) n h kc ks := by
  obtain ⟨p, e, R, s, m, args, below, meth, c, Q, G'⟩ := X
  obtain ⟨hx, hb, -⟩ := C
  exact fun H locs ls hR hf hl => lv_fconst1 hx hb d (k H locs ls hR hf hl)
theorem dk_fconst2 (C : dk_C X cc own nL ret rm G)  (d : decode cc pc = .ok (.fconst 2, 1)) (k : dk_W X (pc + 1) L (.float FP.fconst2 :: S) n h kc ks) : dk_W X pc L (S) n h kc ks := by
  obtain ⟨p, e, R, s, m, args, below, meth, c, Q, G'⟩ := X
  obtain ⟨hx, hb, -⟩ := C
  exact fun H locs ls hR hf hl => lv_fconst2 hx hb d (k H locs ls hR hf hl)
theorem dk_iload_n (C : dk_C X cc own nL ret rm G) {j : Fin 4} {i : Nat} {x : Int32} (d : decode cc pc = .ok (.iload_n j, 1)) (hi : (j : Nat) = i) (hL : L[i]? = some (some (.int x))) (k : dk_W X (pc + 1) L (.int x :: S) n h kc ks) : dk_W X pc L (S) n h kc ks := by
  obtain ⟨p, e, R, s, m, args, below, meth, c, Q, G'⟩ := X
  obtain ⟨hx, hb, -⟩ := C
  exact fun H locs ls hR hf hl => lv_iload_n hx hb d hi (dk_pr_at hl hL) (k H locs ls hR hf hl)
theorem dk_iload (C : dk_C X cc own nL ret rm G) {i : Nat} {x : Int32} (d : decode cc pc = .ok (.iload i, 2)) (hL : L[i]? = some (some (.int x))) (k : dk_W X (pc + 2) L (.int x :: S) n h kc ks) : dk_W X pc L (S) n h kc ks := by
  obtain ⟨p, e, R, s, m, args, below, meth, c, Q, G'⟩ := X
  obtain ⟨hx, hb, -⟩ := C
  exact fun H locs ls hR hf hl => lv_iload hx hb d (dk_pr_at hl hL) (k H locs ls hR hf hl)
theorem dk_lload_n (C : dk_C X cc own nL ret rm G) {j : Fin 4} {i : Nat} {x : Int64} (d : decode cc pc = .ok (.lload_n j, 1)) (hi : (j : Nat) = i) (hL : L[i]? = some (some (.long x))) (k : dk_W X (pc + 1) L (.long x :: S) n h kc ks) : dk_W X pc L (S) n h kc ks := by
  obtain ⟨p, e, R, s, m, args, below, meth, c, Q, G'⟩ := X
  obtain ⟨hx, hb, -⟩ := C
  exact fun H locs ls hR hf hl => lv_lload_n hx hb d hi (dk_pr_at hl hL) (k H locs ls hR hf hl)
theorem dk_lload (C : dk_C X cc own nL ret rm G) {i : Nat} {x : Int64} (d : decode cc pc = .ok (.lload i, 2)) (hL : L[i]? = some (some (.long x))) (k : dk_W X (pc + 2) L (.long x :: S) n h kc ks) : dk_W X pc L (S) n h kc ks := by
  obtain ⟨p, e, R, s, m, args, below, meth, c, Q, G'⟩ := X
  obtain ⟨hx, hb, -⟩ := C
  exact fun H locs ls hR hf hl => lv_lload hx hb d (dk_pr_at hl hL) (k H locs ls hR hf hl)
theorem dk_fload_n (C : dk_C X cc own nL ret rm G) {j : Fin 4} {i : Nat} {x : UInt32} (d : decode cc pc = .ok (.fload_n j, 1)) (hi : (j : Nat) = i) (hL : L[i]? = some (some (.float x))) (k : dk_W X (pc + 1) L (.float x :: S) n h kc ks) : dk_W X pc L (S) n h kc ks := by
  obtain ⟨p, e, R, s, m, args, below, meth, c, Q, G'⟩ := X
  obtain ⟨hx, hb, -⟩ := C
  exact fun H locs ls hR hf hl => lv_fload_n hx hb d hi (dk_pr_at hl hL) (k H locs ls hR hf hl)
theorem dk_fload (C : dk_C X cc own nL ret rm G) {i : Nat} {x : UInt32} (d : decode cc pc = .ok (.fload i, 2)) (hL : L[i]? = some (some (.float x))) (k : dk_W X (pc + 2) L (.float x :: S) n h kc ks) : dk_W X pc L (S) n h kc ks := by
  obtain ⟨p, e, R, s, m, args, below, meth, c, Q, G'⟩ := X
  obtain ⟨hx, hb, -⟩ := C
  exact fun H locs ls hR hf hl => lv_fload hx hb d (dk_pr_at hl hL) (k H locs ls hR hf hl)
theorem dk_aload_n (C : dk_C X cc own nL ret rm G) {j : Fin 4} {i : Nat} {x : Nat} (d : decode cc pc = .ok (.aload_n j, 1)) (hi : (j : Nat) = i) (hL : L[i]? = some (some (.ref x))) (k : dk_W X (pc + 1) L (.ref x :: S) n h kc ks) : dk_W X pc L (S) n h kc ks := by
  obtain ⟨p, e, R, s, m, args, below, meth, c, Q, G'⟩ := X
  obtain ⟨hx, hb, -⟩ := C
  exact fun H locs ls hR hf hl => lv_aload_n hx hb d hi (dk_pr_at hl hL) (k H locs ls hR hf hl)
theorem dk_aload (C : dk_C X cc own nL ret rm G) {i : Nat} {x : Nat} (d : decode cc pc = .ok (.aload i, 2)) (hL : L[i]? = some (some (.ref x))) (k : dk_W X (pc + 2) L (.ref x :: S) n h kc ks) : dk_W X pc L (S) n h kc ks := by
  obtain ⟨p, e, R, s, m, args, below, meth, c, Q, G'⟩ := X
  obtain ⟨hx, hb, -⟩ := C
  exact fun H locs ls hR hf hl => lv_aload hx hb d (dk_pr_at hl hL) (k H locs ls hR hf hl)
theorem dk_rload_n (C : dk_C X cc own nL ret rm G) {j : Fin 4} {i : Nat} {x : Nat} (d : decode cc pc = .ok (.aload_n j, 1)) (hi : (j : Nat) = i) (hL : L[i]? = some (some (.retAddr x))) (k : dk_W X (pc + 1) L (.retAddr x :: S) n h kc ks) : dk_W X pc L (S) n h kc ks := by
  obtain ⟨p, e, R, s, m, args, below, meth, c, Q, G'⟩ := X
  obtain ⟨hx, hb, -⟩ := C
  exact fun H locs ls hR hf hl => lv_aload_n hx hb d hi (dk_pr_at hl hL) (k H locs ls hR hf hl)
theorem dk_rload (C : dk_C X cc own nL ret rm G) {i : Nat} {x : Nat} (d : decode cc pc = .ok (.aload i, 2)) (hL : L[i]? = some (some (.retAddr x))) (k : dk_W X (pc + 2) L (.retAddr x :: S) n h kc ks) : dk_W X pc L (S) n h kc ks := by
  obtain ⟨p, e, R, s, m, args, below, meth, c, Q, G'⟩ := X
  obtain ⟨hx, hb, -⟩ := C
  exact fun H locs ls hR hf hl => lv_aload hx hb d (dk_pr_at hl hL) (k H locs ls hR hf hl)
theorem dk_istore_n (C : dk_C X cc own nL ret rm G) {j : Fin 4} {i : Nat} {x : Int32} (d : decode cc pc = .ok (.istore_n j, 1)) (hi : (j : Nat) = i) (hn : i < nL) (hok : dk_ok L i = true) (k : dk_W X (pc + 1) (L.set i (some (.int x))) S n h kc ks) : dk_W X pc L (.int x :: S) n h kc ks := by
  obtain ⟨p, e, R, s, m, args, below, meth, c, Q, G'⟩ := X
  obtain ⟨hx, hb, hml, -⟩ := C
  exact fun H locs ls hR hf hl => lv_istore_n hx hb d hi hl (by rw [hml]; exact hn) rfl (fun ls' hl' => k H locs ls' hR hf (dk_store1 (v := .int x) hok hl'))
theorem dk_istore (C : dk_C X cc own nL ret rm G) {i : Nat} {x : Int32} (d : decode cc pc = .ok (.istore i, 2)) (hn : i < nL) (hok : dk_ok L i = true) (k : dk_W X (pc + 2) (L.set i (some (.int x))) S n h kc ks) : dk_W X pc L (.int x :: S) n h kc ks := by
  obtain ⟨p, e, R, s, m, args, below, meth, c, Q, G'⟩ := X
  obtain ⟨hx, hb, hml, -⟩ := C
  exact fun H locs ls hR hf hl => lv_istore hx hb d hl (by rw [hml]; exact hn) rfl (fun ls' hl' => k H locs ls' hR hf (dk_store1 (v := .int x) hok hl'))
theorem dk_lstore_n (C : dk_C X cc own nL ret rm G) {j : Fin 4} {i : Nat} {x : Int64} (d : decode cc pc = .ok (.lstore_n j, 1)) (hi : (j : Nat) = i) (hn : i + 1 < nL) (hok : dk_ok L i = true) (k : dk_W X (pc + 1) ((L.set (i + 1) none).set i (some (.long x))) S n h kc ks) : dk_W X pc L (.long x :: S) n h kc ks := by
  obtain ⟨p, e, R, s, m, args, below, meth, c, Q, G'⟩ := X
  obtain ⟨hx, hb, hml, -⟩ := C
  exact fun H locs ls hR hf hl => lv_lstore_n hx hb d hi hl (by rw [hml]; exact hn) rfl (fun ls' hl' => k H locs ls' hR hf (dk_store2 (v := .long x) hok hl'))
theorem dk_lstore (C : dk_C X cc own nL ret rm G) {i : Nat} {x : Int64} (d : decode cc pc = .ok (.lstore i, 2)) (hn : i + 1 < nL) (hok : dk_ok L i = true) (k : dk_W X (pc + 2) ((L.set (i + 1) none).set i (some (.long x))) S n h kc ks) : dk_W X pc L (.long x :: S) n h kc ks := by
  obtain ⟨p, e, R, s, m, args, below, meth, c, Q, G'⟩ := X
  obtain ⟨hx, hb, hml, -⟩ := C
  exact fun H locs ls hR hf hl => lv_lstore hx hb d hl (by rw [hml]; exact hn) rfl (fun ls' hl' => k H locs ls' hR hf (dk_store2 (v := .long x) hok hl'))
theorem dk_fstore_n (C : dk_C X cc own nL ret rm G) {j : Fin 4} {i : Nat} {x : UInt32} (d : decode cc pc = .ok (.fstore_n j, 1)) (hi : (j : Nat) = i) (hn : i < nL) (hok : dk_ok L i = true) (k : dk_W X (pc + 1) (L.set i (some (.float x))) S n h kc ks) : dk_W X pc L (.float x :: S) n h kc ks := by
  obtain ⟨p, e, R, s, m, args, below, meth, c, Q, G'⟩ := X
  obtain ⟨hx, hb, hml, -⟩ := C
  exact fun H locs ls hR hf hl => lv_fstore_n hx hb d hi hl (by rw [hml]; exact hn) rfl (fun ls' hl' => k H locs ls' hR hf (dk_store1 (v := .float x) hok hl'))
theorem dk_fstore (C : dk_C X cc own nL ret rm G) {i : Nat} {x : UInt32} (d : decode cc pc = .ok (.fstore i, 2)) (hn : i < nL) (hok : dk_ok L i = true) (k : dk_W X (pc + 2) (L.set i (some (.float x))) S n h kc ks) : dk_W X pc L (.float x :: S) n h kc ks := by
  obtain ⟨p, e, R, s, m, args, below, meth, c, Q, G'⟩ := X
  obtain ⟨hx, hb, hml, -⟩ := C
  exact fun H locs ls hR hf hl => lv_fstore hx hb d hl (by rw [hml]; exact hn) rfl (fun ls' hl' => k H locs ls' hR hf (dk_store1 (v := .float x) hok hl'))
theorem dk_astore_n (C : dk_C X cc own nL ret rm G) {j : Fin 4} {i : Nat} {x : Nat} (d : decode cc pc = .ok (.astore_n j, 1)) (hi : (j : Nat) = i) (hn : i < nL) (hok : dk_ok L i = true) (k : dk_W X (pc + 1) (L.set i (some (.ref x))) S n h kc ks) : dk_W X pc L (.ref x :: S) n h kc ks := by
  obtain ⟨p, e, R, s, m, args, below, meth, c, Q, G'⟩ := X
  obtain ⟨hx, hb, hml, -⟩ := C
  exact fun H locs ls hR hf hl => lv_astore_n hx hb d hi hl (by rw [hml]; exact hn) rfl (fun ls' hl' => k H locs ls' hR hf (dk_store1 (v := .ref x) hok hl'))
theorem dk_astore (C : dk_C X cc own nL ret rm G) {i : Nat} {x : Nat} (d : decode cc pc = .ok (.astore i, 2)) (hn : i < nL) (hok : dk_ok L i = true) (k : dk_W X (pc + 2) (L.set i (some (.ref x))) S n h kc ks) : dk_W X pc L (.ref x :: S) n h kc ks := by
  obtain ⟨p, e, R, s, m, args, below, meth, c, Q, G'⟩ := X
  obtain ⟨hx, hb, hml, -⟩ := C
  exact fun H locs ls hR hf hl => lv_astore hx hb d hl (by rw [hml]; exact hn) rfl (fun ls' hl' => k H locs ls' hR hf (dk_store1 (v := .ref x) hok hl'))
theorem dk_rstore_n (C : dk_C X cc own nL ret rm G) {j : Fin 4} {i : Nat} {x : Nat} (d : decode cc pc = .ok (.astore_n j, 1)) (hi : (j : Nat) = i) (hn : i < nL) (hok : dk_ok L i = true) (k : dk_W X (pc + 1) (L.set i (some (.retAddr x))) S n h kc ks) : dk_W X pc L (.retAddr x :: S) n h kc ks := by
  obtain ⟨p, e, R, s, m, args, below, meth, c, Q, G'⟩ := X
  obtain ⟨hx, hb, hml, -⟩ := C
  exact fun H locs ls hR hf hl => lv_astore_n hx hb d hi hl (by rw [hml]; exact hn) rfl (fun ls' hl' => k H locs ls' hR hf (dk_store1 (v := .retAddr x) hok hl'))
theorem dk_rstore (C : dk_C X cc own nL ret rm G) {i : Nat} {x : Nat} (d : decode cc pc = .ok (.astore i, 2)) (hn : i < nL) (hok : dk_ok L i = true) (k : dk_W X (pc + 2) (L.set i (some (.retAddr x))) S n h kc ks) : dk_W X pc L (.retAddr x :: S) n h kc ks := by
  obtain ⟨p, e, R, s, m, args, below, meth, c, Q, G'⟩ := X
  obtain ⟨hx, hb, hml, -⟩ := C
  exact fun H locs ls hR hf hl => lv_astore hx hb d hl (by rw [hml]; exact hn) rfl (fun ls' hl' => k H locs ls' hR hf (dk_store1 (v := .retAddr x) hok hl'))
theorem dk_iinc (C : dk_C X cc own nL ret rm G) {i : Nat} {j : Int} {x : Int32} (v : Int32) (d : decode cc pc = .ok (.iinc i j, 3)) (hL : L[i]? = some (some (.int x))) (hv : x + Int32.ofInt j = v) (hn : i < nL) (hok : dk_ok L i = true) (k : dk_W X (pc + 3) (L.set i (some (.int v))) S n h kc ks) : dk_W X pc L S n h kc ks := by
  obtain ⟨p, e, R, s, m, args, below, meth, c, Q, G'⟩ := X
  obtain ⟨hx, hb, hml, -⟩ := C
  intro H locs ls hR hf hl
  obtain ⟨q, hq⟩ := List.getElem?_of_mem ((dk_pr_mem (G := G') L 0 (i, dk_rv G' (.int x))).mpr ⟨i, .int x, hL, by simp⟩)
  exact lv_iinc (v := v) hx hb d hl hq hv (by rw [hml]; exact hn) rfl (fun ls' hl' => k H locs ls' hR hf (dk_store1 (v := .int v) hok hl'))
theorem dk_iadd (C : dk_C X cc own nL ret rm G) {x y : Int32} (d : decode cc pc = .ok (.iadd, 1)) (k : dk_W X (pc + 1) L (.int (x + y) :: S) n h kc ks) : dk_W X pc L (.int y :: .int x :: S) n h kc ks := by
  obtain ⟨p, e, R, s, m, args, below, meth, c, Q, G'⟩ := X
  obtain ⟨hx, hb, -⟩ := C
  exact fun H locs ls hR hf hl => lv_iadd hx hb d (k H locs ls hR hf hl)
theorem dk_isub (C : dk_C X cc own nL ret rm G) {x y : Int32} (d : decode cc pc = .ok (.isub, 1)) (k : dk_W X (pc + 1) L (.int (x - y) :: S) n h kc ks) : dk_W X pc L (.int y :: .int x :: S) n h kc ks := by
  obtain ⟨p, e, R, s, m, args, below, meth, c, Q, G'⟩ := X
  obtain ⟨hx, hb, -⟩ := C
  exact fun H locs ls hR hf hl => lv_isub hx hb d (k H locs ls hR hf hl)
theorem dk_imul (C : dk_C X cc own nL ret rm G) {x y : Int32} (d : decode cc pc = .ok (.imul, 1)) (k : dk_W X (pc + 1) L (.int (x * y) :: S) n h kc ks) : dk_W X pc L (.int y :: .int x :: S) n h kc ks := by
  obtain ⟨p, e, R, s, m, args, below, meth, c, Q, G'⟩ := X
  obtain ⟨hx, hb, -⟩ := C
  exact fun H locs ls hR hf hl => lv_imul hx hb d (k H locs ls hR hf hl)
theorem dk_iand (C : dk_C X cc own nL ret rm G) {x y : Int32} (d : decode cc pc = .ok (.iand, 1)) (k : dk_W X (pc + 1) L (.int (x &&& y) :: S) n h kc ks) : dk_W X pc L (.int y :: .int x :: S) n h kc ks := by
  obtain ⟨p, e, R, s, m, args, below, meth, c, Q, G'⟩ := X
  obtain ⟨hx, hb, -⟩ := C
  exact fun H locs ls hR hf hl => lv_iand hx hb d (k H locs ls hR hf hl)
theorem dk_ior (C : dk_C X cc own nL ret rm G) {x y : Int32} (d : decode cc pc = .ok (.ior, 1)) (k : dk_W X (pc + 1) L (.int (x ||| y) :: S) n h kc ks) : dk_W X pc L (.int y :: .int x :: S) n h kc ks := by
  obtain ⟨p, e, R, s, m, args, below, meth, c, Q, G'⟩ := X
  obtain ⟨hx, hb, -⟩ := C
  exact fun H locs ls hR hf hl => lv_ior hx hb d (k H locs ls hR hf hl)
theorem dk_ishl (C : dk_C X cc own nL ret rm G) {x y : Int32} (d : decode cc pc = .ok (.ishl, 1)) (k : dk_W X (pc + 1) L (.int (x <<< (y &&& 31)) :: S) n h kc ks) : dk_W X pc L (.int y :: .int x :: S) n h kc ks := by
  obtain ⟨p, e, R, s, m, args, below, meth, c, Q, G'⟩ := X
  obtain ⟨hx, hb, -⟩ := C
  exact fun H locs ls hR hf hl => lv_ishl hx hb d (k H locs ls hR hf hl)
theorem dk_ishr (C : dk_C X cc own nL ret rm G) {x y : Int32} (d : decode cc pc = .ok (.ishr, 1)) (k : dk_W X (pc + 1) L (.int (x >>> (y &&& 31)) :: S) n h kc ks) : dk_W X pc L (.int y :: .int x :: S) n h kc ks := by
  obtain ⟨p, e, R, s, m, args, below, meth, c, Q, G'⟩ := X
  obtain ⟨hx, hb, -⟩ := C
  exact fun H locs ls hR hf hl => lv_ishr hx hb d (k H locs ls hR hf hl)
theorem dk_idiv (C : dk_C X cc own nL ret rm G) {x y : Int32} (d : decode cc pc = .ok (.idiv, 1)) (hne : ¬ y = 0) (k : dk_W X (pc + 1) L (.int (x / y) :: S) n h kc ks) : dk_W X pc L (.int y :: .int x :: S) n h kc ks := by
  obtain ⟨p, e, R, s, m, args, below, meth, c, Q, G'⟩ := X
  obtain ⟨hx, hb, -⟩ := C
  exact fun H locs ls hR hf hl => lv_idiv hx hb d hne (k H locs ls hR hf hl)
theorem dk_irem (C : dk_C X cc own nL ret rm G) {x y : Int32} (d : decode cc pc = .ok (.irem, 1)) (hne : ¬ y = 0) (k : dk_W X (pc + 1) L (.int (x - x / y * y) :: S) n h kc ks) : dk_W X pc L (.int y :: .int x :: S) n h kc ks := by
  obtain ⟨p, e, R, s, m, args, below, meth, c, Q, G'⟩ := X
  obtain ⟨hx, hb, -⟩ := C
  exact fun H locs ls hR hf hl => lv_irem hx hb d hne (k H locs ls hR hf hl)
theorem dk_ladd (C : dk_C X cc own nL ret rm G) {x y : Int64} (d : decode cc pc = .ok (.ladd, 1)) (k : dk_W X (pc + 1) L (.long (x + y) :: S) n h kc ks) : dk_W X pc L (.long y :: .long x :: S) n h kc ks := by
  obtain ⟨p, e, R, s, m, args, below, meth, c, Q, G'⟩ := X
  obtain ⟨hx, hb, -⟩ := C
  exact fun H locs ls hR hf hl => lv_ladd hx hb d (k H locs ls hR hf hl)
theorem dk_lsub (C : dk_C X cc own nL ret rm G) {x y : Int64} (d : decode cc pc = .ok (.lsub, 1)) (k : dk_W X (pc + 1) L (.long (x - y) :: S) n h kc ks) : dk_W X pc L (.long y :: .long x :: S) n h kc ks := by
  obtain ⟨p, e, R, s, m, args, below, meth, c, Q, G'⟩ := X
  obtain ⟨hx, hb, -⟩ := C
  exact fun H locs ls hR hf hl => lv_lsub hx hb d (k H locs ls hR hf hl)
theorem dk_fadd (C : dk_C X cc own nL ret rm G) {x y : UInt32} (d : decode cc pc = .ok (.fadd, 1)) (hne : vf_n32 (FP.fadd x y)) (k : dk_W X (pc + 1) L (.float (FP.fadd x y) :: S) n h kc ks) : dk_W X pc L (.float y :: .float x :: S) n h kc ks := by
  obtain ⟨p, e, R, s, m, args, below, meth, c, Q, G'⟩ := X
  obtain ⟨hx, hb, -⟩ := C
  exact fun H locs ls hR hf hl => lv_fadd hx hb d hne (k H locs ls hR hf hl)
theorem dk_fsub (C : dk_C X cc own nL ret rm G) {x y : UInt32} (d : decode cc pc = .ok (.fsub, 1)) (hne : vf_n32 (FP.fsub x y)) (k : dk_W X (pc + 1) L (.float (FP.fsub x y) :: S) n h kc ks) : dk_W X pc L (.float y :: .float x :: S) n h kc ks := by
  obtain ⟨p, e, R, s, m, args, below, meth, c, Q, G'⟩ := X
  obtain ⟨hx, hb, -⟩ := C
  exact fun H locs ls hR hf hl => lv_fsub hx hb d hne (k H locs ls hR hf hl)
theorem dk_fmul (C : dk_C X cc own nL ret rm G) {x y : UInt32} (d : decode cc pc = .ok (.fmul, 1)) (hne : vf_n32 (FP.fmul x y)) (k : dk_W X (pc + 1) L (.float (FP.fmul x y) :: S) n h kc ks) : dk_W X pc L (.float y :: .float x :: S) n h kc ks := by
  obtain ⟨p, e, R, s, m, args, below, meth, c, Q, G'⟩ := X
  obtain ⟨hx, hb, -⟩ := C
  exact fun H locs ls hR hf hl => lv_fmul hx hb d hne (k H locs ls hR hf hl)
theorem dk_fdiv (C : dk_C X cc own nL ret rm G) {x y : UInt32} (d : decode cc pc = .ok (.fdiv, 1)) (hne : vf_n32 (FP.fdiv x y)) (k : dk_W X (pc + 1) L (.float (FP.fdiv x y) :: S) n h kc ks) : dk_W X pc L (.float y :: .float x :: S) n h kc ks := by
  obtain ⟨p, e, R, s, m, args, below, meth, c, Q, G'⟩ := X
  obtain ⟨hx, hb, -⟩ := C
  exact fun H locs ls hR hf hl => lv_fdiv hx hb d hne (k H locs ls hR hf hl)
theorem dk_i2l (C : dk_C X cc own nL ret rm G) {x : Int32} (d : decode cc pc = .ok (.i2l, 1)) (k : dk_W X (pc + 1) L (.long x.toInt64 :: S) n h kc ks) : dk_W X pc L (.int x :: S) n h kc ks := by
  obtain ⟨p, e, R, s, m, args, below, meth, c, Q, G'⟩ := X
  obtain ⟨hx, hb, -⟩ := C
  exact fun H locs ls hR hf hl => lv_i2l hx hb d rfl (k H locs ls hR hf hl)
theorem dk_i2f (C : dk_C X cc own nL ret rm G) {x : Int32} (d : decode cc pc = .ok (.i2f, 1)) (k : dk_W X (pc + 1) L (.float (FP.i2f x) :: S) n h kc ks) : dk_W X pc L (.int x :: S) n h kc ks := by
  obtain ⟨p, e, R, s, m, args, below, meth, c, Q, G'⟩ := X
  obtain ⟨hx, hb, -⟩ := C
  exact fun H locs ls hR hf hl => lv_i2f hx hb d (k H locs ls hR hf hl)
theorem dk_l2f (C : dk_C X cc own nL ret rm G) {x : Int64} (d : decode cc pc = .ok (.l2f, 1)) (k : dk_W X (pc + 1) L (.float (FP.l2f x) :: S) n h kc ks) : dk_W X pc L (.long x :: S) n h kc ks := by
  obtain ⟨p, e, R, s, m, args, below, meth, c, Q, G'⟩ := X
  obtain ⟨hx, hb, -⟩ := C
  exact fun H locs ls hR hf hl => lv_l2f hx hb d (k H locs ls hR hf hl)
theorem dk_f2d (C : dk_C X cc own nL ret rm G) {x : UInt32} (d : decode cc pc = .ok (.f2d, 1)) (hne : vf_n64 (FP.f2d x)) (k : dk_W X (pc + 1) L (.double (FP.f2d x) :: S) n h kc ks) : dk_W X pc L (.float x :: S) n h kc ks := by
  obtain ⟨p, e, R, s, m, args, below, meth, c, Q, G'⟩ := X
  obtain ⟨hx, hb, -⟩ := C
  exact fun H locs ls hR hf hl => lv_f2d hx hb d hne (k H locs ls hR hf hl)
theorem dk_lcmp (C : dk_C X cc own nL ret rm G) {x y : Int64} (d : decode cc pc = .ok (.lcmp, 1)) (k : dk_W X (pc + 1) L (.int (lg_cmp x y) :: S) n h kc ks) : dk_W X pc L (.long y :: .long x :: S) n h kc ks := by
  obtain ⟨p, e, R, s, m, args, below, meth, c, Q, G'⟩ := X
  obtain ⟨hx, hb, -⟩ := C
  exact fun H locs ls hR hf hl => W.lcmp hx hb d (k H locs ls hR hf hl)
theorem dk_fcmp (C : dk_C X cc own nL ret rm G) {x y : UInt32} {op : CmpOp} (d : decode cc pc = .ok (.fcmp op, 1)) (k : dk_W X (pc + 1) L (.int (Op.cmpValue (FP.fcmp x y) op) :: S) n h kc ks) : dk_W X pc L (.float y :: .float x :: S) n h kc ks := by
  obtain ⟨p, e, R, s, m, args, below, meth, c, Q, G'⟩ := X
  obtain ⟨hx, hb, -⟩ := C
  exact fun H locs ls hR hf hl => lv_fcmp hx hb d (k H locs ls hR hf hl)
theorem dk_dcmp (C : dk_C X cc own nL ret rm G) {x y : UInt64} {op : CmpOp} (d : decode cc pc = .ok (.dcmp op, 1)) (k : dk_W X (pc + 1) L (.int (Op.cmpValue (FP.dcmp x y) op) :: S) n h kc ks) : dk_W X pc L (.double y :: .double x :: S) n h kc ks := by
  obtain ⟨p, e, R, s, m, args, below, meth, c, Q, G'⟩ := X
  obtain ⟨hx, hb, -⟩ := C
  exact fun H locs ls hR hf hl => lv_dcmp hx hb d (k H locs ls hR hf hl)
theorem dk_dup (C : dk_C X cc own nL ret rm G) {v : Value} (d : decode cc pc = .ok (.dup, 1)) (hv : v.category = 1) (k : dk_W X (pc + 1) L (v :: v :: S) n h kc ks) : dk_W X pc L (v :: S) n h kc ks := by
  obtain ⟨p, e, R, s, m, args, below, meth, c, Q, G'⟩ := X
  obtain ⟨hx, hb, -⟩ := C
  exact fun H locs ls hR hf hl => lv_dup hx hb d (by rw [dk_rv_cat]; exact hv) (k H locs ls hR hf hl)
theorem dk_dup2 (C : dk_C X cc own nL ret rm G) {v u : Value} (d : decode cc pc = .ok (.dup2, 1)) (hv : v.category = 1) (hu : u.category = 1) (k : dk_W X (pc + 1) L (v :: u :: v :: u :: S) n h kc ks) : dk_W X pc L (v :: u :: S) n h kc ks := by
  obtain ⟨p, e, R, s, m, args, below, meth, c, Q, G'⟩ := X
  obtain ⟨hx, hb, -⟩ := C
  exact fun H locs ls hR hf hl => lv_dup2_11 hx hb d (by rw [dk_rv_cat]; exact hv) (by rw [dk_rv_cat]; exact hu) (k H locs ls hR hf hl)
theorem dk_if_eq (C : dk_C X cc own nL ret rm G) {x : Int32} {off : Int} (tgt : Nat) (d : decode cc pc = .ok (.ifCond .eq off, 3)) (ht : (pc : Int) + off = (tgt : Int)) (kt : x = 0 → dk_W X tgt L S n h kc ks) (kf : ¬ x = 0 → dk_W X (pc + 3) L S n h kc ks) : dk_W X pc L (.int x :: S) n h kc ks := by
  obtain ⟨p, e, R, s, m, args, below, meth, c, Q, G'⟩ := X
  obtain ⟨hx, hb, -⟩ := C
  exact fun H locs ls hR hf hl => lv_if_eq hx hb d ht (fun z => kt z H locs ls hR hf hl) (fun z => kf z H locs ls hR hf hl)
theorem dk_if_ne (C : dk_C X cc own nL ret rm G) {x : Int32} {off : Int} (tgt : Nat) (d : decode cc pc = .ok (.ifCond .ne off, 3)) (ht : (pc : Int) + off = (tgt : Int)) (kt : ¬ x = 0 → dk_W X tgt L S n h kc ks) (kf : x = 0 → dk_W X (pc + 3) L S n h kc ks) : dk_W X pc L (.int x :: S) n h kc ks := by
  obtain ⟨p, e, R, s, m, args, below, meth, c, Q, G'⟩ := X
  obtain ⟨hx, hb, -⟩ := C
  exact fun H locs ls hR hf hl => lv_if_ne hx hb d ht (fun z => kt z H locs ls hR hf hl) (fun z => kf z H locs ls hR hf hl)
theorem dk_if_lt (C : dk_C X cc own nL ret rm G) {x : Int32} {off : Int} (tgt : Nat) (d : decode cc pc = .ok (.ifCond .lt off, 3)) (ht : (pc : Int) + off = (tgt : Int)) (kt : x < 0 → dk_W X tgt L S n h kc ks) (kf : ¬ x < 0 → dk_W X (pc + 3) L S n h kc ks) : dk_W X pc L (.int x :: S) n h kc ks := by
  obtain ⟨p, e, R, s, m, args, below, meth, c, Q, G'⟩ := X
  obtain ⟨hx, hb, -⟩ := C
  exact fun H locs ls hR hf hl => lv_if_lt hx hb d ht (fun z => kt z H locs ls hR hf hl) (fun z => kf z H locs ls hR hf hl)
theorem dk_if_ge (C : dk_C X cc own nL ret rm G) {x : Int32} {off : Int} (tgt : Nat) (d : decode cc pc = .ok (.ifCond .ge off, 3)) (ht : (pc : Int) + off = (tgt : Int)) (kt : 0 ≤ x → dk_W X tgt L S n h kc ks) (kf : ¬ 0 ≤ x → dk_W X (pc + 3) L S n h kc ks) : dk_W X pc L (.int x :: S) n h kc ks := by
  obtain ⟨p, e, R, s, m, args, below, meth, c, Q, G'⟩ := X
  obtain ⟨hx, hb, -⟩ := C
  exact fun H locs ls hR hf hl => lv_if_ge hx hb d ht (fun z => kt z H locs ls hR hf hl) (fun z => kf z H locs ls hR hf hl)
theorem dk_if_gt (C : dk_C X cc own nL ret rm G) {x : Int32} {off : Int} (tgt : Nat) (d : decode cc pc = .ok (.ifCond .gt off, 3)) (ht : (pc : Int) + off = (tgt : Int)) (kt : 0 < x → dk_W X tgt L S n h kc ks) (kf : ¬ 0 < x → dk_W X (pc + 3) L S n h kc ks) : dk_W X pc L (.int x :: S) n h kc ks := by
  obtain ⟨p, e, R, s, m, args, below, meth, c, Q, G'⟩ := X
  obtain ⟨hx, hb, -⟩ := C
  exact fun H locs ls hR hf hl => lv_if_gt hx hb d ht (fun z => kt z H locs ls hR hf hl) (fun z => kf z H locs ls hR hf hl)
theorem dk_if_le (C : dk_C X cc own nL ret rm G) {x : Int32} {off : Int} (tgt : Nat) (d : decode cc pc = .ok (.ifCond .le off, 3)) (ht : (pc : Int) + off = (tgt : Int)) (kt : x ≤ 0 → dk_W X tgt L S n h kc ks) (kf : ¬ x ≤ 0 → dk_W X (pc + 3) L S n h kc ks) : dk_W X pc L (.int x :: S) n h kc ks := by
  obtain ⟨p, e, R, s, m, args, below, meth, c, Q, G'⟩ := X
  obtain ⟨hx, hb, -⟩ := C
  exact fun H locs ls hR hf hl => lv_if_le hx hb d ht (fun z => kt z H locs ls hR hf hl) (fun z => kf z H locs ls hR hf hl)
theorem dk_icmp_eq (C : dk_C X cc own nL ret rm G) {x y : Int32} {off : Int} (tgt : Nat) (d : decode cc pc = .ok (.if_icmp .eq off, 3)) (ht : (pc : Int) + off = (tgt : Int)) (kt : x = y → dk_W X tgt L S n h kc ks) (kf : ¬ x = y → dk_W X (pc + 3) L S n h kc ks) : dk_W X pc L (.int y :: .int x :: S) n h kc ks := by
  obtain ⟨p, e, R, s, m, args, below, meth, c, Q, G'⟩ := X
  obtain ⟨hx, hb, -⟩ := C
  exact fun H locs ls hR hf hl => lv_icmp_eq hx hb d ht (fun z => kt z H locs ls hR hf hl) (fun z => kf z H locs ls hR hf hl)
theorem dk_icmp_ne (C : dk_C X cc own nL ret rm G) {x y : Int32} {off : Int} (tgt : Nat) (d : decode cc pc = .ok (.if_icmp .ne off, 3)) (ht : (pc : Int) + off = (tgt : Int)) (kt : ¬ x = y → dk_W X tgt L S n h kc ks) (kf : x = y → dk_W X (pc + 3) L S n h kc ks) : dk_W X pc L (.int y :: .int x :: S) n h kc ks := by
  obtain ⟨p, e, R, s, m, args, below, meth, c, Q, G'⟩ := X
  obtain ⟨hx, hb, -⟩ := C
  exact fun H locs ls hR hf hl => lv_icmp_ne hx hb d ht (fun z => kt z H locs ls hR hf hl) (fun z => kf z H locs ls hR hf hl)
theorem dk_icmp_lt (C : dk_C X cc own nL ret rm G) {x y : Int32} {off : Int} (tgt : Nat) (d : decode cc pc = .ok (.if_icmp .lt off, 3)) (ht : (pc : Int) + off = (tgt : Int)) (kt : x < y → dk_W X tgt L S n h kc ks) (kf : ¬ x < y → dk_W X (pc + 3) L S n h kc ks) : dk_W X pc L (.int y :: .int x :: S) n h kc ks := by
  obtain ⟨p, e, R, s, m, args, below, meth, c, Q, G'⟩ := X
  obtain ⟨hx, hb, -⟩ := C
  exact fun H locs ls hR hf hl => lv_icmp_lt hx hb d ht (fun z => kt z H locs ls hR hf hl) (fun z => kf z H locs ls hR hf hl)
theorem dk_icmp_ge (C : dk_C X cc own nL ret rm G) {x y : Int32} {off : Int} (tgt : Nat) (d : decode cc pc = .ok (.if_icmp .ge off, 3)) (ht : (pc : Int) + off = (tgt : Int)) (kt : y ≤ x → dk_W X tgt L S n h kc ks) (kf : ¬ y ≤ x → dk_W X (pc + 3) L S n h kc ks) : dk_W X pc L (.int y :: .int x :: S) n h kc ks := by
  obtain ⟨p, e, R, s, m, args, below, meth, c, Q, G'⟩ := X
  obtain ⟨hx, hb, -⟩ := C
  exact fun H locs ls hR hf hl => lv_icmp_ge hx hb d ht (fun z => kt z H locs ls hR hf hl) (fun z => kf z H locs ls hR hf hl)
theorem dk_icmp_gt (C : dk_C X cc own nL ret rm G) {x y : Int32} {off : Int} (tgt : Nat) (d : decode cc pc = .ok (.if_icmp .gt off, 3)) (ht : (pc : Int) + off = (tgt : Int)) (kt : y < x → dk_W X tgt L S n h kc ks) (kf : ¬ y < x → dk_W X (pc + 3) L S n h kc ks) : dk_W X pc L (.int y :: .int x :: S) n h kc ks := by
  obtain ⟨p, e, R, s, m, args, below, meth, c, Q, G'⟩ := X
  obtain ⟨hx, hb, -⟩ := C
  exact fun H locs ls hR hf hl => lv_icmp_gt hx hb d ht (fun z => kt z H locs ls hR hf hl) (fun z => kf z H locs ls hR hf hl)
theorem dk_icmp_le (C : dk_C X cc own nL ret rm G) {x y : Int32} {off : Int} (tgt : Nat) (d : decode cc pc = .ok (.if_icmp .le off, 3)) (ht : (pc : Int) + off = (tgt : Int)) (kt : x ≤ y → dk_W X tgt L S n h kc ks) (kf : ¬ x ≤ y → dk_W X (pc + 3) L S n h kc ks) : dk_W X pc L (.int y :: .int x :: S) n h kc ks := by
  obtain ⟨p, e, R, s, m, args, below, meth, c, Q, G'⟩ := X
  obtain ⟨hx, hb, -⟩ := C
  exact fun H locs ls hR hf hl => lv_icmp_le hx hb d ht (fun z => kt z H locs ls hR hf hl) (fun z => kf z H locs ls hR hf hl)
theorem dk_goto (C : dk_C X cc own nL ret rm G) {off : Int} (tgt : Nat) (d : decode cc pc = .ok (.goto off, 3)) (ht : (pc : Int) + off = (tgt : Int)) (k : dk_W X tgt L S n h kc ks) : dk_W X pc L S n h kc ks := by
  obtain ⟨p, e, R, s, m, args, below, meth, c, Q, G'⟩ := X
  obtain ⟨hx, hb, -⟩ := C
  exact fun H locs ls hR hf hl => lv_goto hx hb d ht (k H locs ls hR hf hl)
theorem dk_tableIn (C : dk_C X cc own nL ret rm G) {dflt lo hi : Int} {offs : Array Int} {len : Nat} {x : Int32} {off : Int} (tgt : Nat) (d : decode cc pc = .ok (.tableswitch dflt lo hi offs, len)) (h1 : ¬ x.toInt < lo) (h2 : ¬ hi < x.toInt) (ho : offs[(x.toInt - lo).toNat]? = some off) (ht : (pc : Int) + off = (tgt : Int)) (k : dk_W X tgt L S n h kc ks) : dk_W X pc L (.int x :: S) n h kc ks := by
  obtain ⟨p, e, R, s, m, args, below, meth, c, Q, G'⟩ := X
  obtain ⟨hx, hb, -⟩ := C
  exact fun H locs ls hR hf hl => lv_tableIn hx hb d h1 h2 ho ht (k H locs ls hR hf hl)
theorem dk_tableOut (C : dk_C X cc own nL ret rm G) {dflt lo hi : Int} {offs : Array Int} {len : Nat} {x : Int32} (tgt : Nat) (d : decode cc pc = .ok (.tableswitch dflt lo hi offs, len)) (h1 : x.toInt < lo ∨ hi < x.toInt) (ht : (pc : Int) + dflt = (tgt : Int)) (k : dk_W X tgt L S n h kc ks) : dk_W X pc L (.int x :: S) n h kc ks := by
  obtain ⟨p, e, R, s, m, args, below, meth, c, Q, G'⟩ := X
  obtain ⟨hx, hb, -⟩ := C
  exact fun H locs ls hR hf hl => lv_tableOut hx hb d h1 ht (k H locs ls hR hf hl)
theorem dk_getf (C : dk_C X cc own nL ret rm G) {idx ci kf a : Nat} (F : dk_F own idx ci kf) (hs : dk_SH a = .inl ci) (ha : a < n) (v : Value) (hv : dk_av h ((dk_ks ci).getD kf 0) a kf = v) (d : decode cc pc = .ok (.getfield idx, 3)) (k : dk_W X (pc + 3) L (v :: S) n h kc ks) : dk_W X pc L (.ref a :: S) n h kc ks := by
  obtain ⟨p, e, R, s, m, args, below, meth, c, Q, G'⟩ := X
  obtain ⟨hx, hb, hml, hown, hts, hr, hlk, hRm, hG, hK⟩ := C
  subst hG
  intro H locs ls hR hf hl
  obtain ⟨Cn, T, hc, hin, hkN, hlink⟩ := F
  have hat := hR.2.2.1 a ha
  unfold dk_at at hat
  rw [hs] at hat
  obtain ⟨cell, q1, q2, q3, q4⟩ := hat
  obtain ⟨hS, hfc, kC, hkC, hkind⟩ := hK.1.1 ci _ hc
  obtain ⟨cf, kf', fi, f, hi, hsl⟩ := hS kf hkN
  refine W.getf (v := dk_rv _ v) hx hb hown (hts _ hlink) hi (u_facts hfc hkC (u_lays hts hin hkN) hi).1 q1 (by rw [q3]; exact fun h => by cases h) ?_ rfl rfl d (k H locs ls hR hf hl)
  rw [hsl, q4 kf hkN]
  show some (dk_rv _ (dk_av h ((dk_ks ci).getD kf 0) a kf)) = _
  rw [hv]
theorem dk_putf (C : dk_C X cc own nL ret rm G) {idx ci kf a : Nat} {ty : FieldType} (F : dk_F own idx ci kf) (Fw : dk_Fw ci kf ty) (hs : dk_SH a = .inl ci) (ha : a < n) {v : Value} (hn : narrow ty (dk_rv G v) = dk_rv G v) (hfit : fits ty (dk_rv G v) = true) (h' : dk_H) (hup : dk_Up h h' ((dk_ks ci).getD kf 0) a kf v) (d : decode cc pc = .ok (.putfield idx, 3)) (k : dk_W X (pc + 3) L S n h' kc ks) : dk_W X pc L (v :: .ref a :: S) n h kc ks := by
  obtain ⟨p, e, R, s, m, args, below, meth, c, Q, G'⟩ := X
  obtain ⟨hx, hb, hml, hown, hts, hr, hlk, hRm, hG, hK⟩ := C
  subst hG
  intro H locs ls hR hf hl
  obtain ⟨Cn, T, hc, hin, hkN, hlink⟩ := F
  obtain ⟨hN, hFw⟩ := Fw
  obtain ⟨hfin, hd⟩ := hFw _ _ _ hc
  obtain ⟨⟨ty0, hty⟩, hnm⟩ := hN _ _ _ hc
  have hap := va_apart (own := own) hts hin ty0 hty hnm hK.1 hc
  have hat := hR.2.2.1 a ha
  unfold dk_at at hat
  rw [hs] at hat
  obtain ⟨cell, q1, q2, q3, q4⟩ := hat
  obtain ⟨hS, hfc, kC, hkC, hkind⟩ := hK.1.1 ci _ hc
  obtain ⟨cf, kf', fi, f, hi, hsl⟩ := hS kf hkN
  have hlay := hts _ (hin _ (u_in_lay hkN))
  unfold u_lay at hlay
  rw [if_neg (by rw [hfin]; decide)] at hlay
  have hst := (u_facts hfc hkC (u_lays hts hin hkN) hi).1
  have h6 := u_store hfc hkC hkind hlay hi hd hn hfit
  refine W.putK hx hb (f := f) ⟨hown, hts _ hlink, ⟨_, _, _, hi⟩, hst⟩ (by rw [q2]; exact h6) q1 q3 (by rw [hsl]; exact k2_hasslot (q4 kf hkN)) rfl rfl d fun H' e1 e2 e3 => ?_
  rw [hsl] at e1 ⊢
  refine k H' _ ls (hR.set hup e2 e3 fun _ => ?_) (fun q hq => ?_) hl
  · unfold dk_at
    rw [hs]
    refine t_OB.to (V := updV (fun k => dk_rv _ (dk_av h ((dk_ks ci).getD k 0) a k)) kf (dk_rv _ v)) ⟨_, e1, q2, q3, t_set q4 hap hkN _⟩ (fun j _ => ?_)
    unfold updV
    by_cases e9 : j = kf
    · subst e9; rw [if_pos rfl, hup.1]
    · rw [if_neg e9, hup.2 _ a j (Or.inr e9)]
  · rcases List.mem_append.mp hq with h1 | h1
    · exact hf q h1
    · rw [List.mem_singleton.mp h1]; exact Nat.le_add_right _ _
theorem dk_putz (C : dk_C X cc own nL ret rm G) (hin2 : X.2.2.2.2.2.2.2.1.name = "<init>") {idx ci kf a : Nat} {ty : FieldType} (F : dk_F own idx ci kf) (Fw : dk_Fz own ci kf ty) (hs : dk_SH a = .inl ci) (ha : a < n) {v : Value} (hn : narrow ty (dk_rv G v) = dk_rv G v) (hfit : fits ty (dk_rv G v) = true) (h' : dk_H) (hup : dk_Up h h' ((dk_ks ci).getD kf 0) a kf v) (d : decode cc pc = .ok (.putfield idx, 3)) (k : dk_W X (pc + 3) L S n h' kc ks) : dk_W X pc L (v :: .ref a :: S) n h kc ks := by
  obtain ⟨p, e, R, s, m, args, below, meth, c, Q, G'⟩ := X
  obtain ⟨hx, hb, hml, hown, hts, hr, hlk, hRm, hG, hK⟩ := C
  subst hG
  intro H locs ls hR hf hl
  obtain ⟨Cn, T, hc, hin, hkN, hlink⟩ := F
  obtain ⟨hN, hFw⟩ := Fw
  obtain ⟨hfin, hdecl, hd⟩ := hFw _ _ _ hc
  obtain ⟨⟨ty0, hty⟩, hnm⟩ := hN _ _ _ hc
  have hap := va_apart (own := own) hts hin ty0 hty hnm hK.1 hc
  have hat := hR.2.2.1 a ha
  unfold dk_at at hat
  rw [hs] at hat
  obtain ⟨cell, q1, q2, q3, q4⟩ := hat
  obtain ⟨hS, hfc, kC, hkC, hkind⟩ := hK.1.1 ci _ hc
  obtain ⟨cf, kf', fi, f, hi, hsl⟩ := hS kf hkN
  have hlay := hts _ (hin _ (u_in_lay hkN))
  unfold u_lay at hlay
  rw [if_pos hfin] at hlay
  have hst := (u_facts hfc hkC (u_lays hts hin hkN) hi).1
  have hcf : m.cls = cf := by
    obtain ⟨_, _, c', _, _, _, -, -, hf', -, -, -, hown2, -⟩ := Cond.laysFinal_spec hlay
    have e1 : c' = cf := by have := hi.symm.trans hf'; simp at this; exact this.1.symm
    rw [hdecl] at hown2
    rw [← e1]; exact Option.some.inj (hown.symm.trans hown2)
  have h6 := u_fits hfc hkC hkind (Or.inr hlay) hi hd hn hfit
  refine W.putFinK hx hb hown (hts _ hlink) hi hst hcf hin2 (by rw [q2]; exact h6) q1 q3 (by rw [hsl]; exact k2_hasslot (q4 kf hkN)) rfl rfl d fun H' e1 e2 e3 => ?_
  rw [hsl] at e1 ⊢
  refine k H' _ ls (hR.set hup e2 e3 fun _ => ?_) (fun q hq => ?_) hl
  · unfold dk_at
    rw [hs]
    refine t_OB.to (V := updV (fun k => dk_rv _ (dk_av h ((dk_ks ci).getD k 0) a k)) kf (dk_rv _ v)) ⟨_, e1, q2, q3, t_set q4 hap hkN _⟩ (fun j _ => ?_)
    unfold updV
    by_cases e9 : j = kf
    · subst e9; rw [if_pos rfl, hup.1]
    · rw [if_neg e9, hup.2 _ a j (Or.inr e9)]
  · rcases List.mem_append.mp hq with h1 | h1
    · exact hf q h1
    · rw [List.mem_singleton.mp h1]; exact Nat.le_add_right _ _
theorem dk_iald (C : dk_C X cc own nL ret rm G) {a N : Nat} {i : Int32} (hs : dk_SH a = .inr (0, N)) (ha : a < n) (hin : vp_in i N) (d : decode cc pc = .ok (.iaload, 1)) (k : dk_W X (pc + 1) L (.int (h.1 a i.toNatClampNeg) :: S) n h kc ks) : dk_W X pc L (.int i :: .ref a :: S) n h kc ks := by
  obtain ⟨p, e, R, s, m, args, below, meth, c, Q, G'⟩ := X
  obtain ⟨hx, hb, hml, hown, hts, hr, hlk, hRm, hG, hK⟩ := C
  subst hG
  intro H locs ls hR hf hl
  have hat := hR.2.2.1 a ha
  unfold dk_at at hat
  rw [hs] at hat
  have hlt : i.toNatClampNeg < N := Nat.not_le.mp fun q => hin (Or.inr q)
  exact W.iald (v := .int (h.1 a i.toNatClampNeg)) hx hb hat ((hK.1.2 0 _ (dk_tys_at _ (by decide))).1 N _) (fun q => by cases q) (by rw [arrV_size]; exact hin) (by rw [arrV_read _ _ hlt]; rfl) rfl rfl d (k H locs ls hR hf hl)
theorem dk_zald (C : dk_C X cc own nL ret rm G) {a N : Nat} {i : Int32} (hs : dk_SH a = .inr (1, N)) (ha : a < n) (hin : vp_in i N) (d : decode cc pc = .ok (.baload, 1)) (k : dk_W X (pc + 1) L (.int (h.1 a i.toNatClampNeg) :: S) n h kc ks) : dk_W X pc L (.int i :: .ref a :: S) n h kc ks := by
  obtain ⟨p, e, R, s, m, args, below, meth, c, Q, G'⟩ := X
  obtain ⟨hx, hb, hml, hown, hts, hr, hlk, hRm, hG, hK⟩ := C
  subst hG
  intro H locs ls hR hf hl
  have hat := hR.2.2.1 a ha
  unfold dk_at at hat
  rw [hs] at hat
  have hlt : i.toNatClampNeg < N := Nat.not_le.mp fun q => hin (Or.inr q)
  exact W.zald (v := .int (h.1 a i.toNatClampNeg)) hx hb hat ((hK.1.2 1 _ (dk_tys_at _ (by decide))).1 N _) (fun q => by cases q) (by rw [arrV_size]; exact hin) (by rw [arrV_read _ _ hlt]; rfl) rfl rfl d (k H locs ls hR hf hl)
theorem dk_fald (C : dk_C X cc own nL ret rm G) {a N : Nat} {i : Int32} (hs : dk_SH a = .inr (2, N)) (ha : a < n) (hin : vp_in i N) (d : decode cc pc = .ok (.faload, 1)) (k : dk_W X (pc + 1) L (.float (h.2.1 a i.toNatClampNeg) :: S) n h kc ks) : dk_W X pc L (.int i :: .ref a :: S) n h kc ks := by
  obtain ⟨p, e, R, s, m, args, below, meth, c, Q, G'⟩ := X
  obtain ⟨hx, hb, hml, hown, hts, hr, hlk, hRm, hG, hK⟩ := C
  subst hG
  intro H locs ls hR hf hl
  have hat := hR.2.2.1 a ha
  unfold dk_at at hat
  rw [hs] at hat
  have hlt : i.toNatClampNeg < N := Nat.not_le.mp fun q => hin (Or.inr q)
  exact W.fald (v := .float (h.2.1 a i.toNatClampNeg)) hx hb hat ((hK.1.2 2 _ (dk_tys_at _ (by decide))).1 N _) (fun q => by cases q) (by rw [arrV_size]; exact hin) (by rw [arrV_read _ _ hlt]; rfl) rfl rfl d (k H locs ls hR hf hl)
theorem dk_lald (C : dk_C X cc own nL ret rm G) {a N : Nat} {i : Int32} (hs : dk_SH a = .inr (3, N)) (ha : a < n) (hin : vp_in i N) (d : decode cc pc = .ok (.laload, 1)) (k : dk_W X (pc + 1) L (.long (h.2.2.2.1 a i.toNatClampNeg) :: S) n h kc ks) : dk_W X pc L (.int i :: .ref a :: S) n h kc ks := by
  obtain ⟨p, e, R, s, m, args, below, meth, c, Q, G'⟩ := X
  obtain ⟨hx, hb, hml, hown, hts, hr, hlk, hRm, hG, hK⟩ := C
  subst hG
  intro H locs ls hR hf hl
  have hat := hR.2.2.1 a ha
  unfold dk_at at hat
  rw [hs] at hat
  have hlt : i.toNatClampNeg < N := Nat.not_le.mp fun q => hin (Or.inr q)
  exact W.lald (v := .long (h.2.2.2.1 a i.toNatClampNeg)) hx hb hat ((hK.1.2 3 _ (dk_tys_at _ (by decide))).1 N _) (fun q => by cases q) (by rw [arrV_size]; exact hin) (by rw [arrV_read _ _ hlt]; rfl) rfl rfl d (k H locs ls hR hf hl)
theorem dk_dald (C : dk_C X cc own nL ret rm G) {a N : Nat} {i : Int32} (hs : dk_SH a = .inr (4, N)) (ha : a < n) (hin : vp_in i N) (d : decode cc pc = .ok (.daload, 1)) (k : dk_W X (pc + 1) L (.double (h.2.2.2.2 a i.toNatClampNeg) :: S) n h kc ks) : dk_W X pc L (.int i :: .ref a :: S) n h kc ks := by
  obtain ⟨p, e, R, s, m, args, below, meth, c, Q, G'⟩ := X
  obtain ⟨hx, hb, hml, hown, hts, hr, hlk, hRm, hG, hK⟩ := C
  subst hG
  intro H locs ls hR hf hl
  have hat := hR.2.2.1 a ha
  unfold dk_at at hat
  rw [hs] at hat
  have hlt : i.toNatClampNeg < N := Nat.not_le.mp fun q => hin (Or.inr q)
  exact W.dald (v := .double (h.2.2.2.2 a i.toNatClampNeg)) hx hb hat ((hK.1.2 4 _ (dk_tys_at _ (by decide))).1 N _) (fun q => by cases q) (by rw [arrV_size]; exact hin) (by rw [arrV_read _ _ hlt]; rfl) rfl rfl d (k H locs ls hR hf hl)
theorem dk_aald (C : dk_C X cc own nL ret rm G) {a N t : Nat} {i : Int32} (hs : dk_SH a = .inr (t, N)) (ht : 5 ≤ t ∧ t < 9) (ha : a < n) (hin : vp_in i N) (v : Value) (hv : va_rf (h.2.2.1 a i.toNatClampNeg) = v) (d : decode cc pc = .ok (.aaload, 1)) (k : dk_W X (pc + 1) L (v :: S) n h kc ks) : dk_W X pc L (.int i :: .ref a :: S) n h kc ks := by
  obtain ⟨p, e, R, s, m, args, below, meth, c, Q, G'⟩ := X
  obtain ⟨hx, hb, hml, hown, hts, hr, hlk, hRm, hG, hK⟩ := C
  subst hG
  intro H locs ls hR hf hl
  have hat := hR.2.2.1 a ha
  unfold dk_at at hat
  rw [hs] at hat
  have hlt : i.toNatClampNeg < N := Nat.not_le.mp fun q => hin (Or.inr q)
  have he : dk_ek t = 2 := by
    obtain ⟨h5, h9⟩ := ht
    rcases (show t = 5 ∨ t = 6 ∨ t = 7 ∨ t = 8 by omega) with rfl | rfl | rfl | rfl <;> rfl
  have hre : (dk_ty t).isReference = true := by
    obtain ⟨h5, h9⟩ := ht
    rcases (show t = 5 ∨ t = 6 ∨ t = 7 ∨ t = 8 by omega) with rfl | rfl | rfl | rfl <;> rfl
  refine W.aald (v := dk_rv _ v) (ty := dk_ty t) hx hb hat ((hK.1.2 t _ (dk_tys_at _ ht.2)).1 N _) hre (fun q => by cases q) (by rw [arrV_size]; exact hin) ?_ rfl rfl d (k H locs ls hR hf hl)
  rw [arrV_read _ _ hlt]
  show some (dk_rv _ (dk_av h (dk_ek t) a i.toNatClampNeg)) = _
  rw [he, ← hv]
  rfl
theorem dk_iast (C : dk_C X cc own nL ret rm G) {a N : Nat} {i : Int32} {x : Int32} (hs : dk_SH a = .inr (0, N)) (ha : a < n) (hin : vp_in i N) (d : decode cc pc = .ok (.iastore, 1)) (k : dk_W X (pc + 1) L S n (dk_sI h a i.toNatClampNeg x) kc ks) : dk_W X pc L (.int x :: .int i :: .ref a :: S) n h kc ks := by
  obtain ⟨p, e, R, s, m, args, below, meth, c, Q, G'⟩ := X
  obtain ⟨hx, hb, hml, hown, hts, hr, hlk, hRm, hG, hK⟩ := C
  subst hG
  intro H locs ls hR hf hl
  have hat := hR.2.2.1 a ha
  unfold dk_at at hat
  rw [hs] at hat
  have hup := dk_upI h a i.toNatClampNeg x
  refine W.iast hx hb hat ((hK.1.2 0 _ (dk_tys_at _ (by decide))).1 N _) (fun q => by cases q) (by rw [arrV_size]; exact hin) rfl rfl d fun H' e1 e2 e3 => ?_
  refine k H' _ ls (hR.set hup e2 e3 fun _ => ?_) (fun q hq => ?_) hl
  · unfold dk_at
    rw [hs]
    show H'[dk_b _ + a]? = _
    rw [e1, arrV_store]
    congr 2
    funext j
    unfold updV
    by_cases e9 : j = i.toNatClampNeg
    · subst e9; rw [if_pos rfl]; show _ = dk_rv _ (dk_av (dk_sI h a _ x) 0 a _); rw [hup.1]; rfl
    · rw [if_neg e9, hup.2 _ a j (Or.inr e9)]
  · rcases List.mem_append.mp hq with h1 | h1
    · exact hf q h1
    · rw [List.mem_singleton.mp h1]; exact Nat.le_add_right _ _
theorem dk_fast (C : dk_C X cc own nL ret rm G) {a N : Nat} {i : Int32} {x : UInt32} (hs : dk_SH a = .inr (2, N)) (ha : a < n) (hin : vp_in i N) (d : decode cc pc = .ok (.fastore, 1)) (k : dk_W X (pc + 1) L S n (dk_sF h a i.toNatClampNeg x) kc ks) : dk_W X pc L (.float x :: .int i :: .ref a :: S) n h kc ks := by
  obtain ⟨p, e, R, s, m, args, below, meth, c, Q, G'⟩ := X
  obtain ⟨hx, hb, hml, hown, hts, hr, hlk, hRm, hG, hK⟩ := C
  subst hG
  intro H locs ls hR hf hl
  have hat := hR.2.2.1 a ha
  unfold dk_at at hat
  rw [hs] at hat
  have hup := dk_upF h a i.toNatClampNeg x
  refine W.fast hx hb hat ((hK.1.2 2 _ (dk_tys_at _ (by decide))).1 N _) (fun q => by cases q) (by rw [arrV_size]; exact hin) rfl rfl d fun H' e1 e2 e3 => ?_
  refine k H' _ ls (hR.set hup e2 e3 fun _ => ?_) (fun q hq => ?_) hl
  · unfold dk_at
    rw [hs]
    show H'[dk_b _ + a]? = _
    rw [e1, arrV_store]
    congr 2
    funext j
    unfold updV
    by_cases e9 : j = i.toNatClampNeg
    · subst e9; rw [if_pos rfl]; show _ = dk_rv _ (dk_av (dk_sF h a _ x) 1 a _); rw [hup.1]; rfl
    · rw [if_neg e9, hup.2 _ a j (Or.inr e9)]
  · rcases List.mem_append.mp hq with h1 | h1
    · exact hf q h1
    · rw [List.mem_singleton.mp h1]; exact Nat.le_add_right _ _
theorem dk_last (C : dk_C X cc own nL ret rm G) {a N : Nat} {i : Int32} {x : Int64} (hs : dk_SH a = .inr (3, N)) (ha : a < n) (hin : vp_in i N) (d : decode cc pc = .ok (.lastore, 1)) (k : dk_W X (pc + 1) L S n (dk_sL h a i.toNatClampNeg x) kc ks) : dk_W X pc L (.long x :: .int i :: .ref a :: S) n h kc ks := by
  obtain ⟨p, e, R, s, m, args, below, meth, c, Q, G'⟩ := X
  obtain ⟨hx, hb, hml, hown, hts, hr, hlk, hRm, hG, hK⟩ := C
  subst hG
  intro H locs ls hR hf hl
  have hat := hR.2.2.1 a ha
  unfold dk_at at hat
  rw [hs] at hat
  have hup := dk_upL h a i.toNatClampNeg x
  refine W.last hx hb hat ((hK.1.2 3 _ (dk_tys_at _ (by decide))).1 N _) (fun q => by cases q) (by rw [arrV_size]; exact hin) rfl rfl d fun H' e1 e2 e3 => ?_
  refine k H' _ ls (hR.set hup e2 e3 fun _ => ?_) (fun q hq => ?_) hl
  · unfold dk_at
    rw [hs]
    show H'[dk_b _ + a]? = _
    rw [e1, arrV_store]
    congr 2
    funext j
    unfold updV
    by_cases e9 : j = i.toNatClampNeg
    · subst e9; rw [if_pos rfl]; show _ = dk_rv _ (dk_av (dk_sL h a _ x) 3 a _); rw [hup.1]; rfl
    · rw [if_neg e9, hup.2 _ a j (Or.inr e9)]
  · rcases List.mem_append.mp hq with h1 | h1
    · exact hf q h1
    · rw [List.mem_singleton.mp h1]; exact Nat.le_add_right _ _
theorem dk_dast (C : dk_C X cc own nL ret rm G) {a N : Nat} {i : Int32} {x : UInt64} (hs : dk_SH a = .inr (4, N)) (ha : a < n) (hin : vp_in i N) (d : decode cc pc = .ok (.dastore, 1)) (k : dk_W X (pc + 1) L S n (dk_sD h a i.toNatClampNeg x) kc ks) : dk_W X pc L (.double x :: .int i :: .ref a :: S) n h kc ks := by
  obtain ⟨p, e, R, s, m, args, below, meth, c, Q, G'⟩ := X
  obtain ⟨hx, hb, hml, hown, hts, hr, hlk, hRm, hG, hK⟩ := C
  subst hG
  intro H locs ls hR hf hl
  have hat := hR.2.2.1 a ha
  unfold dk_at at hat
  rw [hs] at hat
  have hup := dk_upD h a i.toNatClampNeg x
  refine W.dast hx hb hat ((hK.1.2 4 _ (dk_tys_at _ (by decide))).1 N _) (fun q => by cases q) (by rw [arrV_size]; exact hin) rfl rfl d fun H' e1 e2 e3 => ?_
  refine k H' _ ls (hR.set hup e2 e3 fun _ => ?_) (fun q hq => ?_) hl
  · unfold dk_at
    rw [hs]
    show H'[dk_b _ + a]? = _
    rw [e1, arrV_store]
    congr 2
    funext j
    unfold updV
    by_cases e9 : j = i.toNatClampNeg
    · subst e9; rw [if_pos rfl]; show _ = dk_rv _ (dk_av (dk_sD h a _ x) 4 a _); rw [hup.1]; rfl
    · rw [if_neg e9, hup.2 _ a j (Or.inr e9)]
  · rcases List.mem_append.mp hq with h1 | h1
    · exact hf q h1
    · rw [List.mem_singleton.mp h1]; exact Nat.le_add_right _ _
theorem dk_zast (C : dk_C X cc own nL ret rm G) {a N : Nat} {i : Int32} {x : Int32} (hs : dk_SH a = .inr (1, N)) (ha : a < n) (hin : vp_in i N) (hx0 : narrow .boolean (.int x) = .int x) (d : decode cc pc = .ok (.bastore, 1)) (k : dk_W X (pc + 1) L S n (dk_sI h a i.toNatClampNeg x) kc ks) : dk_W X pc L (.int x :: .int i :: .ref a :: S) n h kc ks := by
  obtain ⟨p, e, R, s, m, args, below, meth, c, Q, G'⟩ := X
  obtain ⟨hx, hb, hml, hown, hts, hr, hlk, hRm, hG, hK⟩ := C
  subst hG
  intro H locs ls hR hf hl
  have hat := hR.2.2.1 a ha
  unfold dk_at at hat
  rw [hs] at hat
  have hup := dk_upI h a i.toNatClampNeg x
  refine W.zast hx hb hat ((hK.1.2 1 _ (dk_tys_at _ (by decide))).1 N _) (fun q => by cases q) (by rw [arrV_size]; exact hin) rfl rfl d fun H' e1 e2 e3 => ?_
  rw [hx0] at e1
  refine k H' _ ls (hR.set hup e2 e3 fun _ => ?_) (fun q hq => ?_) hl
  · unfold dk_at
    rw [hs]
    show H'[dk_b _ + a]? = _
    rw [e1, arrV_store]
    congr 2
    funext j
    unfold updV
    by_cases e9 : j = i.toNatClampNeg
    · subst e9; rw [if_pos rfl]; show _ = dk_rv _ (dk_av (dk_sI h a _ x) 0 a _); rw [hup.1]; rfl
    · rw [if_neg e9, hup.2 _ a j (Or.inr e9)]
  · rcases List.mem_append.mp hq with h1 | h1
    · exact hf q h1
    · rw [List.mem_singleton.mp h1]; exact Nat.le_add_right _ _
theorem dk_aast (C : dk_C X cc own nL ret rm G) {a N t v ci : Nat} {i : Int32} {q : vw_C} (hs : dk_SH a = .inr (t, N)) (ht : 5 ≤ t ∧ t < 9) (ha : a < n) (hin : vp_in i N) (hsv : dk_SH v = .inl ci) (hv : v < n) (hc : vwCl[ci]? = some q) (hq : dk_ty t = .object q.1) (d : decode cc pc = .ok (.aastore, 1)) (k : dk_W X (pc + 1) L S n (dk_sR h a i.toNatClampNeg (some v)) kc ks) : dk_W X pc L (.ref v :: .int i :: .ref a :: S) n h kc ks := by
  obtain ⟨p, e, R, s, m, args, below, meth, c, Q, G'⟩ := X
  obtain ⟨hx, hb, hml, hown, hts, hr, hlk, hRm, hG, hK⟩ := C
  subst hG
  intro H locs ls hR hf hl
  have hat := hR.2.2.1 a ha
  unfold dk_at at hat
  rw [hs] at hat
  have hav := hR.2.2.1 v hv
  unfold dk_at at hav
  rw [hsv] at hav
  obtain ⟨cellV, g1, g2, g3, -⟩ := hav
  have hlt : i.toNatClampNeg < N := Nat.not_le.mp fun q => hin (Or.inr q)
  have h0 : ¬ i < 0 := fun q => hin (Or.inl q)
  have hcls := (hK.1.1 ci q hc).2
  have hRA := (hK.1.2 t _ (dk_tys_at _ ht.2)).2
  rw [show (dk_cT _ t, dk_ty t).2 = .object q.1 from hq] at hRA
  obtain ⟨kA, comp, k1, k2, k3, -⟩ := hRA
  have hcomp : comp = _ := Option.some.inj (k3.symm.trans hcls.1)
  subst hcomp
  obtain ⟨kC, hkC, -⟩ := hcls.2
  have he : dk_ek t = 2 := by
    obtain ⟨h5, h9⟩ := ht
    rcases (show t = 5 ∨ t = 6 ∨ t = 7 ∨ t = 8 by omega) with rfl | rfl | rfl | rfl <;> rfl
  have hup := dk_upR h a i.toNatClampNeg (some v)
  refine W.aast hx hb hat (fun q h => by cases h) (fun h => by cases h) k1 k2 rfl hkC ⟨h0, by rw [arrV_size]; exact hlt⟩ g1 (fun q h => by rw [g3] at h; cases h) (by rw [g2]; exact hkC) (by rw [g2]; exact va_assign hcls) rfl rfl d fun H' e1 e2 e3 => ?_
  refine k H' _ ls (hR.set hup e2 e3 fun _ => ?_) (fun q hq => ?_) hl
  · unfold dk_at
    rw [hs]
    show H'[dk_b _ + a]? = _
    rw [e1, arrV_store]
    congr 2
    funext j
    unfold updV
    by_cases e9 : j = i.toNatClampNeg
    · subst e9; rw [if_pos rfl]; show _ = dk_rv _ (dk_av (dk_sR h a _ (some v)) (dk_ek t) a _); rw [he, hup.1]; rfl
    · rw [if_neg e9, hup.2 _ a j (Or.inr e9)]
  · rcases List.mem_append.mp hq with h1 | h1
    · exact hf q h1
    · rw [List.mem_singleton.mp h1]; exact Nat.le_add_right _ _
theorem dk_widen {kc' ks' : Nat} (h1 : kc ≤ kc') (h2 : ks ≤ ks') (k : dk_W X pc L S n h kc' ks') : dk_W X pc L S n h kc ks := by
  obtain ⟨p, e, R, s, m, args, below, meth, c, Q, G'⟩ := X
  exact fun H locs ls hR hf hl => W.widen h1 h2 (k H locs ls hR hf hl)
end DK
