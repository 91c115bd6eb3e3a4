/-! ===== the words of the three throws, in the tables ===== -/
def nE (k : Nat) : String := match k with
  | 0 => "java/util/NoSuchElementException"
  | 1 => "java/lang/IllegalStateException"
  | _ => "java/lang/IndexOutOfBoundsException"
def nIk (k : Nat) : Nat := match k with
  | 0 => 52
  | 1 => 63
  | _ => 158
def nIc (k : Nat) : Nat := match k with
  | 0 => 56
  | 1 => 67
  | _ => 162
def nIx (k : Nat) : Nat := match k with
  | 0 => 13
  | _ => 7
def nRx (k : Nat) : ByteArray := match k with
  | 0 => ⟨#[0x2a, 0x2b, 0xb7, 0x00, 0x0d, 0xb1]⟩
  | _ => ⟨#[0x2a, 0x2b, 0xb7, 0x00, 0x07, 0xb1]⟩
def sIx (i : Nat) : Nat := ([54, 65, 79, 91, 148, 160, 196, 198] : List Nat).getD i 0
def sTx (i : Nat) : String := (["no such table", "the table takes no more rows", "no such table or row", "no such table, row or column", "nothing that can be planned", "no such part of a plan", "no question was answered", "no such answer or output"] : List String).getD i ""
def nw (k : Nat) : List Cond := nx_w RX7 (nIc k) (nE k) (nIx k) (nRx k) "java/lang/RuntimeException" ["java/lang/Exception"]
def nW (X : String) : List Cond := [.castable X X, .declares (Bundle.initS "java/lang/RuntimeException"), .declares (Bundle.initS "java/lang/Exception"), .declares (Bundle.initS Bundle.tN), .laysStatic Bundle.tN "UNASSIGNED_STACK" Bundle.steD, .laysStatic Bundle.tN "SUPPRESSED_SENTINEL" Bundle.listD, .isRef (.static Bundle.tN "UNASSIGNED_STACK" Bundle.steD), .isRef (.static Bundle.tN "SUPPRESSED_SENTINEL" Bundle.listD)]
set_option maxRecDepth 100000 in
theorem nw_th (X : String) : ∀ w ∈ Bundle.throwableAtoms, w ∈ dk_tbl ∨ w ∈ nW X := (List.forall_mem_cons.mpr ⟨Or.inl (dk_m1 10 rfl rfl), (List.forall_mem_cons.mpr ⟨Or.inl (dk_m3 46 rfl rfl), (List.forall_mem_cons.mpr ⟨Or.inl (dk_m3 55 rfl rfl), (List.forall_mem_cons.mpr ⟨Or.inl (dk_m3 59 rfl rfl), (List.forall_mem_cons.mpr ⟨Or.inl (dk_m3 62 rfl rfl), (List.forall_mem_cons.mpr ⟨Or.inl (dk_m3 64 rfl rfl), (List.forall_mem_cons.mpr ⟨Or.inl (dk_m3 47 rfl rfl), (List.forall_mem_cons.mpr ⟨Or.inl (dk_m3 48 rfl rfl), (List.forall_mem_cons.mpr ⟨Or.inl (dk_m1 24 rfl rfl), (List.forall_mem_cons.mpr ⟨Or.inl (dk_m1 25 rfl rfl), (List.forall_mem_cons.mpr ⟨Or.inl (dk_m3 49 rfl rfl), (List.forall_mem_cons.mpr ⟨Or.inl (dk_m3 54 rfl rfl), (List.forall_mem_cons.mpr ⟨Or.inl (dk_m3 60 rfl rfl), (List.forall_mem_cons.mpr ⟨Or.inl (dk_m3 80 rfl rfl), (List.forall_mem_cons.mpr ⟨Or.inl (dk_m3 36 rfl rfl), (List.forall_mem_cons.mpr ⟨Or.inl (dk_m3 81 rfl rfl), (List.forall_mem_cons.mpr ⟨Or.inl (dk_m3 38 rfl rfl), (List.forall_mem_cons.mpr ⟨Or.inl (dk_m3 82 rfl rfl), (List.forall_mem_cons.mpr ⟨Or.inl (dk_m3 40 rfl rfl), (List.forall_mem_cons.mpr ⟨Or.inl (dk_m3 50 rfl rfl), (List.forall_mem_cons.mpr ⟨Or.inr (List.mem_of_getElem? (i := 4) rfl), (List.forall_mem_cons.mpr ⟨Or.inl (dk_m3 52 rfl rfl), (List.forall_mem_cons.mpr ⟨Or.inr (List.mem_of_getElem? (i := 5) rfl), (List.forall_mem_cons.mpr ⟨Or.inl (dk_m3 42 rfl rfl), (fun _ h => absurd h List.not_mem_nil)⟩)⟩)⟩)⟩)⟩)⟩)⟩)⟩)⟩)⟩)⟩)⟩)⟩)⟩)⟩)⟩)⟩)⟩)⟩)⟩)⟩)⟩)⟩)⟩)
set_option maxRecDepth 100000 in
theorem nw_ts (X : String) : ∀ w ∈ Bundle.throwableSAtoms, w ∈ dk_tbl ∨ w ∈ nW X := (List.forall_mem_cons.mpr ⟨Or.inl (dk_m3 76 rfl rfl), (List.forall_mem_cons.mpr ⟨Or.inl (dk_m3 77 rfl rfl), (List.forall_mem_cons.mpr ⟨Or.inl (dk_m3 79 rfl rfl), (List.forall_mem_cons.mpr ⟨Or.inl (dk_m3 42 rfl rfl), (fun _ h => absurd h List.not_mem_nil)⟩)⟩)⟩)⟩)
set_option maxRecDepth 100000 in
theorem nw_re (X : String) : ∀ w ∈ Bundle.passSAtoms "java/lang/RuntimeException" "java/lang/Exception" 7 Bundle.six, w ∈ dk_tbl ∨ w ∈ nW X := (List.forall_mem_cons.mpr ⟨Or.inl (dk_m3 70 rfl rfl), (List.forall_mem_cons.mpr ⟨Or.inl (dk_m3 71 rfl rfl), (List.forall_mem_cons.mpr ⟨Or.inl (dk_m3 72 rfl rfl), (List.forall_mem_cons.mpr ⟨Or.inl (dk_m3 73 rfl rfl), (List.forall_mem_cons.mpr ⟨Or.inr (List.mem_of_getElem? (i := 2) rfl), (fun _ h => absurd h List.not_mem_nil)⟩)⟩)⟩)⟩)⟩)
set_option maxRecDepth 100000 in
theorem nw_et (X : String) : ∀ w ∈ Bundle.passSAtoms "java/lang/Exception" Bundle.tN 7 Bundle.six, w ∈ dk_tbl ∨ w ∈ nW X := (List.forall_mem_cons.mpr ⟨Or.inl (dk_m3 73 rfl rfl), (List.forall_mem_cons.mpr ⟨Or.inl (dk_m3 74 rfl rfl), (List.forall_mem_cons.mpr ⟨Or.inl (dk_m3 75 rfl rfl), (List.forall_mem_cons.mpr ⟨Or.inl (dk_m3 76 rfl rfl), (List.forall_mem_cons.mpr ⟨Or.inr (List.mem_of_getElem? (i := 3) rfl), (fun _ h => absurd h List.not_mem_nil)⟩)⟩)⟩)⟩)⟩)
set_option maxRecDepth 100000 in
theorem nw_p0 : ∀ w ∈ Bundle.passSAtoms (nE 0) "java/lang/RuntimeException" (nIx 0) (nRx 0), w ∈ dk_tbl ∨ w ∈ nW (nE 0) := (List.forall_mem_cons.mpr ⟨Or.inl (dk_m3 67 rfl rfl), (List.forall_mem_cons.mpr ⟨Or.inl (dk_m3 68 rfl rfl), (List.forall_mem_cons.mpr ⟨Or.inl (dk_m3 69 rfl rfl), (List.forall_mem_cons.mpr ⟨Or.inl (dk_m3 70 rfl rfl), (List.forall_mem_cons.mpr ⟨Or.inr (List.mem_of_getElem? (i := 1) rfl), (fun _ h => absurd h List.not_mem_nil)⟩)⟩)⟩)⟩)⟩)
set_option maxRecDepth 100000 in
theorem nw_l0 : ∀ w ∈ ([.methodLink RX7 (nIc 0) (Bundle.initS (nE 0)), .instantiable (nE 0) 6, .castable (nE 0) (nE 0), .selects (nE 0) Bundle.tFill0 Bundle.tFill0, .selects (nE 0) Bundle.tFill Bundle.tFill,
   .lays (nE 0) Bundle.tN "cause" "Ljava/lang/Throwable;", .lays (nE 0) Bundle.tN "stackTrace" Bundle.steD, .lays (nE 0) Bundle.tN "suppressedExceptions" Bundle.listD, .lays (nE 0) Bundle.tN "detailMessage" "Ljava/lang/String;",
   .isRef (.static Bundle.tN "UNASSIGNED_STACK" Bundle.steD), .isRef (.static Bundle.tN "SUPPRESSED_SENTINEL" Bundle.listD),
   .fieldLink Bundle.tN 198 Bundle.tN "backtrace" "Ljava/lang/Object;", .lays Bundle.tN Bundle.tN "backtrace" "Ljava/lang/Object;", .lays (nE 0) Bundle.tN "backtrace" "Ljava/lang/Object;"] : List Cond), w ∈ dk_tbl ∨ w ∈ nW (nE 0) := (List.forall_mem_cons.mpr ⟨Or.inl (dk_m3 66 rfl rfl), (List.forall_mem_cons.mpr ⟨Or.inl (dk_m3 25 rfl rfl), (List.forall_mem_cons.mpr ⟨Or.inr (List.mem_of_getElem? (i := 0) rfl), (List.forall_mem_cons.mpr ⟨Or.inl (dk_m3 33 rfl rfl), (List.forall_mem_cons.mpr ⟨Or.inl (dk_m3 34 rfl rfl), (List.forall_mem_cons.mpr ⟨Or.inl (dk_m3 35 rfl rfl), (List.forall_mem_cons.mpr ⟨Or.inl (dk_m3 37 rfl rfl), (List.forall_mem_cons.mpr ⟨Or.inl (dk_m3 39 rfl rfl), (List.forall_mem_cons.mpr ⟨Or.inl (dk_m3 41 rfl rfl), (List.forall_mem_cons.mpr ⟨Or.inr (List.mem_of_getElem? (i := 6) rfl), (List.forall_mem_cons.mpr ⟨Or.inr (List.mem_of_getElem? (i := 7) rfl), (List.forall_mem_cons.mpr ⟨Or.inl (dk_m3 45 rfl rfl), (List.forall_mem_cons.mpr ⟨Or.inl (dk_m3 44 rfl rfl), (List.forall_mem_cons.mpr ⟨Or.inl (dk_m3 43 rfl rfl), (fun _ h => absurd h List.not_mem_nil)⟩)⟩)⟩)⟩)⟩)⟩)⟩)⟩)⟩)⟩)⟩)⟩)⟩)⟩)
theorem nw_ok0 : ∀ w ∈ nw 0, w ∈ dk_tbl ∨ w ∈ nW (nE 0) := by
  show ∀ w ∈ Bundle.throwableAtoms ++ Bundle.throwableSAtoms ++ (Bundle.passSAtoms (nE 0) "java/lang/RuntimeException" (nIx 0) (nRx 0) ++ (Bundle.passSAtoms "java/lang/RuntimeException" "java/lang/Exception" 7 Bundle.six ++ Bundle.passSAtoms "java/lang/Exception" Bundle.tN 7 Bundle.six)) ++ _, _
  exact List.forall_mem_append.mpr ⟨List.forall_mem_append.mpr ⟨List.forall_mem_append.mpr ⟨nw_th _, nw_ts _⟩, List.forall_mem_append.mpr ⟨nw_p0, List.forall_mem_append.mpr ⟨nw_re _, nw_et _⟩⟩⟩, nw_l0⟩
theorem nk_0 : Cond.classLink RX7 (nIk 0) (nE 0) ∈ dk_tbl := dk_m3 24 rfl rfl
theorem ni_0 : Cond.initialized (nE 0) ∈ dk_tbl := dk_m1 13 rfl rfl
set_option maxRecDepth 100000 in
theorem nw_p1 : ∀ w ∈ Bundle.passSAtoms (nE 1) "java/lang/RuntimeException" (nIx 1) (nRx 1), w ∈ dk_tbl ∨ w ∈ nW (nE 1) := (List.forall_mem_cons.mpr ⟨Or.inl (dk_m3 107 rfl rfl), (List.forall_mem_cons.mpr ⟨Or.inl (dk_m3 108 rfl rfl), (List.forall_mem_cons.mpr ⟨Or.inl (dk_m3 109 rfl rfl), (List.forall_mem_cons.mpr ⟨Or.inl (dk_m3 70 rfl rfl), (List.forall_mem_cons.mpr ⟨Or.inr (List.mem_of_getElem? (i := 1) rfl), (fun _ h => absurd h List.not_mem_nil)⟩)⟩)⟩)⟩)⟩)
set_option maxRecDepth 100000 in
theorem nw_l1 : ∀ w ∈ ([.methodLink RX7 (nIc 1) (Bundle.initS (nE 1)), .instantiable (nE 1) 6, .castable (nE 1) (nE 1), .selects (nE 1) Bundle.tFill0 Bundle.tFill0, .selects (nE 1) Bundle.tFill Bundle.tFill,
   .lays (nE 1) Bundle.tN "cause" "Ljava/lang/Throwable;", .lays (nE 1) Bundle.tN "stackTrace" Bundle.steD, .lays (nE 1) Bundle.tN "suppressedExceptions" Bundle.listD, .lays (nE 1) Bundle.tN "detailMessage" "Ljava/lang/String;",
   .isRef (.static Bundle.tN "UNASSIGNED_STACK" Bundle.steD), .isRef (.static Bundle.tN "SUPPRESSED_SENTINEL" Bundle.listD),
   .fieldLink Bundle.tN 198 Bundle.tN "backtrace" "Ljava/lang/Object;", .lays Bundle.tN Bundle.tN "backtrace" "Ljava/lang/Object;", .lays (nE 1) Bundle.tN "backtrace" "Ljava/lang/Object;"] : List Cond), w ∈ dk_tbl ∨ w ∈ nW (nE 1) := (List.forall_mem_cons.mpr ⟨Or.inl (dk_m3 106 rfl rfl), (List.forall_mem_cons.mpr ⟨Or.inl (dk_m3 97 rfl rfl), (List.forall_mem_cons.mpr ⟨Or.inr (List.mem_of_getElem? (i := 0) rfl), (List.forall_mem_cons.mpr ⟨Or.inl (dk_m3 99 rfl rfl), (List.forall_mem_cons.mpr ⟨Or.inl (dk_m3 57 rfl rfl), (List.forall_mem_cons.mpr ⟨Or.inl (dk_m3 100 rfl rfl), (List.forall_mem_cons.mpr ⟨Or.inl (dk_m3 101 rfl rfl), (List.forall_mem_cons.mpr ⟨Or.inl (dk_m3 102 rfl rfl), (List.forall_mem_cons.mpr ⟨Or.inl (dk_m3 103 rfl rfl), (List.forall_mem_cons.mpr ⟨Or.inr (List.mem_of_getElem? (i := 6) rfl), (List.forall_mem_cons.mpr ⟨Or.inr (List.mem_of_getElem? (i := 7) rfl), (List.forall_mem_cons.mpr ⟨Or.inl (dk_m3 45 rfl rfl), (List.forall_mem_cons.mpr ⟨Or.inl (dk_m3 44 rfl rfl), (List.forall_mem_cons.mpr ⟨Or.inl (dk_m3 104 rfl rfl), (fun _ h => absurd h List.not_mem_nil)⟩)⟩)⟩)⟩)⟩)⟩)⟩)⟩)⟩)⟩)⟩)⟩)⟩)⟩)
theorem nw_ok1 : ∀ w ∈ nw 1, w ∈ dk_tbl ∨ w ∈ nW (nE 1) := by
  show ∀ w ∈ Bundle.throwableAtoms ++ Bundle.throwableSAtoms ++ (Bundle.passSAtoms (nE 1) "java/lang/RuntimeException" (nIx 1) (nRx 1) ++ (Bundle.passSAtoms "java/lang/RuntimeException" "java/lang/Exception" 7 Bundle.six ++ Bundle.passSAtoms "java/lang/Exception" Bundle.tN 7 Bundle.six)) ++ _, _
  exact List.forall_mem_append.mpr ⟨List.forall_mem_append.mpr ⟨List.forall_mem_append.mpr ⟨nw_th _, nw_ts _⟩, List.forall_mem_append.mpr ⟨nw_p1, List.forall_mem_append.mpr ⟨nw_re _, nw_et _⟩⟩⟩, nw_l1⟩
theorem nk_1 : Cond.classLink RX7 (nIk 1) (nE 1) ∈ dk_tbl := dk_m3 96 rfl rfl
theorem ni_1 : Cond.initialized (nE 1) ∈ dk_tbl := dk_m1 14 rfl rfl
set_option maxRecDepth 100000 in
theorem nw_p2 : ∀ w ∈ Bundle.passSAtoms (nE 2) "java/lang/RuntimeException" (nIx 2) (nRx 2), w ∈ dk_tbl ∨ w ∈ nW (nE 2) := (List.forall_mem_cons.mpr ⟨Or.inl (dk_m4 36 rfl rfl), (List.forall_mem_cons.mpr ⟨Or.inl (dk_m4 37 rfl rfl), (List.forall_mem_cons.mpr ⟨Or.inl (dk_m4 38 rfl rfl), (List.forall_mem_cons.mpr ⟨Or.inl (dk_m3 70 rfl rfl), (List.forall_mem_cons.mpr ⟨Or.inr (List.mem_of_getElem? (i := 1) rfl), (fun _ h => absurd h List.not_mem_nil)⟩)⟩)⟩)⟩)⟩)
set_option maxRecDepth 100000 in
theorem nw_l2 : ∀ w ∈ ([.methodLink RX7 (nIc 2) (Bundle.initS (nE 2)), .instantiable (nE 2) 6, .castable (nE 2) (nE 2), .selects (nE 2) Bundle.tFill0 Bundle.tFill0, .selects (nE 2) Bundle.tFill Bundle.tFill,
   .lays (nE 2) Bundle.tN "cause" "Ljava/lang/Throwable;", .lays (nE 2) Bundle.tN "stackTrace" Bundle.steD, .lays (nE 2) Bundle.tN "suppressedExceptions" Bundle.listD, .lays (nE 2) Bundle.tN "detailMessage" "Ljava/lang/String;",
   .isRef (.static Bundle.tN "UNASSIGNED_STACK" Bundle.steD), .isRef (.static Bundle.tN "SUPPRESSED_SENTINEL" Bundle.listD),
   .fieldLink Bundle.tN 198 Bundle.tN "backtrace" "Ljava/lang/Object;", .lays Bundle.tN Bundle.tN "backtrace" "Ljava/lang/Object;", .lays (nE 2) Bundle.tN "backtrace" "Ljava/lang/Object;"] : List Cond), w ∈ dk_tbl ∨ w ∈ nW (nE 2) := (List.forall_mem_cons.mpr ⟨Or.inl (dk_m4 35 rfl rfl), (List.forall_mem_cons.mpr ⟨Or.inl (dk_m4 26 rfl rfl), (List.forall_mem_cons.mpr ⟨Or.inr (List.mem_of_getElem? (i := 0) rfl), (List.forall_mem_cons.mpr ⟨Or.inl (dk_m4 28 rfl rfl), (List.forall_mem_cons.mpr ⟨Or.inl (dk_m3 58 rfl rfl), (List.forall_mem_cons.mpr ⟨Or.inl (dk_m4 29 rfl rfl), (List.forall_mem_cons.mpr ⟨Or.inl (dk_m4 30 rfl rfl), (List.forall_mem_cons.mpr ⟨Or.inl (dk_m4 31 rfl rfl), (List.forall_mem_cons.mpr ⟨Or.inl (dk_m4 32 rfl rfl), (List.forall_mem_cons.mpr ⟨Or.inr (List.mem_of_getElem? (i := 6) rfl), (List.forall_mem_cons.mpr ⟨Or.inr (List.mem_of_getElem? (i := 7) rfl), (List.forall_mem_cons.mpr ⟨Or.inl (dk_m3 45 rfl rfl), (List.forall_mem_cons.mpr ⟨Or.inl (dk_m3 44 rfl rfl), (List.forall_mem_cons.mpr ⟨Or.inl (dk_m4 33 rfl rfl), (fun _ h => absurd h List.not_mem_nil)⟩)⟩)⟩)⟩)⟩)⟩)⟩)⟩)⟩)⟩)⟩)⟩)⟩)⟩)
theorem nw_ok2 : ∀ w ∈ nw 2, w ∈ dk_tbl ∨ w ∈ nW (nE 2) := by
  show ∀ w ∈ Bundle.throwableAtoms ++ Bundle.throwableSAtoms ++ (Bundle.passSAtoms (nE 2) "java/lang/RuntimeException" (nIx 2) (nRx 2) ++ (Bundle.passSAtoms "java/lang/RuntimeException" "java/lang/Exception" 7 Bundle.six ++ Bundle.passSAtoms "java/lang/Exception" Bundle.tN 7 Bundle.six)) ++ _, _
  exact List.forall_mem_append.mpr ⟨List.forall_mem_append.mpr ⟨List.forall_mem_append.mpr ⟨nw_th _, nw_ts _⟩, List.forall_mem_append.mpr ⟨nw_p2, List.forall_mem_append.mpr ⟨nw_re _, nw_et _⟩⟩⟩, nw_l2⟩
theorem nk_2 : Cond.classLink RX7 (nIk 2) (nE 2) ∈ dk_tbl := dk_m4 25 rfl rfl
theorem ni_2 : Cond.initialized (nE 2) ∈ dk_tbl := dk_m1 17 rfl rfl
theorem lk_n : Cond.classLink RL 13 "java/util/NoSuchElementException" ∈ dk_tbl := dk_m3 18 rfl rfl
theorem lk_s : Cond.classLink RL 15 "java/lang/IllegalStateException" ∈ dk_tbl := dk_m3 19 rfl rfl
theorem lk_x : Cond.classLink RL 37 "java/lang/IndexOutOfBoundsException" ∈ dk_tbl := dk_m4 20 rfl rfl
theorem nw_ok (k : Nat) : ∀ w ∈ nw k, w ∈ dk_tbl ∨ w ∈ nW (nE k) := by
  match k with
  | 0 => exact nw_ok0
  | 1 => exact nw_ok1
  | _ + 2 => exact nw_ok2
theorem nk_ok (k : Nat) : Cond.classLink RX7 (nIk k) (nE k) ∈ dk_tbl := by
  match k with
  | 0 => exact nk_0
  | 1 => exact nk_1
  | _ + 2 => exact nk_2
theorem ni_ok (k : Nat) : Cond.initialized (nE k) ∈ dk_tbl := by
  match k with
  | 0 => exact ni_0
  | 1 => exact ni_1
  | _ + 2 => exact ni_2
