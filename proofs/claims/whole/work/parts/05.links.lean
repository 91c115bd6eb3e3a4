theorem dk_m0 {w : Cond} (i : Nat) (h : (k2_sels lw_privs)[i]? = some w) (g : goodWord w = true) : w ∈ dk_tbl := List.mem_filter.mpr ⟨List.mem_append_left _ (List.mem_of_getElem? h), g⟩
theorem dk_m1 {w : Cond} (i : Nat) (h : tables_1_1[i]? = some w) (g : goodWord w = true) : w ∈ dk_tbl := List.mem_filter.mpr ⟨List.mem_append_right _ (List.mem_append_left _ (List.mem_of_getElem? h)), g⟩
theorem dk_m2 {w : Cond} (i : Nat) (h : tables_1_2[i]? = some w) (g : goodWord w = true) : w ∈ dk_tbl := List.mem_filter.mpr ⟨List.mem_append_right _ (List.mem_append_right _ (List.mem_append_left _ (List.mem_of_getElem? h))), g⟩
theorem dk_m3 {w : Cond} (i : Nat) (h : tables_1_3[i]? = some w) (g : goodWord w = true) : w ∈ dk_tbl := List.mem_filter.mpr ⟨List.mem_append_right _ (List.mem_append_right _ (List.mem_append_right _ (List.mem_append_left _ (List.mem_of_getElem? h)))), g⟩
theorem dk_m4 {w : Cond} (i : Nat) (h : tables_1_4[i]? = some w) (g : goodWord w = true) : w ∈ dk_tbl := List.mem_filter.mpr ⟨List.mem_append_right _ (List.mem_append_right _ (List.mem_append_right _ (List.mem_append_right _ (List.mem_append_left _ (List.mem_of_getElem? h))))), g⟩
theorem dk_m5 {w : Cond} (i : Nat) (h : tables_1_5[i]? = some w) (g : goodWord w = true) : w ∈ dk_tbl := List.mem_filter.mpr ⟨List.mem_append_right _ (List.mem_append_right _ (List.mem_append_right _ (List.mem_append_right _ (List.mem_append_right _ (List.mem_of_getElem? h))))), g⟩
theorem ne1X0 : RX0 ≠ "java/lang/invoke/MethodHandle" := by decide +kernel
theorem ne2X0 : RX0 ≠ "java/lang/invoke/VarHandle" := by decide +kernel
theorem ne1X1 : RX1 ≠ "java/lang/invoke/MethodHandle" := by decide +kernel
theorem ne2X1 : RX1 ≠ "java/lang/invoke/VarHandle" := by decide +kernel
theorem ne1X2 : RX2 ≠ "java/lang/invoke/MethodHandle" := by decide +kernel
theorem ne2X2 : RX2 ≠ "java/lang/invoke/VarHandle" := by decide +kernel
theorem ne1X3 : RX3 ≠ "java/lang/invoke/MethodHandle" := by decide +kernel
theorem ne2X3 : RX3 ≠ "java/lang/invoke/VarHandle" := by decide +kernel
theorem ne1X4 : RX4 ≠ "java/lang/invoke/MethodHandle" := by decide +kernel
theorem ne2X4 : RX4 ≠ "java/lang/invoke/VarHandle" := by decide +kernel
theorem ne1X5 : RX5 ≠ "java/lang/invoke/MethodHandle" := by decide +kernel
theorem ne2X5 : RX5 ≠ "java/lang/invoke/VarHandle" := by decide +kernel
theorem ne1X6 : RX6 ≠ "java/lang/invoke/MethodHandle" := by decide +kernel
theorem ne2X6 : RX6 ≠ "java/lang/invoke/VarHandle" := by decide +kernel
theorem ne1X7 : RX7 ≠ "java/lang/invoke/MethodHandle" := by decide +kernel
theorem ne2X7 : RX7 ≠ "java/lang/invoke/VarHandle" := by decide +kernel
theorem ne1X8 : RX8 ≠ "java/lang/invoke/MethodHandle" := by decide +kernel
theorem ne2X8 : RX8 ≠ "java/lang/invoke/VarHandle" := by decide +kernel
theorem ne1L : RL ≠ "java/lang/invoke/MethodHandle" := by decide +kernel
theorem ne2L : RL ≠ "java/lang/invoke/VarHandle" := by decide +kernel
theorem inX0 : ∀ w ∈ u_ws RX0 TX0 4, w ∈ dk_tbl := by
  show ∀ w ∈ [u_lay RX0 TX0 0, u_lay RX0 TX0 1, u_lay RX0 TX0 2, u_lay RX0 TX0 3], w ∈ dk_tbl
  exact (List.forall_mem_cons.mpr ⟨(dk_m1 84 rfl rfl), (List.forall_mem_cons.mpr ⟨(dk_m1 86 rfl rfl), (List.forall_mem_cons.mpr ⟨(dk_m1 88 rfl rfl), (List.forall_mem_cons.mpr ⟨(dk_m1 90 rfl rfl), (fun _ h => absurd h List.not_mem_nil)⟩)⟩)⟩)⟩)
theorem nnX0 : dk_N 0 := fun Cn T N h => by
  have h' : (RX0, TX0, 4) = (Cn, T, N) := Option.some.inj h
  cases h'
  exact ⟨⟨tyX0, tyX0_ok⟩, nmX0⟩
theorem inX1 : ∀ w ∈ u_ws RX1 TX1 4, w ∈ dk_tbl := by
  show ∀ w ∈ [u_lay RX1 TX1 0, u_lay RX1 TX1 1, u_lay RX1 TX1 2, u_lay RX1 TX1 3], w ∈ dk_tbl
  exact (List.forall_mem_cons.mpr ⟨(dk_m1 116 rfl rfl), (List.forall_mem_cons.mpr ⟨(dk_m1 118 rfl rfl), (List.forall_mem_cons.mpr ⟨(dk_m1 120 rfl rfl), (List.forall_mem_cons.mpr ⟨(dk_m1 122 rfl rfl), (fun _ h => absurd h List.not_mem_nil)⟩)⟩)⟩)⟩)
theorem nnX1 : dk_N 1 := fun Cn T N h => by
  have h' : (RX1, TX1, 4) = (Cn, T, N) := Option.some.inj h
  cases h'
  exact ⟨⟨tyX1, tyX1_ok⟩, nmX1⟩
theorem inX2 : ∀ w ∈ u_ws RX2 TX2 2, w ∈ dk_tbl := by
  show ∀ w ∈ [u_lay RX2 TX2 0, u_lay RX2 TX2 1], w ∈ dk_tbl
  exact (List.forall_mem_cons.mpr ⟨(dk_m1 136 rfl rfl), (List.forall_mem_cons.mpr ⟨(dk_m1 138 rfl rfl), (fun _ h => absurd h List.not_mem_nil)⟩)⟩)
theorem nnX2 : dk_N 2 := fun Cn T N h => by
  have h' : (RX2, TX2, 2) = (Cn, T, N) := Option.some.inj h
  cases h'
  exact ⟨⟨tyX2, tyX2_ok⟩, nmX2⟩
theorem inX3 : ∀ w ∈ u_ws RX3 TX3 8, w ∈ dk_tbl := by
  show ∀ w ∈ [u_lay RX3 TX3 0, u_lay RX3 TX3 1, u_lay RX3 TX3 2, u_lay RX3 TX3 3, u_lay RX3 TX3 4, u_lay RX3 TX3 5, u_lay RX3 TX3 6, u_lay RX3 TX3 7], w ∈ dk_tbl
  exact (List.forall_mem_cons.mpr ⟨(dk_m1 220 rfl rfl), (List.forall_mem_cons.mpr ⟨(dk_m1 222 rfl rfl), (List.forall_mem_cons.mpr ⟨(dk_m1 224 rfl rfl), (List.forall_mem_cons.mpr ⟨(dk_m1 226 rfl rfl), (List.forall_mem_cons.mpr ⟨(dk_m1 228 rfl rfl), (List.forall_mem_cons.mpr ⟨(dk_m1 230 rfl rfl), (List.forall_mem_cons.mpr ⟨(dk_m1 232 rfl rfl), (List.forall_mem_cons.mpr ⟨(dk_m1 234 rfl rfl), (fun _ h => absurd h List.not_mem_nil)⟩)⟩)⟩)⟩)⟩)⟩)⟩)⟩)
theorem nnX3 : dk_N 3 := fun Cn T N h => by
  have h' : (RX3, TX3, 8) = (Cn, T, N) := Option.some.inj h
  cases h'
  exact ⟨⟨tyX3, tyX3_ok⟩, nmX3⟩
theorem inX4 : ∀ w ∈ u_ws RX4 TX4 11, w ∈ dk_tbl := by
  show ∀ w ∈ [u_lay RX4 TX4 0, u_lay RX4 TX4 1, u_lay RX4 TX4 2, u_lay RX4 TX4 3, u_lay RX4 TX4 4, u_lay RX4 TX4 5, u_lay RX4 TX4 6, u_lay RX4 TX4 7, u_lay RX4 TX4 8, u_lay RX4 TX4 9, u_lay RX4 TX4 10], w ∈ dk_tbl
  exact (List.forall_mem_cons.mpr ⟨(dk_m1 175 rfl rfl), (List.forall_mem_cons.mpr ⟨(dk_m1 177 rfl rfl), (List.forall_mem_cons.mpr ⟨(dk_m1 179 rfl rfl), (List.forall_mem_cons.mpr ⟨(dk_m1 181 rfl rfl), (List.forall_mem_cons.mpr ⟨(dk_m1 183 rfl rfl), (List.forall_mem_cons.mpr ⟨(dk_m1 185 rfl rfl), (List.forall_mem_cons.mpr ⟨(dk_m1 187 rfl rfl), (List.forall_mem_cons.mpr ⟨(dk_m1 189 rfl rfl), (List.forall_mem_cons.mpr ⟨(dk_m1 191 rfl rfl), (List.forall_mem_cons.mpr ⟨(dk_m1 193 rfl rfl), (List.forall_mem_cons.mpr ⟨(dk_m1 195 rfl rfl), (fun _ h => absurd h List.not_mem_nil)⟩)⟩)⟩)⟩)⟩)⟩)⟩)⟩)⟩)⟩)⟩)
theorem nnX4 : dk_N 4 := fun Cn T N h => by
  have h' : (RX4, TX4, 11) = (Cn, T, N) := Option.some.inj h
  cases h'
  exact ⟨⟨tyX4, tyX4_ok⟩, nmX4⟩
theorem inX5 : ∀ w ∈ u_ws RX5 TX5 6, w ∈ dk_tbl := by
  show ∀ w ∈ [u_lay RX5 TX5 0, u_lay RX5 TX5 1, u_lay RX5 TX5 2, u_lay RX5 TX5 3, u_lay RX5 TX5 4, u_lay RX5 TX5 5], w ∈ dk_tbl
  exact (List.forall_mem_cons.mpr ⟨(dk_m1 43 rfl rfl), (List.forall_mem_cons.mpr ⟨(dk_m1 45 rfl rfl), (List.forall_mem_cons.mpr ⟨(dk_m1 47 rfl rfl), (List.forall_mem_cons.mpr ⟨(dk_m1 49 rfl rfl), (List.forall_mem_cons.mpr ⟨(dk_m1 51 rfl rfl), (List.forall_mem_cons.mpr ⟨(dk_m1 53 rfl rfl), (fun _ h => absurd h List.not_mem_nil)⟩)⟩)⟩)⟩)⟩)⟩)
theorem nnX5 : dk_N 5 := fun Cn T N h => by
  have h' : (RX5, TX5, 6) = (Cn, T, N) := Option.some.inj h
  cases h'
  exact ⟨⟨tyX5, tyX5_ok⟩, nmX5⟩
theorem inX6 : ∀ w ∈ u_ws RX6 TX6 9, w ∈ dk_tbl := by
  show ∀ w ∈ [u_lay RX6 TX6 0, u_lay RX6 TX6 1, u_lay RX6 TX6 2, u_lay RX6 TX6 3, u_lay RX6 TX6 4, u_lay RX6 TX6 5, u_lay RX6 TX6 6, u_lay RX6 TX6 7, u_lay RX6 TX6 8], w ∈ dk_tbl
  exact (List.forall_mem_cons.mpr ⟨(dk_m2 15 rfl rfl), (List.forall_mem_cons.mpr ⟨(dk_m2 17 rfl rfl), (List.forall_mem_cons.mpr ⟨(dk_m2 19 rfl rfl), (List.forall_mem_cons.mpr ⟨(dk_m2 21 rfl rfl), (List.forall_mem_cons.mpr ⟨(dk_m2 23 rfl rfl), (List.forall_mem_cons.mpr ⟨(dk_m2 25 rfl rfl), (List.forall_mem_cons.mpr ⟨(dk_m2 27 rfl rfl), (List.forall_mem_cons.mpr ⟨(dk_m2 29 rfl rfl), (List.forall_mem_cons.mpr ⟨(dk_m2 31 rfl rfl), (fun _ h => absurd h List.not_mem_nil)⟩)⟩)⟩)⟩)⟩)⟩)⟩)⟩)⟩)
theorem nnX6 : dk_N 6 := fun Cn T N h => by
  have h' : (RX6, TX6, 9) = (Cn, T, N) := Option.some.inj h
  cases h'
  exact ⟨⟨tyX6, tyX6_ok⟩, nmX6⟩
theorem inX7 : ∀ w ∈ u_ws RX7 TX7 5, w ∈ dk_tbl := by
  show ∀ w ∈ [u_lay RX7 TX7 0, u_lay RX7 TX7 1, u_lay RX7 TX7 2, u_lay RX7 TX7 3, u_lay RX7 TX7 4], w ∈ dk_tbl
  exact (List.forall_mem_cons.mpr ⟨(dk_m2 39 rfl rfl), (List.forall_mem_cons.mpr ⟨(dk_m2 41 rfl rfl), (List.forall_mem_cons.mpr ⟨(dk_m2 43 rfl rfl), (List.forall_mem_cons.mpr ⟨(dk_m2 45 rfl rfl), (List.forall_mem_cons.mpr ⟨(dk_m2 47 rfl rfl), (fun _ h => absurd h List.not_mem_nil)⟩)⟩)⟩)⟩)⟩)
theorem nnX7 : dk_N 7 := fun Cn T N h => by
  have h' : (RX7, TX7, 5) = (Cn, T, N) := Option.some.inj h
  cases h'
  exact ⟨⟨tyX7, tyX7_ok⟩, nmX7⟩
theorem inX8 : ∀ w ∈ u_ws RX8 TX8 30, w ∈ dk_tbl := by
  show ∀ w ∈ [u_lay RX8 TX8 0, u_lay RX8 TX8 1, u_lay RX8 TX8 2, u_lay RX8 TX8 3, u_lay RX8 TX8 4, u_lay RX8 TX8 5, u_lay RX8 TX8 6, u_lay RX8 TX8 7, u_lay RX8 TX8 8, u_lay RX8 TX8 9, u_lay RX8 TX8 10, u_lay RX8 TX8 11, u_lay RX8 TX8 12, u_lay RX8 TX8 13, u_lay RX8 TX8 14, u_lay RX8 TX8 15, u_lay RX8 TX8 16, u_lay RX8 TX8 17, u_lay RX8 TX8 18, u_lay RX8 TX8 19, u_lay RX8 TX8 20, u_lay RX8 TX8 21, u_lay RX8 TX8 22, u_lay RX8 TX8 23, u_lay RX8 TX8 24, u_lay RX8 TX8 25, u_lay RX8 TX8 26, u_lay RX8 TX8 27, u_lay RX8 TX8 28, u_lay RX8 TX8 29], w ∈ dk_tbl
  exact (List.forall_mem_cons.mpr ⟨(dk_m4 94 rfl rfl), (List.forall_mem_cons.mpr ⟨(dk_m4 96 rfl rfl), (List.forall_mem_cons.mpr ⟨(dk_m4 98 rfl rfl), (List.forall_mem_cons.mpr ⟨(dk_m4 100 rfl rfl), (List.forall_mem_cons.mpr ⟨(dk_m4 102 rfl rfl), (List.forall_mem_cons.mpr ⟨(dk_m4 104 rfl rfl), (List.forall_mem_cons.mpr ⟨(dk_m4 106 rfl rfl), (List.forall_mem_cons.mpr ⟨(dk_m4 108 rfl rfl), (List.forall_mem_cons.mpr ⟨(dk_m4 110 rfl rfl), (List.forall_mem_cons.mpr ⟨(dk_m4 112 rfl rfl), (List.forall_mem_cons.mpr ⟨(dk_m4 114 rfl rfl), (List.forall_mem_cons.mpr ⟨(dk_m4 116 rfl rfl), (List.forall_mem_cons.mpr ⟨(dk_m4 118 rfl rfl), (List.forall_mem_cons.mpr ⟨(dk_m4 120 rfl rfl), (List.forall_mem_cons.mpr ⟨(dk_m4 122 rfl rfl), (List.forall_mem_cons.mpr ⟨(dk_m4 124 rfl rfl), (List.forall_mem_cons.mpr ⟨(dk_m4 126 rfl rfl), (List.forall_mem_cons.mpr ⟨(dk_m4 128 rfl rfl), (List.forall_mem_cons.mpr ⟨(dk_m4 130 rfl rfl), (List.forall_mem_cons.mpr ⟨(dk_m4 132 rfl rfl), (List.forall_mem_cons.mpr ⟨(dk_m4 134 rfl rfl), (List.forall_mem_cons.mpr ⟨(dk_m4 136 rfl rfl), (List.forall_mem_cons.mpr ⟨(dk_m4 138 rfl rfl), (List.forall_mem_cons.mpr ⟨(dk_m4 140 rfl rfl), (List.forall_mem_cons.mpr ⟨(dk_m4 142 rfl rfl), (List.forall_mem_cons.mpr ⟨(dk_m4 144 rfl rfl), (List.forall_mem_cons.mpr ⟨(dk_m4 146 rfl rfl), (List.forall_mem_cons.mpr ⟨(dk_m4 148 rfl rfl), (List.forall_mem_cons.mpr ⟨(dk_m4 150 rfl rfl), (List.forall_mem_cons.mpr ⟨(dk_m4 152 rfl rfl), (fun _ h => absurd h List.not_mem_nil)⟩)⟩)⟩)⟩)⟩)⟩)⟩)⟩)⟩)⟩)⟩)⟩)⟩)⟩)⟩)⟩)⟩)⟩)⟩)⟩)⟩)⟩)⟩)⟩)⟩)⟩)⟩)⟩)⟩)⟩)
theorem nnX8 : dk_N 8 := fun Cn T N h => by
  have h' : (RX8, TX8, 30) = (Cn, T, N) := Option.some.inj h
  cases h'
  exact ⟨⟨tyX8, tyX8_ok⟩, nmX8⟩
theorem oi1 : Cond.instanceMethod objectInit ∈ dk_tbl := (dk_m1 24 rfl rfl)
theorem oi2 : Cond.code objectInit ⟨#[0xb1]⟩ 1 none ∈ dk_tbl := (dk_m1 25 rfl rfl)
theorem mm1min : Cond.static Lib.Math.min.name ∈ dk_tbl := (dk_m3 13 rfl rfl)
theorem mm3min : Cond.code Lib.Math.min.name Lib.Math.min.code 2 (some .int) ∈ dk_tbl := (dk_m3 14 rfl rfl)
theorem mm1max : Cond.static Lib.Math.max.name ∈ dk_tbl := (dk_m3 203 rfl rfl)
theorem mm3max : Cond.code Lib.Math.max.name Lib.Math.max.code 2 (some .int) ∈ dk_tbl := (dk_m3 204 rfl rfl)
theorem mm2 : Cond.initialized "java/lang/Math" ∈ dk_tbl := (dk_m1 16 rfl rfl)
theorem ac2 : Cond.native arraycopyName ∈ dk_tbl := (dk_m3 138 rfl rfl)
theorem ac3 : Cond.static arraycopyName ∈ dk_tbl := (dk_m3 137 rfl rfl)
theorem ac4 : Cond.initialized "java/lang/System" ∈ dk_tbl := (dk_m1 15 rfl rfl)
theorem ar_int : Cond.arrayClass .int ∈ dk_tbl := (dk_m1 56 rfl rfl)
theorem ar_boolean : Cond.arrayClass .boolean ∈ dk_tbl := (dk_m1 57 rfl rfl)
theorem ar_float : Cond.arrayClass .float ∈ dk_tbl := (dk_m1 237 rfl rfl)
theorem ar_long : Cond.arrayClass .long ∈ dk_tbl := (dk_m5 96 rfl rfl)
theorem ar_double : Cond.arrayClass .double ∈ dk_tbl := (dk_m5 97 rfl rfl)
theorem oiX0_3 : Cond.methodLink RX0 3 objectInit ∈ dk_tbl := (dk_m1 71 rfl rfl)
theorem fX0_9 : dk_F RX0 9 0 2 := ⟨RX0, TX0, rfl, inX0, by decide, (dk_m1 78 rfl rfl)⟩
theorem fX0_15 : dk_F RX0 15 0 3 := ⟨RX0, TX0, rfl, inX0, by decide, (dk_m1 81 rfl rfl)⟩
theorem oiX1_1 : Cond.methodLink RX1 1 objectInit ∈ dk_tbl := (dk_m1 99 rfl rfl)
theorem fX1_7 : dk_F RX1 7 1 0 := ⟨RX1, TX1, rfl, inX1, by decide, (dk_m1 100 rfl rfl)⟩
theorem fX1_13 : dk_F RX1 13 1 2 := ⟨RX1, TX1, rfl, inX1, by decide, (dk_m1 108 rfl rfl)⟩
theorem fX1_16 : dk_F RX1 16 1 1 := ⟨RX1, TX1, rfl, inX1, by decide, (dk_m1 104 rfl rfl)⟩
theorem fX1_19 : dk_F RX1 19 1 3 := ⟨RX1, TX1, rfl, inX1, by decide, (dk_m1 112 rfl rfl)⟩
theorem oiX2_1 : Cond.methodLink RX2 1 objectInit ∈ dk_tbl := (dk_m1 131 rfl rfl)
theorem oiX3_3 : Cond.methodLink RX3 3 objectInit ∈ dk_tbl := (dk_m1 203 rfl rfl)
theorem fX3_11 : dk_F RX3 11 3 0 := ⟨RX3, TX3, rfl, inX3, by decide, (dk_m1 204 rfl rfl)⟩
theorem fzX3_0 : dk_Fz RX3 3 0 (.array .float) := ⟨nnX3, fun Cn T N h => by
  have h' : (RX3, TX3, 8) = (Cn, T, N) := Option.some.inj h
  cases h'
  exact ⟨rfl, rfl, by decide +kernel⟩⟩
theorem fX3_17 : dk_F RX3 17 3 1 := ⟨RX3, TX3, rfl, inX3, by decide, (dk_m1 205 rfl rfl)⟩
theorem fzX3_1 : dk_Fz RX3 3 1 (.array .float) := ⟨nnX3, fun Cn T N h => by
  have h' : (RX3, TX3, 8) = (Cn, T, N) := Option.some.inj h
  cases h'
  exact ⟨rfl, rfl, by decide +kernel⟩⟩
theorem fX3_20 : dk_F RX3 20 3 2 := ⟨RX3, TX3, rfl, inX3, by decide, (dk_m1 206 rfl rfl)⟩
theorem fzX3_2 : dk_Fz RX3 3 2 (.array .float) := ⟨nnX3, fun Cn T N h => by
  have h' : (RX3, TX3, 8) = (Cn, T, N) := Option.some.inj h
  cases h'
  exact ⟨rfl, rfl, by decide +kernel⟩⟩
theorem fX3_23 : dk_F RX3 23 3 3 := ⟨RX3, TX3, rfl, inX3, by decide, (dk_m1 207 rfl rfl)⟩
theorem fzX3_3 : dk_Fz RX3 3 3 (.array .int) := ⟨nnX3, fun Cn T N h => by
  have h' : (RX3, TX3, 8) = (Cn, T, N) := Option.some.inj h
  cases h'
  exact ⟨rfl, rfl, by decide +kernel⟩⟩
theorem fX3_27 : dk_F RX3 27 3 4 := ⟨RX3, TX3, rfl, inX3, by decide, (dk_m1 210 rfl rfl)⟩
theorem fzX3_4 : dk_Fz RX3 3 4 (.array .int) := ⟨nnX3, fun Cn T N h => by
  have h' : (RX3, TX3, 8) = (Cn, T, N) := Option.some.inj h
  cases h'
  exact ⟨rfl, rfl, by decide +kernel⟩⟩
theorem fX3_30 : dk_F RX3 30 3 5 := ⟨RX3, TX3, rfl, inX3, by decide, (dk_m1 213 rfl rfl)⟩
theorem fzX3_5 : dk_Fz RX3 3 5 (.array .int) := ⟨nnX3, fun Cn T N h => by
  have h' : (RX3, TX3, 8) = (Cn, T, N) := Option.some.inj h
  cases h'
  exact ⟨rfl, rfl, by decide +kernel⟩⟩
theorem fX3_33 : dk_F RX3 33 3 6 := ⟨RX3, TX3, rfl, inX3, by decide, (dk_m1 216 rfl rfl)⟩
theorem fzX3_6 : dk_Fz RX3 3 6 (.array .int) := ⟨nnX3, fun Cn T N h => by
  have h' : (RX3, TX3, 8) = (Cn, T, N) := Option.some.inj h
  cases h'
  exact ⟨rfl, rfl, by decide +kernel⟩⟩
theorem fX5_15 : dk_F RX5 15 5 1 := ⟨RX5, TX5, rfl, inX5, by decide, (dk_m1 34 rfl rfl)⟩
theorem mX5_42 : dk_LV RX5 42 yX5_value cX5_value 3 (some .int) 2 5 := ⟨⟨⟨(dk_m3 189 rfl rfl), (dk_m1 2 rfl rfl), (dk_m2 185 rfl rfl)⟩, ne1X5, ne2X5, by decide +kernel⟩, ⟨(dk_m2 183 rfl rfl), (dk_m2 184 rfl rfl)⟩, _, rfl, rfl⟩
theorem fX5_26 : dk_F RX5 26 5 4 := ⟨RX5, TX5, rfl, inX5, by decide, (dk_m1 38 rfl rfl)⟩
theorem mX5_38 : dk_LV RX5 38 yX5_standsBefore cX5_standsBefore 5 (some .boolean) 2 5 := ⟨⟨⟨(dk_m3 185 rfl rfl), (dk_m1 2 rfl rfl), (dk_m3 188 rfl rfl)⟩, ne1X5, ne2X5, by decide +kernel⟩, ⟨(dk_m3 187 rfl rfl), (dk_m0 19 rfl rfl)⟩, _, rfl, rfl⟩
theorem fX3_121 : dk_F RX3 121 5 4 := ⟨RX5, TX5, rfl, inX5, by decide, (dk_m1 39 rfl rfl)⟩
theorem mX3_145 : dk_LV RX3 145 yX5_differentValues cX5_differentValues 4 (some .int) 1 5 := ⟨⟨⟨(dk_m3 181 rfl rfl), (dk_m1 2 rfl rfl), (dk_m3 184 rfl rfl)⟩, ne1X5, ne2X5, by decide +kernel⟩, ⟨(dk_m3 182 rfl rfl), (dk_m3 183 rfl rfl)⟩, _, rfl, rfl⟩
theorem mmX5_46 : Cond.methodLink RX5 46 Lib.Math.min.name ∈ dk_tbl := (dk_m3 194 rfl rfl)
theorem mmX5_51 : Cond.methodLink RX5 51 Lib.Math.max.name ∈ dk_tbl := (dk_m3 202 rfl rfl)
theorem mX3_142 : dk_LV RX3 142 yX5_greatest cX5_greatest 4 (some .int) 1 5 := ⟨⟨⟨(dk_m3 198 rfl rfl), (dk_m1 2 rfl rfl), (dk_m3 201 rfl rfl)⟩, ne1X5, ne2X5, by decide +kernel⟩, ⟨(dk_m3 199 rfl rfl), (dk_m3 200 rfl rfl)⟩, _, rfl, rfl⟩
theorem mX3_135 : dk_LV RX3 135 yX5_least cX5_least 4 (some .int) 1 5 := ⟨⟨⟨(dk_m3 190 rfl rfl), (dk_m1 2 rfl rfl), (dk_m3 193 rfl rfl)⟩, ne1X5, ne2X5, by decide +kernel⟩, ⟨(dk_m3 191 rfl rfl), (dk_m3 192 rfl rfl)⟩, _, rfl, rfl⟩
theorem fX3_126 : dk_F RX3 126 0 1 := ⟨RX0, TX0, rfl, inX0, by decide, (dk_m1 76 rfl rfl)⟩
theorem fX3_129 : dk_F RX3 129 0 2 := ⟨RX0, TX0, rfl, inX0, by decide, (dk_m1 80 rfl rfl)⟩
theorem mX3_111 : dk_LS RX3 111 yX3_shareOfOneValue cX3_shareOfOneValue 2 (some .float) 2 := ⟨⟨⟨(dk_m3 178 rfl rfl), (dk_m1 7 rfl rfl), (dk_m3 180 rfl rfl)⟩, ne1X3, ne2X3, by decide +kernel⟩, (dk_m3 179 rfl rfl)⟩
theorem fX3_132 : dk_F RX3 132 0 3 := ⟨RX0, TX0, rfl, inX0, by decide, (dk_m1 83 rfl rfl)⟩
theorem mX3_138 : dk_LS RX3 138 yX3_shareOfSpan cX3_shareOfSpan 7 (some .float) 3 := ⟨⟨⟨(dk_m3 195 rfl rfl), (dk_m1 7 rfl rfl), (dk_m3 197 rfl rfl)⟩, ne1X3, ne2X3, by decide +kernel⟩, (dk_m3 196 rfl rfl)⟩
theorem fX3_78 : dk_F RX3 78 4 5 := ⟨RX4, TX4, rfl, inX4, by decide, (dk_m1 157 rfl rfl)⟩
theorem fX3_81 : dk_F RX3 81 4 1 := ⟨RX4, TX4, rfl, inX4, by decide, (dk_m1 145 rfl rfl)⟩
theorem fX3_85 : dk_F RX3 85 4 0 := ⟨RX4, TX4, rfl, inX4, by decide, (dk_m1 142 rfl rfl)⟩
theorem fX3_89 : dk_F RX3 89 0 0 := ⟨RX0, TX0, rfl, inX0, by decide, (dk_m1 73 rfl rfl)⟩
theorem mX3_94 : dk_LS RX3 94 yX3_shareOf cX3_shareOf 3 (some .float) 2 := ⟨⟨⟨(dk_m3 175 rfl rfl), (dk_m1 7 rfl rfl), (dk_m3 177 rfl rfl)⟩, ne1X3, ne2X3, by decide +kernel⟩, (dk_m3 176 rfl rfl)⟩
theorem fX3_98 : dk_F RX3 98 4 6 := ⟨RX4, TX4, rfl, inX4, by decide, (dk_m1 161 rfl rfl)⟩
theorem fX3_101 : dk_F RX3 101 4 2 := ⟨RX4, TX4, rfl, inX4, by decide, (dk_m1 148 rfl rfl)⟩
theorem fX3_105 : dk_F RX3 105 1 0 := ⟨RX1, TX1, rfl, inX1, by decide, (dk_m1 102 rfl rfl)⟩
theorem fX3_108 : dk_F RX3 108 1 1 := ⟨RX1, TX1, rfl, inX1, by decide, (dk_m1 106 rfl rfl)⟩
theorem fX3_115 : dk_F RX3 115 1 2 := ⟨RX1, TX1, rfl, inX1, by decide, (dk_m1 110 rfl rfl)⟩
theorem fX3_118 : dk_F RX3 118 1 3 := ⟨RX1, TX1, rfl, inX1, by decide, (dk_m1 114 rfl rfl)⟩
theorem gsX3_69 : Cond.fieldLink RX3 69 RX3 (dk_sn 0) "[I" ∈ dk_tbl := (dk_m3 208 rfl rfl)
theorem gsX3_72 : Cond.fieldLink RX3 72 RX3 (dk_sn 1) "[I" ∈ dk_tbl := (dk_m3 210 rfl rfl)
theorem gsX3_75 : Cond.fieldLink RX3 75 RX3 (dk_sn 2) "[I" ∈ dk_tbl := (dk_m3 212 rfl rfl)
theorem fX5_18 : dk_F RX5 18 5 2 := ⟨RX5, TX5, rfl, inX5, by decide, (dk_m1 35 rfl rfl)⟩
theorem fX3_152 : dk_F RX3 152 3 7 := ⟨RX3, TX3, rfl, inX3, by decide, (dk_m1 219 rfl rfl)⟩
theorem fwX3_7 : dk_Fw 3 7 .float := ⟨nnX3, fun Cn T N h => by
  have h' : (RX3, TX3, 8) = (Cn, T, N) := Option.some.inj h
  cases h'
  exact ⟨rfl, by decide +kernel⟩⟩
theorem mX3_168 : dk_LV RX3 168 yX3_takeWay cX3_takeWay 5 none 4 3 := ⟨⟨⟨(dk_m3 222 rfl rfl), (dk_m1 7 rfl rfl), (dk_m3 225 rfl rfl)⟩, ne1X3, ne2X3, by decide +kernel⟩, ⟨(dk_m3 224 rfl rfl), (dk_m0 22 rfl rfl)⟩, _, rfl, rfl⟩
theorem mX3_179 : dk_LV RX3 179 yX5_hasIndex cX5_hasIndex 3 (some .boolean) 2 5 := ⟨⟨⟨(dk_m3 230 rfl rfl), (dk_m1 2 rfl rfl), (dk_m2 92 rfl rfl)⟩, ne1X5, ne2X5, by decide +kernel⟩, ⟨(dk_m2 90 rfl rfl), (dk_m2 91 rfl rfl)⟩, _, rfl, rfl⟩
theorem mX3_182 : dk_LV RX3 182 yX3_considerWay cX3_considerWay 6 none 5 3 := ⟨⟨⟨(dk_m3 231 rfl rfl), (dk_m1 7 rfl rfl), (dk_m3 234 rfl rfl)⟩, ne1X3, ne2X3, by decide +kernel⟩, ⟨(dk_m3 233 rfl rfl), (dk_m0 24 rfl rfl)⟩, _, rfl, rfl⟩
theorem mX3_56 : dk_LV RX3 56 yX1_ties cX1_ties 2 (some .boolean) 1 1 := ⟨⟨⟨(dk_m2 194 rfl rfl), (dk_m1 5 rfl rfl), (dk_m2 197 rfl rfl)⟩, ne1X1, ne2X1, by decide +kernel⟩, ⟨(dk_m2 195 rfl rfl), (dk_m2 196 rfl rfl)⟩, _, rfl, rfl⟩
theorem mX3_62 : dk_LV RX3 62 yX1_partnerOf cX1_partnerOf 2 (some .int) 1 1 := ⟨⟨⟨(dk_m2 198 rfl rfl), (dk_m1 5 rfl rfl), (dk_m2 201 rfl rfl)⟩, ne1X1, ne2X1, by decide +kernel⟩, ⟨(dk_m2 199 rfl rfl), (dk_m2 200 rfl rfl)⟩, _, rfl, rfl⟩
theorem mX3_65 : dk_LV RX3 65 yX3_isBefore cX3_isBefore 4 (some .boolean) 2 3 := ⟨⟨⟨(dk_m2 202 rfl rfl), (dk_m1 7 rfl rfl), (dk_m2 205 rfl rfl)⟩, ne1X3, ne2X3, by decide +kernel⟩, ⟨(dk_m2 204 rfl rfl), (dk_m0 6 rfl rfl)⟩, _, rfl, rfl⟩
theorem mX3_186 : dk_LV RX3 186 yX1_columnOf cX1_columnOf 2 (some .int) 1 1 := ⟨⟨⟨(dk_m4 0 rfl rfl), (dk_m1 5 rfl rfl), (dk_m2 239 rfl rfl)⟩, ne1X1, ne2X1, by decide +kernel⟩, ⟨(dk_m2 237 rfl rfl), (dk_m2 238 rfl rfl)⟩, _, rfl, rfl⟩
theorem mX3_164 : dk_LV RX3 164 yX3_joinShare cX3_joinShare 4 (some .float) 3 3 := ⟨⟨⟨(dk_m4 1 rfl rfl), (dk_m1 7 rfl rfl), (dk_m4 4 rfl rfl)⟩, ne1X3, ne2X3, by decide +kernel⟩, ⟨(dk_m4 3 rfl rfl), (dk_m0 26 rfl rfl)⟩, _, rfl, rfl⟩
theorem mX3_172 : dk_LV RX3 172 yX3_considerCondition cX3_considerCondition 7 none 3 3 := ⟨⟨⟨(dk_m3 226 rfl rfl), (dk_m1 7 rfl rfl), (dk_m3 229 rfl rfl)⟩, ne1X3, ne2X3, by decide +kernel⟩, ⟨(dk_m3 228 rfl rfl), (dk_m0 23 rfl rfl)⟩, _, rfl, rfl⟩
theorem mX3_160 : dk_LV RX3 160 yX3_tiesBack cX3_tiesBack 3 (some .boolean) 2 3 := ⟨⟨⟨(dk_m3 235 rfl rfl), (dk_m1 7 rfl rfl), (dk_m2 193 rfl rfl)⟩, ne1X3, ne2X3, by decide +kernel⟩, ⟨(dk_m2 191 rfl rfl), (dk_m2 192 rfl rfl)⟩, _, rfl, rfl⟩
theorem mX3_176 : dk_LV RX3 176 yX3_considerJoin cX3_considerJoin 8 none 3 3 := ⟨⟨⟨(dk_m3 236 rfl rfl), (dk_m1 7 rfl rfl), (dk_m3 239 rfl rfl)⟩, ne1X3, ne2X3, by decide +kernel⟩, ⟨(dk_m3 238 rfl rfl), (dk_m0 25 rfl rfl)⟩, _, rfl, rfl⟩
theorem fX3_40 : dk_F RX3 40 4 4 := ⟨RX4, TX4, rfl, inX4, by decide, (dk_m1 153 rfl rfl)⟩
theorem mX3_148 : dk_LV RX3 148 yX3_takeBestWay cX3_takeBestWay 4 none 2 3 := ⟨⟨⟨(dk_m3 218 rfl rfl), (dk_m1 7 rfl rfl), (dk_m3 221 rfl rfl)⟩, ne1X3, ne2X3, by decide +kernel⟩, ⟨(dk_m3 220 rfl rfl), (dk_m0 21 rfl rfl)⟩, _, rfl, rfl⟩
theorem mX3_156 : dk_LV RX3 156 yX3_countBehind cX3_countBehind 7 (some .float) 3 3 := ⟨⟨⟨(dk_m4 5 rfl rfl), (dk_m1 7 rfl rfl), (dk_m4 8 rfl rfl)⟩, ne1X3, ne2X3, by decide +kernel⟩, ⟨(dk_m4 7 rfl rfl), (dk_m0 27 rfl rfl)⟩, _, rfl, rfl⟩
theorem mX3_36 : dk_LV RX3 36 yX3_measureShares cX3_measureShares 4 none 1 3 := ⟨⟨⟨(dk_m3 171 rfl rfl), (dk_m1 7 rfl rfl), (dk_m3 174 rfl rfl)⟩, ne1X3, ne2X3, by decide +kernel⟩, ⟨(dk_m3 173 rfl rfl), (dk_m0 18 rfl rfl)⟩, _, rfl, rfl⟩
theorem mX3_44 : dk_LS RX3 44 yX3_ordersOf cX3_ordersOf 1 (some (.array .int)) 1 := ⟨⟨⟨(dk_m3 205 rfl rfl), (dk_m1 7 rfl rfl), (dk_m3 207 rfl rfl)⟩, ne1X3, ne2X3, by decide +kernel⟩, (dk_m3 206 rfl rfl)⟩
theorem mX3_48 : dk_LV RX3 48 yX3_tryOrder cX3_tryOrder 7 (some .float) 3 3 := ⟨⟨⟨(dk_m3 214 rfl rfl), (dk_m1 7 rfl rfl), (dk_m3 217 rfl rfl)⟩, ne1X3, ne2X3, by decide +kernel⟩, ⟨(dk_m3 216 rfl rfl), (dk_m0 20 rfl rfl)⟩, _, rfl, rfl⟩
theorem mX3_52 : dk_LS RX3 52 yX3_orderCountOf cX3_orderCountOf 1 (some .int) 1 := ⟨⟨⟨(dk_m4 9 rfl rfl), (dk_m1 7 rfl rfl), (dk_m4 11 rfl rfl)⟩, ne1X3, ne2X3, by decide +kernel⟩, (dk_m4 10 rfl rfl)⟩
theorem oiX4_3 : Cond.methodLink RX4 3 objectInit ∈ dk_tbl := (dk_m1 63 rfl rfl)
theorem anX4_11 : Cond.classLink RX4 11 RX5 ∈ dk_tbl := (dk_m1 64 rfl rfl)
theorem fX4_13 : dk_F RX4 13 4 0 := ⟨RX4, TX4, rfl, inX4, by decide, (dk_m1 141 rfl rfl)⟩
theorem fzX4_0 : dk_Fz RX4 4 0 (.array (.object "QueryDesk$Table")) := ⟨nnX4, fun Cn T N h => by
  have h' : (RX4, TX4, 11) = (Cn, T, N) := Option.some.inj h
  cases h'
  exact ⟨rfl, rfl, by decide +kernel⟩⟩
theorem anX4_17 : Cond.classLink RX4 17 RX0 ∈ dk_tbl := (dk_m1 65 rfl rfl)
theorem fX4_19 : dk_F RX4 19 4 1 := ⟨RX4, TX4, rfl, inX4, by decide, (dk_m1 144 rfl rfl)⟩
theorem fzX4_1 : dk_Fz RX4 4 1 (.array (.object "QueryDesk$Condition")) := ⟨nnX4, fun Cn T N h => by
  have h' : (RX4, TX4, 11) = (Cn, T, N) := Option.some.inj h
  cases h'
  exact ⟨rfl, rfl, by decide +kernel⟩⟩
theorem mkX4_17 : dk_Mk RX4 17 0 := ⟨RX0, TX0, tyX0, rfl, inX0, tyX0_ok, by decide +kernel, (dk_m1 65 rfl rfl), (dk_m1 67 rfl rfl), (dk_m1 4 rfl rfl)⟩
theorem mX4_23 : dk_LN RX4 23 yX0_init cX0_init 1 0 := ⟨⟨(dk_m1 4 rfl rfl), (dk_m1 70 rfl rfl), (dk_m1 69 rfl rfl), rfl⟩, ⟨ne1X0, ne2X0, by decide +kernel⟩, fun G U h => h.2.2.1.1⟩
theorem anX4_24 : Cond.classLink RX4 24 RX1 ∈ dk_tbl := (dk_m1 93 rfl rfl)
theorem fX4_26 : dk_F RX4 26 4 2 := ⟨RX4, TX4, rfl, inX4, by decide, (dk_m1 147 rfl rfl)⟩
theorem fzX4_2 : dk_Fz RX4 4 2 (.array (.object "QueryDesk$Join")) := ⟨nnX4, fun Cn T N h => by
  have h' : (RX4, TX4, 11) = (Cn, T, N) := Option.some.inj h
  cases h'
  exact ⟨rfl, rfl, by decide +kernel⟩⟩
theorem mkX4_24 : dk_Mk RX4 24 1 := ⟨RX1, TX1, tyX1, rfl, inX1, tyX1_ok, by decide +kernel, (dk_m1 93 rfl rfl), (dk_m1 95 rfl rfl), (dk_m1 5 rfl rfl)⟩
theorem mX4_30 : dk_LN RX4 30 yX1_init cX1_init 1 0 := ⟨⟨(dk_m1 5 rfl rfl), (dk_m1 98 rfl rfl), (dk_m1 97 rfl rfl), rfl⟩, ⟨ne1X1, ne2X1, by decide +kernel⟩, fun G U h => h.2.2.1.2.1⟩
theorem anX4_31 : Cond.classLink RX4 31 RX2 ∈ dk_tbl := (dk_m1 125 rfl rfl)
theorem fX4_33 : dk_F RX4 33 4 3 := ⟨RX4, TX4, rfl, inX4, by decide, (dk_m1 150 rfl rfl)⟩
theorem fzX4_3 : dk_Fz RX4 4 3 (.array (.object "QueryDesk$Output")) := ⟨nnX4, fun Cn T N h => by
  have h' : (RX4, TX4, 11) = (Cn, T, N) := Option.some.inj h
  cases h'
  exact ⟨rfl, rfl, by decide +kernel⟩⟩
theorem mkX4_31 : dk_Mk RX4 31 2 := ⟨RX2, TX2, tyX2, rfl, inX2, tyX2_ok, by decide +kernel, (dk_m1 125 rfl rfl), (dk_m1 127 rfl rfl), (dk_m1 6 rfl rfl)⟩
theorem mX4_37 : dk_LN RX4 37 yX2_init cX2_init 1 0 := ⟨⟨(dk_m1 6 rfl rfl), (dk_m1 130 rfl rfl), (dk_m1 129 rfl rfl), rfl⟩, ⟨ne1X2, ne2X2, by decide +kernel⟩, fun G U h => h.2.2.1.2.2⟩
theorem fX4_38 : dk_F RX4 38 4 8 := ⟨RX4, TX4, rfl, inX4, by decide, (dk_m1 167 rfl rfl)⟩
theorem fwX4_8 : dk_Fw 4 8 .int := ⟨nnX4, fun Cn T N h => by
  have h' : (RX4, TX4, 11) = (Cn, T, N) := Option.some.inj h
  cases h'
  exact ⟨rfl, by decide +kernel⟩⟩
theorem fX4_42 : dk_F RX4 42 4 10 := ⟨RX4, TX4, rfl, inX4, by decide, (dk_m1 173 rfl rfl)⟩
theorem fwX4_10 : dk_Fw 4 10 .int := ⟨nnX4, fun Cn T N h => by
  have h' : (RX4, TX4, 11) = (Cn, T, N) := Option.some.inj h
  cases h'
  exact ⟨rfl, by decide +kernel⟩⟩
theorem fX4_45 : dk_F RX4 45 4 4 := ⟨RX4, TX4, rfl, inX4, by decide, (dk_m1 152 rfl rfl)⟩
theorem fwX4_4 : dk_Fw 4 4 .int := ⟨nnX4, fun Cn T N h => by
  have h' : (RX4, TX4, 11) = (Cn, T, N) := Option.some.inj h
  cases h'
  exact ⟨rfl, by decide +kernel⟩⟩
theorem fX4_48 : dk_F RX4 48 4 5 := ⟨RX4, TX4, rfl, inX4, by decide, (dk_m1 156 rfl rfl)⟩
theorem fwX4_5 : dk_Fw 4 5 .int := ⟨nnX4, fun Cn T N h => by
  have h' : (RX4, TX4, 11) = (Cn, T, N) := Option.some.inj h
  cases h'
  exact ⟨rfl, by decide +kernel⟩⟩
theorem fX4_51 : dk_F RX4 51 4 6 := ⟨RX4, TX4, rfl, inX4, by decide, (dk_m1 160 rfl rfl)⟩
theorem fwX4_6 : dk_Fw 4 6 .int := ⟨nnX4, fun Cn T N h => by
  have h' : (RX4, TX4, 11) = (Cn, T, N) := Option.some.inj h
  cases h'
  exact ⟨rfl, by decide +kernel⟩⟩
theorem fX4_54 : dk_F RX4 54 4 7 := ⟨RX4, TX4, rfl, inX4, by decide, (dk_m1 164 rfl rfl)⟩
theorem fwX4_7 : dk_Fw 4 7 .int := ⟨nnX4, fun Cn T N h => by
  have h' : (RX4, TX4, 11) = (Cn, T, N) := Option.some.inj h
  cases h'
  exact ⟨rfl, by decide +kernel⟩⟩
theorem fX4_57 : dk_F RX4 57 4 9 := ⟨RX4, TX4, rfl, inX4, by decide, (dk_m1 170 rfl rfl)⟩
theorem fwX4_9 : dk_Fw 4 9 .boolean := ⟨nnX4, fun Cn T N h => by
  have h' : (RX4, TX4, 11) = (Cn, T, N) := Option.some.inj h
  cases h'
  exact ⟨rfl, by decide +kernel⟩⟩
theorem fX5_22 : dk_F RX5 22 5 3 := ⟨RX5, TX5, rfl, inX5, by decide, (dk_m1 36 rfl rfl)⟩
theorem mX4_61 : dk_LV RX4 61 yX5_hasColumn cX5_hasColumn 2 (some .boolean) 1 5 := ⟨⟨⟨(dk_m2 125 rfl rfl), (dk_m1 2 rfl rfl), (dk_m2 85 rfl rfl)⟩, ne1X5, ne2X5, by decide +kernel⟩, ⟨(dk_m2 83 rfl rfl), (dk_m2 84 rfl rfl)⟩, _, rfl, rfl⟩
theorem fX4_65 : dk_F RX4 65 0 0 := ⟨RX0, TX0, rfl, inX0, by decide, (dk_m1 72 rfl rfl)⟩
theorem fwX0_0 : dk_Fw 0 0 .int := ⟨nnX0, fun Cn T N h => by
  have h' : (RX0, TX0, 4) = (Cn, T, N) := Option.some.inj h
  cases h'
  exact ⟨rfl, by decide +kernel⟩⟩
theorem fX4_68 : dk_F RX4 68 0 1 := ⟨RX0, TX0, rfl, inX0, by decide, (dk_m1 75 rfl rfl)⟩
theorem fwX0_1 : dk_Fw 0 1 .int := ⟨nnX0, fun Cn T N h => by
  have h' : (RX0, TX0, 4) = (Cn, T, N) := Option.some.inj h
  cases h'
  exact ⟨rfl, by decide +kernel⟩⟩
theorem fX4_71 : dk_F RX4 71 0 2 := ⟨RX0, TX0, rfl, inX0, by decide, (dk_m1 79 rfl rfl)⟩
theorem fwX0_2 : dk_Fw 0 2 .int := ⟨nnX0, fun Cn T N h => by
  have h' : (RX0, TX0, 4) = (Cn, T, N) := Option.some.inj h
  cases h'
  exact ⟨rfl, by decide +kernel⟩⟩
theorem fX4_74 : dk_F RX4 74 0 3 := ⟨RX0, TX0, rfl, inX0, by decide, (dk_m1 82 rfl rfl)⟩
theorem fwX0_3 : dk_Fw 0 3 .int := ⟨nnX0, fun Cn T N h => by
  have h' : (RX0, TX0, 4) = (Cn, T, N) := Option.some.inj h
  cases h'
  exact ⟨rfl, by decide +kernel⟩⟩
theorem fX4_77 : dk_F RX4 77 1 0 := ⟨RX1, TX1, rfl, inX1, by decide, (dk_m1 101 rfl rfl)⟩
theorem fwX1_0 : dk_Fw 1 0 .int := ⟨nnX1, fun Cn T N h => by
  have h' : (RX1, TX1, 4) = (Cn, T, N) := Option.some.inj h
  cases h'
  exact ⟨rfl, by decide +kernel⟩⟩
theorem fX4_80 : dk_F RX4 80 1 1 := ⟨RX1, TX1, rfl, inX1, by decide, (dk_m1 105 rfl rfl)⟩
theorem fwX1_1 : dk_Fw 1 1 .int := ⟨nnX1, fun Cn T N h => by
  have h' : (RX1, TX1, 4) = (Cn, T, N) := Option.some.inj h
  cases h'
  exact ⟨rfl, by decide +kernel⟩⟩
theorem fX4_83 : dk_F RX4 83 1 2 := ⟨RX1, TX1, rfl, inX1, by decide, (dk_m1 109 rfl rfl)⟩
theorem fwX1_2 : dk_Fw 1 2 .int := ⟨nnX1, fun Cn T N h => by
  have h' : (RX1, TX1, 4) = (Cn, T, N) := Option.some.inj h
  cases h'
  exact ⟨rfl, by decide +kernel⟩⟩
theorem fX4_86 : dk_F RX4 86 1 3 := ⟨RX1, TX1, rfl, inX1, by decide, (dk_m1 113 rfl rfl)⟩
theorem fwX1_3 : dk_Fw 1 3 .int := ⟨nnX1, fun Cn T N h => by
  have h' : (RX1, TX1, 4) = (Cn, T, N) := Option.some.inj h
  cases h'
  exact ⟨rfl, by decide +kernel⟩⟩
theorem fX4_89 : dk_F RX4 89 2 0 := ⟨RX2, TX2, rfl, inX2, by decide, (dk_m1 132 rfl rfl)⟩
theorem fwX2_0 : dk_Fw 2 0 .int := ⟨nnX2, fun Cn T N h => by
  have h' : (RX2, TX2, 2) = (Cn, T, N) := Option.some.inj h
  cases h'
  exact ⟨rfl, by decide +kernel⟩⟩
theorem fX4_90 : dk_F RX4 90 2 1 := ⟨RX2, TX2, rfl, inX2, by decide, (dk_m1 134 rfl rfl)⟩
theorem fwX2_1 : dk_Fw 2 1 .int := ⟨nnX2, fun Cn T N h => by
  have h' : (RX2, TX2, 2) = (Cn, T, N) := Option.some.inj h
  cases h'
  exact ⟨rfl, by decide +kernel⟩⟩
theorem mX4_91 : dk_LV RX4 91 yX4_isOrdered cX4_isOrdered 1 (some .boolean) 0 4 := ⟨⟨⟨(dk_m2 166 rfl rfl), (dk_m1 3 rfl rfl), (dk_m2 169 rfl rfl)⟩, ne1X4, ne2X4, by decide +kernel⟩, ⟨(dk_m2 167 rfl rfl), (dk_m2 168 rfl rfl)⟩, _, rfl, rfl⟩
theorem oiX5_3 : Cond.methodLink RX5 3 objectInit ∈ dk_tbl := (dk_m1 32 rfl rfl)
theorem fX5_11 : dk_F RX5 11 5 0 := ⟨RX5, TX5, rfl, inX5, by decide, (dk_m1 33 rfl rfl)⟩
theorem fzX5_0 : dk_Fz RX5 5 0 (.array .int) := ⟨nnX5, fun Cn T N h => by
  have h' : (RX5, TX5, 6) = (Cn, T, N) := Option.some.inj h
  cases h'
  exact ⟨rfl, rfl, by decide +kernel⟩⟩
theorem fzX5_1 : dk_Fz RX5 5 1 (.array .int) := ⟨nnX5, fun Cn T N h => by
  have h' : (RX5, TX5, 6) = (Cn, T, N) := Option.some.inj h
  cases h'
  exact ⟨rfl, rfl, by decide +kernel⟩⟩
theorem fzX5_2 : dk_Fz RX5 5 2 (.array .boolean) := ⟨nnX5, fun Cn T N h => by
  have h' : (RX5, TX5, 6) = (Cn, T, N) := Option.some.inj h
  cases h'
  exact ⟨rfl, rfl, by decide +kernel⟩⟩
theorem fwX5_3 : dk_Fw 5 3 .int := ⟨nnX5, fun Cn T N h => by
  have h' : (RX5, TX5, 6) = (Cn, T, N) := Option.some.inj h
  cases h'
  exact ⟨rfl, by decide +kernel⟩⟩
theorem fwX5_4 : dk_Fw 5 4 .int := ⟨nnX5, fun Cn T N h => by
  have h' : (RX5, TX5, 6) = (Cn, T, N) := Option.some.inj h
  cases h'
  exact ⟨rfl, by decide +kernel⟩⟩
theorem fX5_29 : dk_F RX5 29 5 5 := ⟨RX5, TX5, rfl, inX5, by decide, (dk_m1 42 rfl rfl)⟩
theorem fwX5_5 : dk_Fw 5 5 .int := ⟨nnX5, fun Cn T N h => by
  have h' : (RX5, TX5, 6) = (Cn, T, N) := Option.some.inj h
  cases h'
  exact ⟨rfl, by decide +kernel⟩⟩
theorem acX5_32 : Cond.methodLink RX5 32 arraycopyName ∈ dk_tbl := (dk_m3 136 rfl rfl)
theorem oiX6_3 : Cond.methodLink RX6 3 objectInit ∈ dk_tbl := (dk_m2 3 rfl rfl)
theorem fX6_13 : dk_F RX6 13 6 0 := ⟨RX6, TX6, rfl, inX6, by decide, (dk_m2 4 rfl rfl)⟩
theorem fzX6_0 : dk_Fz RX6 6 0 (.array .int) := ⟨nnX6, fun Cn T N h => by
  have h' : (RX6, TX6, 9) = (Cn, T, N) := Option.some.inj h
  cases h'
  exact ⟨rfl, rfl, by decide +kernel⟩⟩
theorem fX6_19 : dk_F RX6 19 6 1 := ⟨RX6, TX6, rfl, inX6, by decide, (dk_m2 5 rfl rfl)⟩
theorem fzX6_1 : dk_Fz RX6 6 1 (.array .int) := ⟨nnX6, fun Cn T N h => by
  have h' : (RX6, TX6, 9) = (Cn, T, N) := Option.some.inj h
  cases h'
  exact ⟨rfl, rfl, by decide +kernel⟩⟩
theorem fX6_22 : dk_F RX6 22 6 2 := ⟨RX6, TX6, rfl, inX6, by decide, (dk_m2 6 rfl rfl)⟩
theorem fzX6_2 : dk_Fz RX6 6 2 (.array .int) := ⟨nnX6, fun Cn T N h => by
  have h' : (RX6, TX6, 9) = (Cn, T, N) := Option.some.inj h
  cases h'
  exact ⟨rfl, rfl, by decide +kernel⟩⟩
theorem fX6_25 : dk_F RX6 25 6 3 := ⟨RX6, TX6, rfl, inX6, by decide, (dk_m2 7 rfl rfl)⟩
theorem fzX6_3 : dk_Fz RX6 6 3 (.array .int) := ⟨nnX6, fun Cn T N h => by
  have h' : (RX6, TX6, 9) = (Cn, T, N) := Option.some.inj h
  cases h'
  exact ⟨rfl, rfl, by decide +kernel⟩⟩
theorem fX6_28 : dk_F RX6 28 6 4 := ⟨RX6, TX6, rfl, inX6, by decide, (dk_m2 8 rfl rfl)⟩
theorem fzX6_4 : dk_Fz RX6 6 4 (.array .int) := ⟨nnX6, fun Cn T N h => by
  have h' : (RX6, TX6, 9) = (Cn, T, N) := Option.some.inj h
  cases h'
  exact ⟨rfl, rfl, by decide +kernel⟩⟩
theorem fX6_31 : dk_F RX6 31 6 5 := ⟨RX6, TX6, rfl, inX6, by decide, (dk_m2 9 rfl rfl)⟩
theorem fzX6_5 : dk_Fz RX6 6 5 (.array .int) := ⟨nnX6, fun Cn T N h => by
  have h' : (RX6, TX6, 9) = (Cn, T, N) := Option.some.inj h
  cases h'
  exact ⟨rfl, rfl, by decide +kernel⟩⟩
theorem fX6_34 : dk_F RX6 34 6 8 := ⟨RX6, TX6, rfl, inX6, by decide, (dk_m2 14 rfl rfl)⟩
theorem fwX6_8 : dk_Fw 6 8 .int := ⟨nnX6, fun Cn T N h => by
  have h' : (RX6, TX6, 9) = (Cn, T, N) := Option.some.inj h
  cases h'
  exact ⟨rfl, by decide +kernel⟩⟩
theorem fX6_38 : dk_F RX6 38 6 6 := ⟨RX6, TX6, rfl, inX6, by decide, (dk_m2 10 rfl rfl)⟩
theorem fwX6_6 : dk_Fw 6 6 .int := ⟨nnX6, fun Cn T N h => by
  have h' : (RX6, TX6, 9) = (Cn, T, N) := Option.some.inj h
  cases h'
  exact ⟨rfl, by decide +kernel⟩⟩
theorem fX6_41 : dk_F RX6 41 6 7 := ⟨RX6, TX6, rfl, inX6, by decide, (dk_m2 12 rfl rfl)⟩
theorem fwX6_7 : dk_Fw 6 7 .int := ⟨nnX6, fun Cn T N h => by
  have h' : (RX6, TX6, 9) = (Cn, T, N) := Option.some.inj h
  cases h'
  exact ⟨rfl, by decide +kernel⟩⟩
theorem mX6_126 : dk_LV RX6 126 yX5_value cX5_value 3 (some .int) 2 5 := ⟨⟨⟨(dk_m2 182 rfl rfl), (dk_m1 2 rfl rfl), (dk_m2 185 rfl rfl)⟩, ne1X5, ne2X5, by decide +kernel⟩, ⟨(dk_m2 183 rfl rfl), (dk_m2 184 rfl rfl)⟩, _, rfl, rfl⟩
theorem fX6_86 : dk_F RX6 86 0 1 := ⟨RX0, TX0, rfl, inX0, by decide, (dk_m1 77 rfl rfl)⟩
theorem mX6_93 : dk_LV RX6 93 yX0_holds cX0_holds 2 (some .boolean) 1 0 := ⟨⟨⟨(dk_m2 186 rfl rfl), (dk_m1 4 rfl rfl), (dk_m2 189 rfl rfl)⟩, ne1X0, ne2X0, by decide +kernel⟩, ⟨(dk_m2 187 rfl rfl), (dk_m2 188 rfl rfl)⟩, _, rfl, rfl⟩
theorem mX6_150 : dk_LV RX6 150 yX6_addPlace cX6_addPlace 2 none 1 6 := ⟨⟨⟨(dk_m2 223 rfl rfl), (dk_m1 8 rfl rfl), (dk_m2 226 rfl rfl)⟩, ne1X6, ne2X6, by decide +kernel⟩, ⟨(dk_m2 225 rfl rfl), (dk_m0 11 rfl rfl)⟩, _, rfl, rfl⟩
theorem mX6_154 : dk_LV RX6 154 yX6_sinkLastPlace cX6_sinkLastPlace 7 none 2 6 := ⟨⟨⟨(dk_m2 227 rfl rfl), (dk_m1 8 rfl rfl), (dk_m2 230 rfl rfl)⟩, ne1X6, ne2X6, by decide +kernel⟩, ⟨(dk_m2 229 rfl rfl), (dk_m0 12 rfl rfl)⟩, _, rfl, rfl⟩
theorem fX6_122 : dk_F RX6 122 4 0 := ⟨RX4, TX4, rfl, inX4, by decide, (dk_m1 143 rfl rfl)⟩
theorem mX6_158 : dk_LV RX6 158 yX1_partnerOf cX1_partnerOf 2 (some .int) 1 1 := ⟨⟨⟨(dk_m2 235 rfl rfl), (dk_m1 5 rfl rfl), (dk_m2 201 rfl rfl)⟩, ne1X1, ne2X1, by decide +kernel⟩, ⟨(dk_m2 199 rfl rfl), (dk_m2 200 rfl rfl)⟩, _, rfl, rfl⟩
theorem mX6_162 : dk_LV RX6 162 yX1_columnOf cX1_columnOf 2 (some .int) 1 1 := ⟨⟨⟨(dk_m2 236 rfl rfl), (dk_m1 5 rfl rfl), (dk_m2 239 rfl rfl)⟩, ne1X1, ne2X1, by decide +kernel⟩, ⟨(dk_m2 237 rfl rfl), (dk_m2 238 rfl rfl)⟩, _, rfl, rfl⟩
theorem mX6_89 : dk_LV RX6 89 yX6_readValue cX6_readValue 4 (some .int) 3 6 := ⟨⟨⟨(dk_m2 178 rfl rfl), (dk_m1 8 rfl rfl), (dk_m2 181 rfl rfl)⟩, ne1X6, ne2X6, by decide +kernel⟩, ⟨(dk_m2 180 rfl rfl), (dk_m0 5 rfl rfl)⟩, _, rfl, rfl⟩
theorem fX6_58 : dk_F RX6 58 3 3 := ⟨RX3, TX3, rfl, inX3, by decide, (dk_m1 208 rfl rfl)⟩
theorem fX6_130 : dk_F RX6 130 5 4 := ⟨RX5, TX5, rfl, inX5, by decide, (dk_m1 40 rfl rfl)⟩
theorem fX6_133 : dk_F RX6 133 3 5 := ⟨RX3, TX3, rfl, inX3, by decide, (dk_m1 214 rfl rfl)⟩
theorem fX6_77 : dk_F RX6 77 4 1 := ⟨RX4, TX4, rfl, inX4, by decide, (dk_m1 146 rfl rfl)⟩
theorem fX6_136 : dk_F RX6 136 3 4 := ⟨RX3, TX3, rfl, inX3, by decide, (dk_m1 211 rfl rfl)⟩
theorem mX6_139 : dk_LV RX6 139 yX6_openByCondition cX6_openByCondition 5 none 4 6 := ⟨⟨⟨(dk_m2 219 rfl rfl), (dk_m1 8 rfl rfl), (dk_m2 222 rfl rfl)⟩, ne1X6, ne2X6, by decide +kernel⟩, ⟨(dk_m2 221 rfl rfl), (dk_m0 10 rfl rfl)⟩, _, rfl, rfl⟩
theorem fX6_143 : dk_F RX6 143 3 6 := ⟨RX3, TX3, rfl, inX3, by decide, (dk_m1 217 rfl rfl)⟩
theorem fX6_100 : dk_F RX6 100 4 2 := ⟨RX4, TX4, rfl, inX4, by decide, (dk_m1 149 rfl rfl)⟩
theorem mX6_146 : dk_LV RX6 146 yX6_openByJoin cX6_openByJoin 7 none 4 6 := ⟨⟨⟨(dk_m2 231 rfl rfl), (dk_m1 8 rfl rfl), (dk_m2 234 rfl rfl)⟩, ne1X6, ne2X6, by decide +kernel⟩, ⟨(dk_m2 233 rfl rfl), (dk_m0 13 rfl rfl)⟩, _, rfl, rfl⟩
theorem mX6_44 : dk_LV RX6 44 yX6_clear cX6_clear 1 none 0 6 := ⟨⟨⟨(dk_m4 16 rfl rfl), (dk_m1 8 rfl rfl), (dk_m2 69 rfl rfl)⟩, ne1X6, ne2X6, by decide +kernel⟩, ⟨(dk_m2 67 rfl rfl), (dk_m2 68 rfl rfl)⟩, _, rfl, rfl⟩
theorem mX6_47 : dk_LV RX6 47 yX6_openSource cX6_openSource 7 none 3 6 := ⟨⟨⟨(dk_m2 215 rfl rfl), (dk_m1 8 rfl rfl), (dk_m2 218 rfl rfl)⟩, ne1X6, ne2X6, by decide +kernel⟩, ⟨(dk_m2 217 rfl rfl), (dk_m0 9 rfl rfl)⟩, _, rfl, rfl⟩
theorem mX6_51 : dk_LV RX6 51 yX6_leaveFinishedSources cX6_leaveFinishedSources 1 none 0 6 := ⟨⟨⟨(dk_m3 0 rfl rfl), (dk_m1 8 rfl rfl), (dk_m3 3 rfl rfl)⟩, ne1X6, ne2X6, by decide +kernel⟩, ⟨(dk_m3 2 rfl rfl), (dk_m0 14 rfl rfl)⟩, _, rfl, rfl⟩
theorem mX6_54 : dk_LV RX6 54 yX4_enoughAnswers cX4_enoughAnswers 1 (some .int) 0 4 := ⟨⟨⟨(dk_m2 162 rfl rfl), (dk_m1 3 rfl rfl), (dk_m2 165 rfl rfl)⟩, ne1X4, ne2X4, by decide +kernel⟩, ⟨(dk_m2 163 rfl rfl), (dk_m2 164 rfl rfl)⟩, _, rfl, rfl⟩
theorem fX6_74 : dk_F RX6 74 4 5 := ⟨RX4, TX4, rfl, inX4, by decide, (dk_m1 158 rfl rfl)⟩
theorem fX6_81 : dk_F RX6 81 0 0 := ⟨RX0, TX0, rfl, inX0, by decide, (dk_m1 74 rfl rfl)⟩
theorem fX6_97 : dk_F RX6 97 4 6 := ⟨RX4, TX4, rfl, inX4, by decide, (dk_m1 162 rfl rfl)⟩
theorem mX6_104 : dk_LV RX6 104 yX3_tiesBack cX3_tiesBack 3 (some .boolean) 2 3 := ⟨⟨⟨(dk_m2 190 rfl rfl), (dk_m1 7 rfl rfl), (dk_m2 193 rfl rfl)⟩, ne1X3, ne2X3, by decide +kernel⟩, ⟨(dk_m2 191 rfl rfl), (dk_m2 192 rfl rfl)⟩, _, rfl, rfl⟩
theorem fX6_108 : dk_F RX6 108 1 0 := ⟨RX1, TX1, rfl, inX1, by decide, (dk_m1 103 rfl rfl)⟩
theorem fX6_113 : dk_F RX6 113 1 1 := ⟨RX1, TX1, rfl, inX1, by decide, (dk_m1 107 rfl rfl)⟩
theorem fX6_116 : dk_F RX6 116 1 2 := ⟨RX1, TX1, rfl, inX1, by decide, (dk_m1 111 rfl rfl)⟩
theorem fX6_119 : dk_F RX6 119 1 3 := ⟨RX1, TX1, rfl, inX1, by decide, (dk_m1 115 rfl rfl)⟩
theorem fX6_184 : dk_F RX6 184 4 8 := ⟨RX4, TX4, rfl, inX4, by decide, (dk_m1 169 rfl rfl)⟩
theorem fX6_187 : dk_F RX6 187 4 9 := ⟨RX4, TX4, rfl, inX4, by decide, (dk_m1 172 rfl rfl)⟩
theorem fX6_165 : dk_F RX6 165 4 7 := ⟨RX4, TX4, rfl, inX4, by decide, (dk_m1 166 rfl rfl)⟩
theorem fX6_168 : dk_F RX6 168 4 3 := ⟨RX4, TX4, rfl, inX4, by decide, (dk_m1 151 rfl rfl)⟩
theorem fX6_172 : dk_F RX6 172 2 0 := ⟨RX2, TX2, rfl, inX2, by decide, (dk_m1 133 rfl rfl)⟩
theorem fX6_175 : dk_F RX6 175 2 1 := ⟨RX2, TX2, rfl, inX2, by decide, (dk_m1 135 rfl rfl)⟩
theorem mX6_176 : dk_LV RX6 176 yX4_isOrdered cX4_isOrdered 1 (some .boolean) 0 4 := ⟨⟨⟨(dk_m2 210 rfl rfl), (dk_m1 3 rfl rfl), (dk_m2 169 rfl rfl)⟩, ne1X4, ne2X4, by decide +kernel⟩, ⟨(dk_m2 167 rfl rfl), (dk_m2 168 rfl rfl)⟩, _, rfl, rfl⟩
theorem mX6_180 : dk_LV RX6 180 yX6_goesBefore cX6_goesBefore 6 (some .boolean) 3 6 := ⟨⟨⟨(dk_m2 211 rfl rfl), (dk_m1 8 rfl rfl), (dk_m2 214 rfl rfl)⟩, ne1X6, ne2X6, by decide +kernel⟩, ⟨(dk_m2 213 rfl rfl), (dk_m0 8 rfl rfl)⟩, _, rfl, rfl⟩
theorem mX6_63 : dk_LV RX6 63 yX6_passes cX6_passes 6 (some .boolean) 2 6 := ⟨⟨⟨(dk_m2 174 rfl rfl), (dk_m1 8 rfl rfl), (dk_m2 177 rfl rfl)⟩, ne1X6, ne2X6, by decide +kernel⟩, ⟨(dk_m2 176 rfl rfl), (dk_m0 4 rfl rfl)⟩, _, rfl, rfl⟩
theorem fX6_67 : dk_F RX6 67 4 4 := ⟨RX4, TX4, rfl, inX4, by decide, (dk_m1 154 rfl rfl)⟩
theorem mX6_70 : dk_LV RX6 70 yX6_keepAnswer cX6_keepAnswer 5 none 1 6 := ⟨⟨⟨(dk_m2 206 rfl rfl), (dk_m1 8 rfl rfl), (dk_m2 209 rfl rfl)⟩, ne1X6, ne2X6, by decide +kernel⟩, ⟨(dk_m2 208 rfl rfl), (dk_m0 7 rfl rfl)⟩, _, rfl, rfl⟩
theorem oiX7_1 : Cond.methodLink RX7 1 objectInit ∈ dk_tbl := (dk_m1 23 rfl rfl)
theorem anX7_9 : Cond.classLink RX7 9 RX5 ∈ dk_tbl := (dk_m1 26 rfl rfl)
theorem fX7_11 : dk_F RX7 11 7 0 := ⟨RX7, TX7, rfl, inX7, by decide, (dk_m2 34 rfl rfl)⟩
theorem fzX7_0 : dk_Fz RX7 7 0 (.array (.object "QueryDesk$Table")) := ⟨nnX7, fun Cn T N h => by
  have h' : (RX7, TX7, 5) = (Cn, T, N) := Option.some.inj h
  cases h'
  exact ⟨rfl, rfl, by decide +kernel⟩⟩
theorem mkX7_9 : dk_Mk RX7 9 5 := ⟨RX5, TX5, tyX5, rfl, inX5, tyX5_ok, by decide +kernel, (dk_m1 26 rfl rfl), (dk_m1 28 rfl rfl), (dk_m1 2 rfl rfl)⟩
theorem mX7_15 : dk_LI RX7 15 yX5_init cX5_init 1 0 := ⟨⟨⟨(dk_m1 29 rfl rfl), (dk_m1 2 rfl rfl), (dk_m1 31 rfl rfl)⟩, ne1X5, ne2X5, by decide +kernel⟩, (dk_m1 30 rfl rfl), rfl⟩
theorem mkX7_16 : dk_Mk RX7 16 4 := ⟨RX4, TX4, tyX4, rfl, inX4, tyX4_ok, by decide +kernel, (dk_m1 58 rfl rfl), (dk_m1 59 rfl rfl), (dk_m1 3 rfl rfl)⟩
theorem mX7_18 : dk_LI RX7 18 yX4_init cX4_init 2 0 := ⟨⟨⟨(dk_m1 60 rfl rfl), (dk_m1 3 rfl rfl), (dk_m1 62 rfl rfl)⟩, ne1X4, ne2X4, by decide +kernel⟩, (dk_m1 61 rfl rfl), rfl⟩
theorem fX7_19 : dk_F RX7 19 7 1 := ⟨RX7, TX7, rfl, inX7, by decide, (dk_m2 35 rfl rfl)⟩
theorem fzX7_1 : dk_Fz RX7 7 1 (.object "QueryDesk$Question") := ⟨nnX7, fun Cn T N h => by
  have h' : (RX7, TX7, 5) = (Cn, T, N) := Option.some.inj h
  cases h'
  exact ⟨rfl, rfl, by decide +kernel⟩⟩
theorem mkX7_23 : dk_Mk RX7 23 3 := ⟨RX3, TX3, tyX3, rfl, inX3, tyX3_ok, by decide +kernel, (dk_m1 198 rfl rfl), (dk_m1 199 rfl rfl), (dk_m1 7 rfl rfl)⟩
theorem mX7_25 : dk_LI RX7 25 yX3_init cX3_init 1 0 := ⟨⟨⟨(dk_m1 200 rfl rfl), (dk_m1 7 rfl rfl), (dk_m1 202 rfl rfl)⟩, ne1X3, ne2X3, by decide +kernel⟩, (dk_m1 201 rfl rfl), rfl⟩
theorem fX7_26 : dk_F RX7 26 7 2 := ⟨RX7, TX7, rfl, inX7, by decide, (dk_m2 36 rfl rfl)⟩
theorem fzX7_2 : dk_Fz RX7 7 2 (.object "QueryDesk$Plan") := ⟨nnX7, fun Cn T N h => by
  have h' : (RX7, TX7, 5) = (Cn, T, N) := Option.some.inj h
  cases h'
  exact ⟨rfl, rfl, by decide +kernel⟩⟩
theorem mkX7_30 : dk_Mk RX7 30 6 := ⟨RX6, TX6, tyX6, rfl, inX6, tyX6_ok, by decide +kernel, (dk_m1 238 rfl rfl), (dk_m1 239 rfl rfl), (dk_m1 8 rfl rfl)⟩
theorem mX7_32 : dk_LI RX7 32 yX6_init cX6_init 1 0 := ⟨⟨⟨(dk_m2 0 rfl rfl), (dk_m1 8 rfl rfl), (dk_m2 2 rfl rfl)⟩, ne1X6, ne2X6, by decide +kernel⟩, (dk_m2 1 rfl rfl), rfl⟩
theorem fX7_33 : dk_F RX7 33 7 3 := ⟨RX7, TX7, rfl, inX7, by decide, (dk_m2 37 rfl rfl)⟩
theorem fzX7_3 : dk_Fz RX7 7 3 (.object "QueryDesk$Work") := ⟨nnX7, fun Cn T N h => by
  have h' : (RX7, TX7, 5) = (Cn, T, N) := Option.some.inj h
  cases h'
  exact ⟨rfl, rfl, by decide +kernel⟩⟩
theorem fX7_37 : dk_F RX7 37 7 4 := ⟨RX7, TX7, rfl, inX7, by decide, (dk_m2 38 rfl rfl)⟩
theorem fwX7_4 : dk_Fw 7 4 .int := ⟨nnX7, fun Cn T N h => by
  have h' : (RX7, TX7, 5) = (Cn, T, N) := Option.some.inj h
  cases h'
  exact ⟨rfl, by decide +kernel⟩⟩
theorem mX7_208 : dk_LV RX7 208 yX4_clear cX4_clear 1 none 0 4 := ⟨⟨⟨(dk_m2 62 rfl rfl), (dk_m1 3 rfl rfl), (dk_m2 65 rfl rfl)⟩, ne1X4, ne2X4, by decide +kernel⟩, ⟨(dk_m2 63 rfl rfl), (dk_m2 64 rfl rfl)⟩, _, rfl, rfl⟩
theorem mX7_211 : dk_LV RX7 211 yX6_clear cX6_clear 1 none 0 6 := ⟨⟨⟨(dk_m2 66 rfl rfl), (dk_m1 8 rfl rfl), (dk_m2 69 rfl rfl)⟩, ne1X6, ne2X6, by decide +kernel⟩, ⟨(dk_m2 67 rfl rfl), (dk_m2 68 rfl rfl)⟩, _, rfl, rfl⟩
theorem mX7_41 : dk_LV RX7 41 yX5_makeAnew cX5_makeAnew 3 none 1 5 := ⟨⟨⟨(dk_m2 54 rfl rfl), (dk_m1 2 rfl rfl), (dk_m2 57 rfl rfl)⟩, ne1X5, ne2X5, by decide +kernel⟩, ⟨(dk_m2 55 rfl rfl), (dk_m2 56 rfl rfl)⟩, _, rfl, rfl⟩
theorem mX7_45 : dk_LV RX7 45 yX7_beginQuestion cX7_beginQuestion 1 none 0 7 := ⟨⟨⟨(dk_m2 58 rfl rfl), (dk_m1 1 rfl rfl), (dk_m2 61 rfl rfl)⟩, ne1X7, ne2X7, by decide +kernel⟩, ⟨(dk_m2 60 rfl rfl), (dk_m0 0 rfl rfl)⟩, _, rfl, rfl⟩
theorem fX7_203 : dk_F RX7 203 5 3 := ⟨RX5, TX5, rfl, inX5, by decide, (dk_m1 37 rfl rfl)⟩
theorem mX7_48 : dk_LV RX7 48 yX7_hasTable cX7_hasTable 2 (some .boolean) 1 7 := ⟨⟨⟨(dk_m2 78 rfl rfl), (dk_m1 1 rfl rfl), (dk_m2 81 rfl rfl)⟩, ne1X7, ne2X7, by decide +kernel⟩, ⟨(dk_m2 80 rfl rfl), (dk_m0 2 rfl rfl)⟩, _, rfl, rfl⟩
theorem mX7_59 : dk_LV RX7 59 yX5_isFull cX5_isFull 1 (some .boolean) 0 5 := ⟨⟨⟨(dk_m3 92 rfl rfl), (dk_m1 2 rfl rfl), (dk_m3 95 rfl rfl)⟩, ne1X5, ne2X5, by decide +kernel⟩, ⟨(dk_m3 93 rfl rfl), (dk_m3 94 rfl rfl)⟩, _, rfl, rfl⟩
theorem mX7_68 : dk_LV RX7 68 yX7_endQuestion cX7_endQuestion 1 none 0 7 := ⟨⟨⟨(dk_m2 93 rfl rfl), (dk_m1 1 rfl rfl), (dk_m2 96 rfl rfl)⟩, ne1X7, ne2X7, by decide +kernel⟩, ⟨(dk_m2 95 rfl rfl), (dk_m0 3 rfl rfl)⟩, _, rfl, rfl⟩
theorem mX7_71 : dk_LV RX7 71 yX5_add cX5_add 7 (some .int) 4 5 := ⟨⟨⟨(dk_m3 112 rfl rfl), (dk_m1 2 rfl rfl), (dk_m3 115 rfl rfl)⟩, ne1X5, ne2X5, by decide +kernel⟩, ⟨(dk_m3 113 rfl rfl), (dk_m3 114 rfl rfl)⟩, _, rfl, rfl⟩
theorem mX7_81 : dk_LV RX7 81 yX5_placeOf cX5_placeOf 3 (some .int) 1 5 := ⟨⟨⟨(dk_m3 127 rfl rfl), (dk_m1 2 rfl rfl), (dk_m3 130 rfl rfl)⟩, ne1X5, ne2X5, by decide +kernel⟩, ⟨(dk_m3 128 rfl rfl), (dk_m3 129 rfl rfl)⟩, _, rfl, rfl⟩
theorem mX7_75 : dk_LV RX7 75 yX7_hasRow cX7_hasRow 3 (some .boolean) 2 7 := ⟨⟨⟨(dk_m3 123 rfl rfl), (dk_m1 1 rfl rfl), (dk_m3 126 rfl rfl)⟩, ne1X7, ne2X7, by decide +kernel⟩, ⟨(dk_m3 125 rfl rfl), (dk_m0 17 rfl rfl)⟩, _, rfl, rfl⟩
theorem mX7_85 : dk_LV RX7 85 yX5_remove cX5_remove 3 none 1 5 := ⟨⟨⟨(dk_m3 132 rfl rfl), (dk_m1 2 rfl rfl), (dk_m3 135 rfl rfl)⟩, ne1X5, ne2X5, by decide +kernel⟩, ⟨(dk_m3 133 rfl rfl), (dk_m3 134 rfl rfl)⟩, _, rfl, rfl⟩
theorem mX7_206 : dk_LV RX7 206 yX5_hasColumn cX5_hasColumn 2 (some .boolean) 1 5 := ⟨⟨⟨(dk_m2 82 rfl rfl), (dk_m1 2 rfl rfl), (dk_m2 85 rfl rfl)⟩, ne1X5, ne2X5, by decide +kernel⟩, ⟨(dk_m2 83 rfl rfl), (dk_m2 84 rfl rfl)⟩, _, rfl, rfl⟩
theorem mX7_88 : dk_LV RX7 88 yX7_hasColumn cX7_hasColumn 3 (some .boolean) 2 7 := ⟨⟨⟨(dk_m2 74 rfl rfl), (dk_m1 1 rfl rfl), (dk_m2 77 rfl rfl)⟩, ne1X7, ne2X7, by decide +kernel⟩, ⟨(dk_m2 76 rfl rfl), (dk_m0 1 rfl rfl)⟩, _, rfl, rfl⟩
theorem mX7_93 : dk_LV RX7 93 yX5_put cX5_put 4 none 3 5 := ⟨⟨⟨(dk_m3 147 rfl rfl), (dk_m1 2 rfl rfl), (dk_m3 150 rfl rfl)⟩, ne1X5, ne2X5, by decide +kernel⟩, ⟨(dk_m3 148 rfl rfl), (dk_m3 149 rfl rfl)⟩, _, rfl, rfl⟩
theorem mX7_97 : dk_LV RX7 97 yX5_value cX5_value 3 (some .int) 2 5 := ⟨⟨⟨(dk_m3 158 rfl rfl), (dk_m1 2 rfl rfl), (dk_m2 185 rfl rfl)⟩, ne1X5, ne2X5, by decide +kernel⟩, ⟨(dk_m2 183 rfl rfl), (dk_m2 184 rfl rfl)⟩, _, rfl, rfl⟩
theorem mX7_101 : dk_LS RX7 101 yX7_isKind cX7_isKind 1 (some .boolean) 1 := ⟨⟨⟨(dk_m2 86 rfl rfl), (dk_m1 1 rfl rfl), (dk_m2 88 rfl rfl)⟩, ne1X7, ne2X7, by decide +kernel⟩, (dk_m2 87 rfl rfl)⟩
theorem mX7_104 : dk_LV RX7 104 yX5_hasIndex cX5_hasIndex 3 (some .boolean) 2 5 := ⟨⟨⟨(dk_m2 89 rfl rfl), (dk_m1 2 rfl rfl), (dk_m2 92 rfl rfl)⟩, ne1X5, ne2X5, by decide +kernel⟩, ⟨(dk_m2 90 rfl rfl), (dk_m2 91 rfl rfl)⟩, _, rfl, rfl⟩
theorem mX7_107 : dk_LV RX7 107 yX5_setIndex cX5_setIndex 4 none 3 5 := ⟨⟨⟨(dk_m2 97 rfl rfl), (dk_m1 2 rfl rfl), (dk_m2 100 rfl rfl)⟩, ne1X5, ne2X5, by decide +kernel⟩, ⟨(dk_m2 98 rfl rfl), (dk_m2 99 rfl rfl)⟩, _, rfl, rfl⟩
theorem fX7_111 : dk_F RX7 111 4 4 := ⟨RX4, TX4, rfl, inX4, by decide, (dk_m1 155 rfl rfl)⟩
theorem mX7_114 : dk_LV RX7 114 yX4_addSource cX4_addSource 3 (some .int) 1 4 := ⟨⟨⟨(dk_m2 113 rfl rfl), (dk_m1 3 rfl rfl), (dk_m2 116 rfl rfl)⟩, ne1X4, ne2X4, by decide +kernel⟩, ⟨(dk_m2 114 rfl rfl), (dk_m2 115 rfl rfl)⟩, _, rfl, rfl⟩
theorem mX7_118 : dk_LV RX7 118 yX4_hasColumn cX4_hasColumn 3 (some .boolean) 2 4 := ⟨⟨⟨(dk_m2 121 rfl rfl), (dk_m1 3 rfl rfl), (dk_m2 124 rfl rfl)⟩, ne1X4, ne2X4, by decide +kernel⟩, ⟨(dk_m2 122 rfl rfl), (dk_m2 123 rfl rfl)⟩, _, rfl, rfl⟩
theorem fX7_119 : dk_F RX7 119 4 5 := ⟨RX4, TX4, rfl, inX4, by decide, (dk_m1 159 rfl rfl)⟩
theorem mX7_122 : dk_LV RX7 122 yX4_addCondition cX4_addCondition 6 none 4 4 := ⟨⟨⟨(dk_m2 126 rfl rfl), (dk_m1 3 rfl rfl), (dk_m2 129 rfl rfl)⟩, ne1X4, ne2X4, by decide +kernel⟩, ⟨(dk_m2 127 rfl rfl), (dk_m2 128 rfl rfl)⟩, _, rfl, rfl⟩
theorem fX7_126 : dk_F RX7 126 4 6 := ⟨RX4, TX4, rfl, inX4, by decide, (dk_m1 163 rfl rfl)⟩
theorem mX7_129 : dk_LV RX7 129 yX4_addJoin cX4_addJoin 6 none 4 4 := ⟨⟨⟨(dk_m2 134 rfl rfl), (dk_m1 3 rfl rfl), (dk_m2 137 rfl rfl)⟩, ne1X4, ne2X4, by decide +kernel⟩, ⟨(dk_m2 135 rfl rfl), (dk_m2 136 rfl rfl)⟩, _, rfl, rfl⟩
theorem fX7_132 : dk_F RX7 132 4 7 := ⟨RX4, TX4, rfl, inX4, by decide, (dk_m1 165 rfl rfl)⟩
theorem mX7_135 : dk_LV RX7 135 yX4_addOutput cX4_addOutput 4 (some .int) 2 4 := ⟨⟨⟨(dk_m2 142 rfl rfl), (dk_m1 3 rfl rfl), (dk_m2 145 rfl rfl)⟩, ne1X4, ne2X4, by decide +kernel⟩, ⟨(dk_m2 143 rfl rfl), (dk_m2 144 rfl rfl)⟩, _, rfl, rfl⟩
theorem fX7_138 : dk_F RX7 138 4 8 := ⟨RX4, TX4, rfl, inX4, by decide, (dk_m1 168 rfl rfl)⟩
theorem fX7_141 : dk_F RX7 141 4 9 := ⟨RX4, TX4, rfl, inX4, by decide, (dk_m1 171 rfl rfl)⟩
theorem fX7_145 : dk_F RX7 145 4 10 := ⟨RX4, TX4, rfl, inX4, by decide, (dk_m1 174 rfl rfl)⟩
theorem mX7_150 : dk_LV RX7 150 yX3_choose cX3_choose 7 (some .float) 1 3 := ⟨⟨⟨(dk_m3 167 rfl rfl), (dk_m1 7 rfl rfl), (dk_m3 170 rfl rfl)⟩, ne1X3, ne2X3, by decide +kernel⟩, ⟨(dk_m3 168 rfl rfl), (dk_m3 169 rfl rfl)⟩, _, rfl, rfl⟩
theorem mX7_154 : dk_LV RX7 154 yX6_begin cX6_begin 3 none 2 6 := ⟨⟨⟨(dk_m4 12 rfl rfl), (dk_m1 8 rfl rfl), (dk_m4 15 rfl rfl)⟩, ne1X6, ne2X6, by decide +kernel⟩, ⟨(dk_m4 13 rfl rfl), (dk_m4 14 rfl rfl)⟩, _, rfl, rfl⟩
theorem fX7_163 : dk_F RX7 163 3 3 := ⟨RX3, TX3, rfl, inX3, by decide, (dk_m1 209 rfl rfl)⟩
theorem fX7_167 : dk_F RX7 167 3 4 := ⟨RX3, TX3, rfl, inX3, by decide, (dk_m1 212 rfl rfl)⟩
theorem fX7_170 : dk_F RX7 170 3 5 := ⟨RX3, TX3, rfl, inX3, by decide, (dk_m1 215 rfl rfl)⟩
theorem fX7_173 : dk_F RX7 173 3 6 := ⟨RX3, TX3, rfl, inX3, by decide, (dk_m1 218 rfl rfl)⟩
theorem mX7_176 : dk_LV RX7 176 yX6_isDone cX6_isDone 2 (some .boolean) 1 6 := ⟨⟨⟨(dk_m2 158 rfl rfl), (dk_m1 8 rfl rfl), (dk_m2 161 rfl rfl)⟩, ne1X6, ne2X6, by decide +kernel⟩, ⟨(dk_m2 159 rfl rfl), (dk_m2 160 rfl rfl)⟩, _, rfl, rfl⟩
theorem mX7_180 : dk_LV RX7 180 yX6_makeStep cX6_makeStep 4 none 2 6 := ⟨⟨⟨(dk_m2 170 rfl rfl), (dk_m1 8 rfl rfl), (dk_m2 173 rfl rfl)⟩, ne1X6, ne2X6, by decide +kernel⟩, ⟨(dk_m2 171 rfl rfl), (dk_m2 172 rfl rfl)⟩, _, rfl, rfl⟩
theorem fX7_190 : dk_F RX7 190 6 6 := ⟨RX6, TX6, rfl, inX6, by decide, (dk_m2 11 rfl rfl)⟩
theorem mmX7_212 : Cond.methodLink RX7 212 Lib.Math.min.name ∈ dk_tbl := (dk_m3 12 rfl rfl)
theorem fX7_183 : dk_F RX7 183 6 7 := ⟨RX6, TX6, rfl, inX6, by decide, (dk_m2 13 rfl rfl)⟩
theorem mX7_186 : dk_LV RX7 186 yX7_givenAnswers cX7_givenAnswers 1 (some .int) 0 7 := ⟨⟨⟨(dk_m3 8 rfl rfl), (dk_m1 1 rfl rfl), (dk_m3 11 rfl rfl)⟩, ne1X7, ne2X7, by decide +kernel⟩, ⟨(dk_m3 10 rfl rfl), (dk_m0 15 rfl rfl)⟩, _, rfl, rfl⟩
theorem fX7_193 : dk_F RX7 193 5 4 := ⟨RX5, TX5, rfl, inX5, by decide, (dk_m1 41 rfl rfl)⟩
theorem mX7_200 : dk_LV RX7 200 yX6_valueOf cX6_valueOf 3 (some .int) 2 6 := ⟨⟨⟨(dk_m4 50 rfl rfl), (dk_m1 8 rfl rfl), (dk_m4 53 rfl rfl)⟩, ne1X6, ne2X6, by decide +kernel⟩, ⟨(dk_m4 51 rfl rfl), (dk_m4 52 rfl rfl)⟩, _, rfl, rfl⟩
theorem fX8_71 : dk_F RX8 71 8 6 := ⟨RX8, TX8, rfl, inX8, by decide, (dk_m4 70 rfl rfl)⟩
theorem fwX8_6 : dk_Fw 8 6 .int := ⟨nnX8, fun Cn T N h => by
  have h' : (RX8, TX8, 30) = (Cn, T, N) := Option.some.inj h
  cases h'
  exact ⟨rfl, by decide +kernel⟩⟩
theorem fX8_96 : dk_F RX8 96 8 7 := ⟨RX8, TX8, rfl, inX8, by decide, (dk_m4 71 rfl rfl)⟩
theorem fwX8_7 : dk_Fw 8 7 .int := ⟨nnX8, fun Cn T N h => by
  have h' : (RX8, TX8, 30) = (Cn, T, N) := Option.some.inj h
  cases h'
  exact ⟨rfl, by decide +kernel⟩⟩
theorem fX8_99 : dk_F RX8 99 8 9 := ⟨RX8, TX8, rfl, inX8, by decide, (dk_m4 73 rfl rfl)⟩
theorem fwX8_9 : dk_Fw 8 9 .int := ⟨nnX8, fun Cn T N h => by
  have h' : (RX8, TX8, 30) = (Cn, T, N) := Option.some.inj h
  cases h'
  exact ⟨rfl, by decide +kernel⟩⟩
theorem fX8_102 : dk_F RX8 102 8 11 := ⟨RX8, TX8, rfl, inX8, by decide, (dk_m4 75 rfl rfl)⟩
theorem fwX8_11 : dk_Fw 8 11 .int := ⟨nnX8, fun Cn T N h => by
  have h' : (RX8, TX8, 30) = (Cn, T, N) := Option.some.inj h
  cases h'
  exact ⟨rfl, by decide +kernel⟩⟩
theorem fX8_105 : dk_F RX8 105 8 13 := ⟨RX8, TX8, rfl, inX8, by decide, (dk_m4 77 rfl rfl)⟩
theorem fwX8_13 : dk_Fw 8 13 .int := ⟨nnX8, fun Cn T N h => by
  have h' : (RX8, TX8, 30) = (Cn, T, N) := Option.some.inj h
  cases h'
  exact ⟨rfl, by decide +kernel⟩⟩
theorem fX8_108 : dk_F RX8 108 8 15 := ⟨RX8, TX8, rfl, inX8, by decide, (dk_m4 79 rfl rfl)⟩
theorem fwX8_15 : dk_Fw 8 15 .int := ⟨nnX8, fun Cn T N h => by
  have h' : (RX8, TX8, 30) = (Cn, T, N) := Option.some.inj h
  cases h'
  exact ⟨rfl, by decide +kernel⟩⟩
theorem fX8_111 : dk_F RX8 111 8 16 := ⟨RX8, TX8, rfl, inX8, by decide, (dk_m4 80 rfl rfl)⟩
theorem fwX8_16 : dk_Fw 8 16 .boolean := ⟨nnX8, fun Cn T N h => by
  have h' : (RX8, TX8, 30) = (Cn, T, N) := Option.some.inj h
  cases h'
  exact ⟨rfl, by decide +kernel⟩⟩
theorem fX8_115 : dk_F RX8 115 8 17 := ⟨RX8, TX8, rfl, inX8, by decide, (dk_m4 81 rfl rfl)⟩
theorem fwX8_17 : dk_Fw 8 17 .int := ⟨nnX8, fun Cn T N h => by
  have h' : (RX8, TX8, 30) = (Cn, T, N) := Option.some.inj h
  cases h'
  exact ⟨rfl, by decide +kernel⟩⟩
theorem fX8_118 : dk_F RX8 118 8 27 := ⟨RX8, TX8, rfl, inX8, by decide, (dk_m4 91 rfl rfl)⟩
theorem fwX8_27 : dk_Fw 8 27 .int := ⟨nnX8, fun Cn T N h => by
  have h' : (RX8, TX8, 30) = (Cn, T, N) := Option.some.inj h
  cases h'
  exact ⟨rfl, by decide +kernel⟩⟩
theorem fX8_121 : dk_F RX8 121 8 28 := ⟨RX8, TX8, rfl, inX8, by decide, (dk_m4 92 rfl rfl)⟩
theorem fwX8_28 : dk_Fw 8 28 .int := ⟨nnX8, fun Cn T N h => by
  have h' : (RX8, TX8, 30) = (Cn, T, N) := Option.some.inj h
  cases h'
  exact ⟨rfl, by decide +kernel⟩⟩
theorem oiX8_1 : Cond.methodLink RX8 1 objectInit ∈ dk_tbl := (dk_m4 59 rfl rfl)
theorem fX8_7 : dk_F RX8 7 8 1 := ⟨RX8, TX8, rfl, inX8, by decide, (dk_m4 65 rfl rfl)⟩
theorem fzX8_1 : dk_Fz RX8 8 1 (.array .int) := ⟨nnX8, fun Cn T N h => by
  have h' : (RX8, TX8, 30) = (Cn, T, N) := Option.some.inj h
  cases h'
  exact ⟨rfl, rfl, by decide +kernel⟩⟩
theorem fX8_13 : dk_F RX8 13 8 2 := ⟨RX8, TX8, rfl, inX8, by decide, (dk_m4 66 rfl rfl)⟩
theorem fzX8_2 : dk_Fz RX8 8 2 (.array .int) := ⟨nnX8, fun Cn T N h => by
  have h' : (RX8, TX8, 30) = (Cn, T, N) := Option.some.inj h
  cases h'
  exact ⟨rfl, rfl, by decide +kernel⟩⟩
theorem fX8_16 : dk_F RX8 16 8 3 := ⟨RX8, TX8, rfl, inX8, by decide, (dk_m4 67 rfl rfl)⟩
theorem fzX8_3 : dk_Fz RX8 8 3 (.array .boolean) := ⟨nnX8, fun Cn T N h => by
  have h' : (RX8, TX8, 30) = (Cn, T, N) := Option.some.inj h
  cases h'
  exact ⟨rfl, rfl, by decide +kernel⟩⟩
theorem fX8_20 : dk_F RX8 20 8 4 := ⟨RX8, TX8, rfl, inX8, by decide, (dk_m4 68 rfl rfl)⟩
theorem fzX8_4 : dk_Fz RX8 8 4 (.array .int) := ⟨nnX8, fun Cn T N h => by
  have h' : (RX8, TX8, 30) = (Cn, T, N) := Option.some.inj h
  cases h'
  exact ⟨rfl, rfl, by decide +kernel⟩⟩
theorem fX8_23 : dk_F RX8 23 8 5 := ⟨RX8, TX8, rfl, inX8, by decide, (dk_m4 69 rfl rfl)⟩
theorem fzX8_5 : dk_Fz RX8 8 5 (.array .boolean) := ⟨nnX8, fun Cn T N h => by
  have h' : (RX8, TX8, 30) = (Cn, T, N) := Option.some.inj h
  cases h'
  exact ⟨rfl, rfl, by decide +kernel⟩⟩
theorem fX8_26 : dk_F RX8 26 8 8 := ⟨RX8, TX8, rfl, inX8, by decide, (dk_m4 72 rfl rfl)⟩
theorem fzX8_8 : dk_Fz RX8 8 8 (.array .int) := ⟨nnX8, fun Cn T N h => by
  have h' : (RX8, TX8, 30) = (Cn, T, N) := Option.some.inj h
  cases h'
  exact ⟨rfl, rfl, by decide +kernel⟩⟩
theorem fX8_29 : dk_F RX8 29 8 10 := ⟨RX8, TX8, rfl, inX8, by decide, (dk_m4 74 rfl rfl)⟩
theorem fzX8_10 : dk_Fz RX8 8 10 (.array .int) := ⟨nnX8, fun Cn T N h => by
  have h' : (RX8, TX8, 30) = (Cn, T, N) := Option.some.inj h
  cases h'
  exact ⟨rfl, rfl, by decide +kernel⟩⟩
theorem fX8_32 : dk_F RX8 32 8 12 := ⟨RX8, TX8, rfl, inX8, by decide, (dk_m4 76 rfl rfl)⟩
theorem fzX8_12 : dk_Fz RX8 8 12 (.array .int) := ⟨nnX8, fun Cn T N h => by
  have h' : (RX8, TX8, 30) = (Cn, T, N) := Option.some.inj h
  cases h'
  exact ⟨rfl, rfl, by decide +kernel⟩⟩
theorem fX8_35 : dk_F RX8 35 8 14 := ⟨RX8, TX8, rfl, inX8, by decide, (dk_m4 78 rfl rfl)⟩
theorem fzX8_14 : dk_Fz RX8 8 14 (.array .int) := ⟨nnX8, fun Cn T N h => by
  have h' : (RX8, TX8, 30) = (Cn, T, N) := Option.some.inj h
  cases h'
  exact ⟨rfl, rfl, by decide +kernel⟩⟩
theorem fX8_38 : dk_F RX8 38 8 18 := ⟨RX8, TX8, rfl, inX8, by decide, (dk_m4 82 rfl rfl)⟩
theorem fzX8_18 : dk_Fz RX8 8 18 (.array .int) := ⟨nnX8, fun Cn T N h => by
  have h' : (RX8, TX8, 30) = (Cn, T, N) := Option.some.inj h
  cases h'
  exact ⟨rfl, rfl, by decide +kernel⟩⟩
theorem fX8_41 : dk_F RX8 41 8 19 := ⟨RX8, TX8, rfl, inX8, by decide, (dk_m4 83 rfl rfl)⟩
theorem fzX8_19 : dk_Fz RX8 8 19 (.array .int) := ⟨nnX8, fun Cn T N h => by
  have h' : (RX8, TX8, 30) = (Cn, T, N) := Option.some.inj h
  cases h'
  exact ⟨rfl, rfl, by decide +kernel⟩⟩
theorem fX8_44 : dk_F RX8 44 8 20 := ⟨RX8, TX8, rfl, inX8, by decide, (dk_m4 84 rfl rfl)⟩
theorem fzX8_20 : dk_Fz RX8 8 20 (.array .int) := ⟨nnX8, fun Cn T N h => by
  have h' : (RX8, TX8, 30) = (Cn, T, N) := Option.some.inj h
  cases h'
  exact ⟨rfl, rfl, by decide +kernel⟩⟩
theorem fX8_47 : dk_F RX8 47 8 21 := ⟨RX8, TX8, rfl, inX8, by decide, (dk_m4 85 rfl rfl)⟩
theorem fzX8_21 : dk_Fz RX8 8 21 (.array .int) := ⟨nnX8, fun Cn T N h => by
  have h' : (RX8, TX8, 30) = (Cn, T, N) := Option.some.inj h
  cases h'
  exact ⟨rfl, rfl, by decide +kernel⟩⟩
theorem fX8_50 : dk_F RX8 50 8 25 := ⟨RX8, TX8, rfl, inX8, by decide, (dk_m4 89 rfl rfl)⟩
theorem fzX8_25 : dk_Fz RX8 8 25 (.array .int) := ⟨nnX8, fun Cn T N h => by
  have h' : (RX8, TX8, 30) = (Cn, T, N) := Option.some.inj h
  cases h'
  exact ⟨rfl, rfl, by decide +kernel⟩⟩
theorem fX8_53 : dk_F RX8 53 8 29 := ⟨RX8, TX8, rfl, inX8, by decide, (dk_m4 93 rfl rfl)⟩
theorem fzX8_29 : dk_Fz RX8 8 29 (.array .int) := ⟨nnX8, fun Cn T N h => by
  have h' : (RX8, TX8, 30) = (Cn, T, N) := Option.some.inj h
  cases h'
  exact ⟨rfl, rfl, by decide +kernel⟩⟩
theorem mX8_56 : dk_LV RX8 56 yX8_empty cX8_empty 1 none 0 8 := ⟨⟨⟨(dk_m4 60 rfl rfl), (dk_m1 9 rfl rfl), (dk_m4 63 rfl rfl)⟩, ne1X8, ne2X8, by decide +kernel⟩, ⟨(dk_m4 62 rfl rfl), (dk_m0 28 rfl rfl)⟩, _, rfl, rfl⟩
theorem fX8_59 : dk_F RX8 59 8 0 := ⟨RX8, TX8, rfl, inX8, by decide, (dk_m4 64 rfl rfl)⟩
theorem mX8_63 : dk_LS RX8 63 yX8_in cX8_in 3 (some .boolean) 3 := ⟨⟨⟨(dk_m4 163 rfl rfl), (dk_m1 9 rfl rfl), (dk_m4 165 rfl rfl)⟩, ne1X8, ne2X8, by decide +kernel⟩, (dk_m4 164 rfl rfl)⟩
theorem mX8_67 : dk_LV RX8 67 yX8_isTable cX8_isTable 2 (some .boolean) 1 8 := ⟨⟨⟨(dk_m4 170 rfl rfl), (dk_m1 9 rfl rfl), (dk_m4 173 rfl rfl)⟩, ne1X8, ne2X8, by decide +kernel⟩, ⟨(dk_m4 172 rfl rfl), (dk_m0 29 rfl rfl)⟩, _, rfl, rfl⟩
theorem fwX8_0 : dk_Fw 8 0 .int := ⟨nnX8, fun Cn T N h => by
  have h' : (RX8, TX8, 30) = (Cn, T, N) := Option.some.inj h
  cases h'
  exact ⟨rfl, by decide +kernel⟩⟩
theorem mX8_74 : dk_LV RX8 74 yX8_rowsOf cX8_rowsOf 4 (some .int) 1 8 := ⟨⟨⟨(dk_m4 174 rfl rfl), (dk_m1 9 rfl rfl), (dk_m4 177 rfl rfl)⟩, ne1X8, ne2X8, by decide +kernel⟩, ⟨(dk_m4 176 rfl rfl), (dk_m0 30 rfl rfl)⟩, _, rfl, rfl⟩
theorem mX8_78 : dk_LV RX8 78 yX8_changed cX8_changed 1 none 0 8 := ⟨⟨⟨(dk_m4 178 rfl rfl), (dk_m1 9 rfl rfl), (dk_m4 181 rfl rfl)⟩, ne1X8, ne2X8, by decide +kernel⟩, ⟨(dk_m4 180 rfl rfl), (dk_m0 31 rfl rfl)⟩, _, rfl, rfl⟩
theorem mX8_81 : dk_LV RX8 81 yX8_isRow cX8_isRow 3 (some .boolean) 2 8 := ⟨⟨⟨(dk_m4 186 rfl rfl), (dk_m1 9 rfl rfl), (dk_m4 189 rfl rfl)⟩, ne1X8, ne2X8, by decide +kernel⟩, ⟨(dk_m4 188 rfl rfl), (dk_m0 32 rfl rfl)⟩, _, rfl, rfl⟩
theorem mX8_85 : dk_LV RX8 85 yX8_isColumn cX8_isColumn 3 (some .boolean) 2 8 := ⟨⟨⟨(dk_m4 194 rfl rfl), (dk_m1 9 rfl rfl), (dk_m4 197 rfl rfl)⟩, ne1X8, ne2X8, by decide +kernel⟩, ⟨(dk_m4 196 rfl rfl), (dk_m0 33 rfl rfl)⟩, _, rfl, rfl⟩
theorem mX8_88 : dk_LV RX8 88 yX8_get cX8_get 4 (some .int) 3 8 := ⟨⟨⟨(dk_m4 202 rfl rfl), (dk_m1 9 rfl rfl), (dk_m4 205 rfl rfl)⟩, ne1X8, ne2X8, by decide +kernel⟩, ⟨(dk_m4 204 rfl rfl), (dk_m0 34 rfl rfl)⟩, _, rfl, rfl⟩
theorem mX8_92 : dk_LV RX8 92 yX8_setIndex cX8_setIndex 5 (some .boolean) 4 8 := ⟨⟨⟨(dk_m4 210 rfl rfl), (dk_m1 9 rfl rfl), (dk_m4 213 rfl rfl)⟩, ne1X8, ne2X8, by decide +kernel⟩, ⟨(dk_m4 212 rfl rfl), (dk_m0 35 rfl rfl)⟩, _, rfl, rfl⟩
theorem mX8_124 : dk_LV RX8 124 yX8_has cX8_has 3 (some .boolean) 2 8 := ⟨⟨⟨(dk_m4 230 rfl rfl), (dk_m1 9 rfl rfl), (dk_m4 233 rfl rfl)⟩, ne1X8, ne2X8, by decide +kernel⟩, ⟨(dk_m4 232 rfl rfl), (dk_m0 36 rfl rfl)⟩, _, rfl, rfl⟩
theorem fX8_127 : dk_F RX8 127 8 22 := ⟨RX8, TX8, rfl, inX8, by decide, (dk_m4 86 rfl rfl)⟩
theorem fwX8_22 : dk_Fw 8 22 .int := ⟨nnX8, fun Cn T N h => by
  have h' : (RX8, TX8, 30) = (Cn, T, N) := Option.some.inj h
  cases h'
  exact ⟨rfl, by decide +kernel⟩⟩
theorem fX8_130 : dk_F RX8 130 8 23 := ⟨RX8, TX8, rfl, inX8, by decide, (dk_m4 87 rfl rfl)⟩
theorem fwX8_23 : dk_Fw 8 23 .int := ⟨nnX8, fun Cn T N h => by
  have h' : (RX8, TX8, 30) = (Cn, T, N) := Option.some.inj h
  cases h'
  exact ⟨rfl, by decide +kernel⟩⟩
theorem fX8_133 : dk_F RX8 133 8 24 := ⟨RX8, TX8, rfl, inX8, by decide, (dk_m4 88 rfl rfl)⟩
theorem fwX8_24 : dk_Fw 8 24 .int := ⟨nnX8, fun Cn T N h => by
  have h' : (RX8, TX8, 30) = (Cn, T, N) := Option.some.inj h
  cases h'
  exact ⟨rfl, by decide +kernel⟩⟩
theorem mX8_136 : dk_LV RX8 136 yX8_share cX8_share 14 (some .float) 4 8 := ⟨⟨⟨(dk_m5 25 rfl rfl), (dk_m1 9 rfl rfl), (dk_m5 28 rfl rfl)⟩, ne1X8, ne2X8, by decide +kernel⟩, ⟨(dk_m5 27 rfl rfl), (dk_m0 39 rfl rfl)⟩, _, rfl, rfl⟩
theorem mX8_140 : dk_LV RX8 140 yX8_bettered cX8_bettered 6 (some .float) 5 8 := ⟨⟨⟨(dk_m5 29 rfl rfl), (dk_m1 9 rfl rfl), (dk_m5 32 rfl rfl)⟩, ne1X8, ne2X8, by decide +kernel⟩, ⟨(dk_m5 31 rfl rfl), (dk_m0 40 rfl rfl)⟩, _, rfl, rfl⟩
theorem mX8_144 : dk_LV RX8 144 yX8_sideOf cX8_sideOf 5 (some .int) 3 8 := ⟨⟨⟨(dk_m5 33 rfl rfl), (dk_m1 9 rfl rfl), (dk_m5 36 rfl rfl)⟩, ne1X8, ne2X8, by decide +kernel⟩, ⟨(dk_m5 35 rfl rfl), (dk_m0 41 rfl rfl)⟩, _, rfl, rfl⟩
theorem mX8_147 : dk_LS RX8 147 yX8_ordered cX8_ordered 5 (some .int) 2 := ⟨⟨⟨(dk_m5 18 rfl rfl), (dk_m1 9 rfl rfl), (dk_m5 20 rfl rfl)⟩, ne1X8, ne2X8, by decide +kernel⟩, (dk_m5 19 rfl rfl)⟩
theorem mX8_151 : dk_LV RX8 151 yX8_fewest cX8_fewest 10 (some .float) 2 8 := ⟨⟨⟨(dk_m5 21 rfl rfl), (dk_m1 9 rfl rfl), (dk_m5 24 rfl rfl)⟩, ne1X8, ne2X8, by decide +kernel⟩, ⟨(dk_m5 23 rfl rfl), (dk_m0 38 rfl rfl)⟩, _, rfl, rfl⟩
theorem mX8_155 : dk_LV RX8 155 yX8_lessened cX8_lessened 8 (some .float) 3 8 := ⟨⟨⟨(dk_m5 37 rfl rfl), (dk_m1 9 rfl rfl), (dk_m5 40 rfl rfl)⟩, ne1X8, ne2X8, by decide +kernel⟩, ⟨(dk_m5 39 rfl rfl), (dk_m0 42 rfl rfl)⟩, _, rfl, rfl⟩
theorem mX8_159 : dk_LV RX8 159 yX8_cost cX8_cost 9 (some .float) 1 8 := ⟨⟨⟨(dk_m5 14 rfl rfl), (dk_m1 9 rfl rfl), (dk_m5 17 rfl rfl)⟩, ne1X8, ne2X8, by decide +kernel⟩, ⟨(dk_m5 16 rfl rfl), (dk_m0 37 rfl rfl)⟩, _, rfl, rfl⟩
theorem fX8_163 : dk_F RX8 163 8 26 := ⟨RX8, TX8, rfl, inX8, by decide, (dk_m4 90 rfl rfl)⟩
theorem fwX8_26 : dk_Fw 8 26 .int := ⟨nnX8, fun Cn T N h => by
  have h' : (RX8, TX8, 30) = (Cn, T, N) := Option.some.inj h
  cases h'
  exact ⟨rfl, by decide +kernel⟩⟩
theorem mX8_166 : dk_LV RX8 166 yX8_rowAt cX8_rowAt 3 (some .int) 1 8 := ⟨⟨⟨(dk_m5 57 rfl rfl), (dk_m1 9 rfl rfl), (dk_m5 60 rfl rfl)⟩, ne1X8, ne2X8, by decide +kernel⟩, ⟨(dk_m5 59 rfl rfl), (dk_m0 45 rfl rfl)⟩, _, rfl, rfl⟩
theorem mX8_169 : dk_LV RX8 169 yX8_wanted cX8_wanted 4 (some .int) 2 8 := ⟨⟨⟨(dk_m5 53 rfl rfl), (dk_m1 9 rfl rfl), (dk_m5 56 rfl rfl)⟩, ne1X8, ne2X8, by decide +kernel⟩, ⟨(dk_m5 55 rfl rfl), (dk_m0 44 rfl rfl)⟩, _, rfl, rfl⟩
theorem mX8_172 : dk_LS RX8 172 yX8_holds cX8_holds 3 (some .boolean) 3 := ⟨⟨⟨(dk_m5 61 rfl rfl), (dk_m1 9 rfl rfl), (dk_m5 63 rfl rfl)⟩, ne1X8, ne2X8, by decide +kernel⟩, (dk_m5 62 rfl rfl)⟩
theorem mX8_175 : dk_LV RX8 175 yX8_before cX8_before 6 (some .boolean) 5 8 := ⟨⟨⟨(dk_m5 64 rfl rfl), (dk_m1 9 rfl rfl), (dk_m5 67 rfl rfl)⟩, ne1X8, ne2X8, by decide +kernel⟩, ⟨(dk_m5 66 rfl rfl), (dk_m0 46 rfl rfl)⟩, _, rfl, rfl⟩
theorem mX8_182 : dk_LV RX8 182 yX8_swapped cX8_swapped 6 (some .boolean) 1 8 := ⟨⟨⟨(dk_m5 72 rfl rfl), (dk_m1 9 rfl rfl), (dk_m5 75 rfl rfl)⟩, ne1X8, ne2X8, by decide +kernel⟩, ⟨(dk_m5 74 rfl rfl), (dk_m0 48 rfl rfl)⟩, _, rfl, rfl⟩
theorem mX8_179 : dk_LV RX8 179 yX8_finish cX8_finish 3 none 0 8 := ⟨⟨⟨(dk_m5 68 rfl rfl), (dk_m1 9 rfl rfl), (dk_m5 71 rfl rfl)⟩, ne1X8, ne2X8, by decide +kernel⟩, ⟨(dk_m5 70 rfl rfl), (dk_m0 47 rfl rfl)⟩, _, rfl, rfl⟩
theorem mX8_191 : dk_LV RX8 191 yX8_passes cX8_passes 8 (some .boolean) 1 8 := ⟨⟨⟨(dk_m5 80 rfl rfl), (dk_m1 9 rfl rfl), (dk_m5 83 rfl rfl)⟩, ne1X8, ne2X8, by decide +kernel⟩, ⟨(dk_m5 82 rfl rfl), (dk_m0 50 rfl rfl)⟩, _, rfl, rfl⟩
theorem mX8_194 : dk_LV RX8 194 yX8_give cX8_give 3 none 0 8 := ⟨⟨⟨(dk_m5 84 rfl rfl), (dk_m1 9 rfl rfl), (dk_m5 87 rfl rfl)⟩, ne1X8, ne2X8, by decide +kernel⟩, ⟨(dk_m5 86 rfl rfl), (dk_m0 51 rfl rfl)⟩, _, rfl, rfl⟩
theorem mX8_185 : dk_LV RX8 185 yX8_following cX8_following 9 (some .int) 1 8 := ⟨⟨⟨(dk_m5 49 rfl rfl), (dk_m1 9 rfl rfl), (dk_m5 52 rfl rfl)⟩, ne1X8, ne2X8, by decide +kernel⟩, ⟨(dk_m5 51 rfl rfl), (dk_m0 43 rfl rfl)⟩, _, rfl, rfl⟩
theorem mX8_188 : dk_LV RX8 188 yX8_step cX8_step 1 none 0 8 := ⟨⟨⟨(dk_m5 76 rfl rfl), (dk_m1 9 rfl rfl), (dk_m5 79 rfl rfl)⟩, ne1X8, ne2X8, by decide +kernel⟩, ⟨(dk_m5 78 rfl rfl), (dk_m0 49 rfl rfl)⟩, _, rfl, rfl⟩
theorem mL_7 : dk_LV RL 7 yX7_insert cX7_insert 6 (some .int) 5 7 := ⟨⟨⟨(dk_m3 20 rfl rfl), (dk_m1 1 rfl rfl), (dk_m3 23 rfl rfl)⟩, ne1X7, ne2X7, by decide +kernel⟩, ⟨(dk_m3 21 rfl rfl), (dk_m3 22 rfl rfl)⟩, _, rfl, rfl⟩
theorem mL_17 : dk_LV RL 17 yX7_delete cX7_delete 3 none 2 7 := ⟨⟨⟨(dk_m3 119 rfl rfl), (dk_m1 1 rfl rfl), (dk_m3 122 rfl rfl)⟩, ne1X7, ne2X7, by decide +kernel⟩, ⟨(dk_m3 120 rfl rfl), (dk_m3 121 rfl rfl)⟩, _, rfl, rfl⟩
theorem mL_21 : dk_LV RL 21 yX7_update cX7_update 5 none 4 7 := ⟨⟨⟨(dk_m3 142 rfl rfl), (dk_m1 1 rfl rfl), (dk_m3 145 rfl rfl)⟩, ne1X7, ne2X7, by decide +kernel⟩, ⟨(dk_m3 143 rfl rfl), (dk_m3 144 rfl rfl)⟩, _, rfl, rfl⟩
theorem mL_25 : dk_LV RL 25 yX7_cell cX7_cell 4 (some .int) 3 7 := ⟨⟨⟨(dk_m3 154 rfl rfl), (dk_m1 1 rfl rfl), (dk_m3 157 rfl rfl)⟩, ne1X7, ne2X7, by decide +kernel⟩, ⟨(dk_m3 155 rfl rfl), (dk_m3 156 rfl rfl)⟩, _, rfl, rfl⟩
theorem mL_29 : dk_LV RL 29 yX7_plan cX7_plan 2 (some .float) 0 7 := ⟨⟨⟨(dk_m3 162 rfl rfl), (dk_m1 1 rfl rfl), (dk_m3 165 rfl rfl)⟩, ne1X7, ne2X7, by decide +kernel⟩, ⟨(dk_m3 163 rfl rfl), (dk_m3 164 rfl rfl)⟩, _, rfl, rfl⟩
theorem mL_33 : dk_LV RL 33 yX7_explain cX7_explain 3 (some .int) 2 7 := ⟨⟨⟨(dk_m4 21 rfl rfl), (dk_m1 1 rfl rfl), (dk_m4 24 rfl rfl)⟩, ne1X7, ne2X7, by decide +kernel⟩, ⟨(dk_m4 22 rfl rfl), (dk_m4 23 rfl rfl)⟩, _, rfl, rfl⟩
theorem mL_39 : dk_LV RL 39 yX7_answer cX7_answer 3 (some .int) 2 7 := ⟨⟨⟨(dk_m4 44 rfl rfl), (dk_m1 1 rfl rfl), (dk_m4 47 rfl rfl)⟩, ne1X7, ne2X7, by decide +kernel⟩, ⟨(dk_m4 45 rfl rfl), (dk_m4 46 rfl rfl)⟩, _, rfl, rfl⟩
theorem mkL_8 : dk_Mk RL 8 7 := ⟨RX7, TX7, tyX7, rfl, inX7, tyX7_ok, by decide +kernel, (dk_m1 18 rfl rfl), (dk_m1 19 rfl rfl), (dk_m1 1 rfl rfl)⟩
theorem mL_42 : dk_LI RL 42 yX7_init cX7_init 2 0 := ⟨⟨⟨(dk_m1 20 rfl rfl), (dk_m1 1 rfl rfl), (dk_m1 22 rfl rfl)⟩, ne1X7, ne2X7, by decide +kernel⟩, (dk_m1 21 rfl rfl), rfl⟩
theorem mkL_43 : dk_Mk RL 43 8 := ⟨RX8, TX8, tyX8, rfl, inX8, tyX8_ok, by decide +kernel, (dk_m4 54 rfl rfl), (dk_m4 55 rfl rfl), (dk_m1 9 rfl rfl)⟩
theorem mL_45 : dk_LI RL 45 yX8_init cX8_init 1 0 := ⟨⟨⟨(dk_m4 56 rfl rfl), (dk_m1 9 rfl rfl), (dk_m4 58 rfl rfl)⟩, ne1X8, ne2X8, by decide +kernel⟩, (dk_m4 57 rfl rfl), rfl⟩
theorem mL_46 : dk_LV RL 46 yX7_create cX7_create 3 (some .boolean) 2 7 := ⟨⟨⟨(dk_m2 50 rfl rfl), (dk_m1 1 rfl rfl), (dk_m2 53 rfl rfl)⟩, ne1X7, ne2X7, by decide +kernel⟩, ⟨(dk_m2 51 rfl rfl), (dk_m2 52 rfl rfl)⟩, _, rfl, rfl⟩
theorem mL_50 : dk_LV RL 50 yX8_create cX8_create 4 (some .boolean) 2 8 := ⟨⟨⟨(dk_m4 159 rfl rfl), (dk_m1 9 rfl rfl), (dk_m4 162 rfl rfl)⟩, ne1X8, ne2X8, by decide +kernel⟩, ⟨(dk_m4 160 rfl rfl), (dk_m4 161 rfl rfl)⟩, _, rfl, rfl⟩
theorem mL_56 : dk_LV RL 56 yX8_insert cX8_insert 8 (some .int) 5 8 := ⟨⟨⟨(dk_m4 166 rfl rfl), (dk_m1 9 rfl rfl), (dk_m4 169 rfl rfl)⟩, ne1X8, ne2X8, by decide +kernel⟩, ⟨(dk_m4 167 rfl rfl), (dk_m4 168 rfl rfl)⟩, _, rfl, rfl⟩
theorem mL_57 : dk_LV RL 57 yX8_thrown cX8_thrown 1 (some .int) 0 8 := ⟨⟨⟨(dk_m4 155 rfl rfl), (dk_m1 9 rfl rfl), (dk_m4 158 rfl rfl)⟩, ne1X8, ne2X8, by decide +kernel⟩, ⟨(dk_m4 156 rfl rfl), (dk_m4 157 rfl rfl)⟩, _, rfl, rfl⟩
theorem mL_64 : dk_LV RL 64 yX8_delete cX8_delete 3 none 2 8 := ⟨⟨⟨(dk_m4 182 rfl rfl), (dk_m1 9 rfl rfl), (dk_m4 185 rfl rfl)⟩, ne1X8, ne2X8, by decide +kernel⟩, ⟨(dk_m4 183 rfl rfl), (dk_m4 184 rfl rfl)⟩, _, rfl, rfl⟩
theorem mL_68 : dk_LV RL 68 yX8_update cX8_update 5 none 4 8 := ⟨⟨⟨(dk_m4 190 rfl rfl), (dk_m1 9 rfl rfl), (dk_m4 193 rfl rfl)⟩, ne1X8, ne2X8, by decide +kernel⟩, ⟨(dk_m4 191 rfl rfl), (dk_m4 192 rfl rfl)⟩, _, rfl, rfl⟩
theorem mL_72 : dk_LV RL 72 yX8_cell cX8_cell 4 (some .int) 3 8 := ⟨⟨⟨(dk_m4 198 rfl rfl), (dk_m1 9 rfl rfl), (dk_m4 201 rfl rfl)⟩, ne1X8, ne2X8, by decide +kernel⟩, ⟨(dk_m4 199 rfl rfl), (dk_m4 200 rfl rfl)⟩, _, rfl, rfl⟩
theorem mL_73 : dk_LV RL 73 yX7_index cX7_index 4 (some .boolean) 3 7 := ⟨⟨⟨(dk_m2 70 rfl rfl), (dk_m1 1 rfl rfl), (dk_m2 73 rfl rfl)⟩, ne1X7, ne2X7, by decide +kernel⟩, ⟨(dk_m2 71 rfl rfl), (dk_m2 72 rfl rfl)⟩, _, rfl, rfl⟩
theorem mL_77 : dk_LV RL 77 yX8_index cX8_index 4 (some .boolean) 3 8 := ⟨⟨⟨(dk_m4 206 rfl rfl), (dk_m1 9 rfl rfl), (dk_m4 209 rfl rfl)⟩, ne1X8, ne2X8, by decide +kernel⟩, ⟨(dk_m4 207 rfl rfl), (dk_m4 208 rfl rfl)⟩, _, rfl, rfl⟩
theorem mL_78 : dk_LV RL 78 yX7_drop cX7_drop 4 (some .boolean) 3 7 := ⟨⟨⟨(dk_m2 101 rfl rfl), (dk_m1 1 rfl rfl), (dk_m2 104 rfl rfl)⟩, ne1X7, ne2X7, by decide +kernel⟩, ⟨(dk_m2 102 rfl rfl), (dk_m2 103 rfl rfl)⟩, _, rfl, rfl⟩
theorem mL_81 : dk_LV RL 81 yX8_drop cX8_drop 4 (some .boolean) 3 8 := ⟨⟨⟨(dk_m4 214 rfl rfl), (dk_m1 9 rfl rfl), (dk_m4 217 rfl rfl)⟩, ne1X8, ne2X8, by decide +kernel⟩, ⟨(dk_m4 215 rfl rfl), (dk_m4 216 rfl rfl)⟩, _, rfl, rfl⟩
theorem mL_82 : dk_LV RL 82 yX7_ask cX7_ask 1 none 0 7 := ⟨⟨⟨(dk_m2 105 rfl rfl), (dk_m1 1 rfl rfl), (dk_m2 108 rfl rfl)⟩, ne1X7, ne2X7, by decide +kernel⟩, ⟨(dk_m2 106 rfl rfl), (dk_m2 107 rfl rfl)⟩, _, rfl, rfl⟩
theorem mL_85 : dk_LV RL 85 yX8_ask cX8_ask 1 none 0 8 := ⟨⟨⟨(dk_m4 218 rfl rfl), (dk_m1 9 rfl rfl), (dk_m4 221 rfl rfl)⟩, ne1X8, ne2X8, by decide +kernel⟩, ⟨(dk_m4 219 rfl rfl), (dk_m4 220 rfl rfl)⟩, _, rfl, rfl⟩
theorem mL_86 : dk_LV RL 86 yX7_from cX7_from 2 (some .int) 1 7 := ⟨⟨⟨(dk_m2 109 rfl rfl), (dk_m1 1 rfl rfl), (dk_m2 112 rfl rfl)⟩, ne1X7, ne2X7, by decide +kernel⟩, ⟨(dk_m2 110 rfl rfl), (dk_m2 111 rfl rfl)⟩, _, rfl, rfl⟩
theorem mL_90 : dk_LV RL 90 yX8_from cX8_from 2 (some .int) 1 8 := ⟨⟨⟨(dk_m4 222 rfl rfl), (dk_m1 9 rfl rfl), (dk_m4 225 rfl rfl)⟩, ne1X8, ne2X8, by decide +kernel⟩, ⟨(dk_m4 223 rfl rfl), (dk_m4 224 rfl rfl)⟩, _, rfl, rfl⟩
theorem mL_91 : dk_LV RL 91 yX7_where cX7_where 5 (some .boolean) 4 7 := ⟨⟨⟨(dk_m2 117 rfl rfl), (dk_m1 1 rfl rfl), (dk_m2 120 rfl rfl)⟩, ne1X7, ne2X7, by decide +kernel⟩, ⟨(dk_m2 118 rfl rfl), (dk_m2 119 rfl rfl)⟩, _, rfl, rfl⟩
theorem mL_95 : dk_LV RL 95 yX8_where cX8_where 5 (some .boolean) 4 8 := ⟨⟨⟨(dk_m4 226 rfl rfl), (dk_m1 9 rfl rfl), (dk_m4 229 rfl rfl)⟩, ne1X8, ne2X8, by decide +kernel⟩, ⟨(dk_m4 227 rfl rfl), (dk_m4 228 rfl rfl)⟩, _, rfl, rfl⟩
theorem mL_96 : dk_LV RL 96 yX7_join cX7_join 5 (some .boolean) 4 7 := ⟨⟨⟨(dk_m2 130 rfl rfl), (dk_m1 1 rfl rfl), (dk_m2 133 rfl rfl)⟩, ne1X7, ne2X7, by decide +kernel⟩, ⟨(dk_m2 131 rfl rfl), (dk_m2 132 rfl rfl)⟩, _, rfl, rfl⟩
theorem mL_99 : dk_LV RL 99 yX8_join cX8_join 5 (some .boolean) 4 8 := ⟨⟨⟨(dk_m4 234 rfl rfl), (dk_m1 9 rfl rfl), (dk_m4 237 rfl rfl)⟩, ne1X8, ne2X8, by decide +kernel⟩, ⟨(dk_m4 235 rfl rfl), (dk_m4 236 rfl rfl)⟩, _, rfl, rfl⟩
theorem mL_100 : dk_LV RL 100 yX7_select cX7_select 3 (some .int) 2 7 := ⟨⟨⟨(dk_m2 138 rfl rfl), (dk_m1 1 rfl rfl), (dk_m2 141 rfl rfl)⟩, ne1X7, ne2X7, by decide +kernel⟩, ⟨(dk_m2 139 rfl rfl), (dk_m2 140 rfl rfl)⟩, _, rfl, rfl⟩
theorem mL_103 : dk_LV RL 103 yX8_select cX8_select 3 (some .int) 2 8 := ⟨⟨⟨(dk_m4 238 rfl rfl), (dk_m1 9 rfl rfl), (dk_m5 1 rfl rfl)⟩, ne1X8, ne2X8, by decide +kernel⟩, ⟨(dk_m4 239 rfl rfl), (dk_m5 0 rfl rfl)⟩, _, rfl, rfl⟩
theorem mL_104 : dk_LV RL 104 yX7_order cX7_order 3 (some .boolean) 2 7 := ⟨⟨⟨(dk_m2 146 rfl rfl), (dk_m1 1 rfl rfl), (dk_m2 149 rfl rfl)⟩, ne1X7, ne2X7, by decide +kernel⟩, ⟨(dk_m2 147 rfl rfl), (dk_m2 148 rfl rfl)⟩, _, rfl, rfl⟩
theorem mL_108 : dk_LV RL 108 yX8_order cX8_order 3 (some .boolean) 2 8 := ⟨⟨⟨(dk_m5 2 rfl rfl), (dk_m1 9 rfl rfl), (dk_m5 5 rfl rfl)⟩, ne1X8, ne2X8, by decide +kernel⟩, ⟨(dk_m5 3 rfl rfl), (dk_m5 4 rfl rfl)⟩, _, rfl, rfl⟩
theorem mL_109 : dk_LV RL 109 yX7_limit cX7_limit 2 (some .boolean) 1 7 := ⟨⟨⟨(dk_m2 150 rfl rfl), (dk_m1 1 rfl rfl), (dk_m2 153 rfl rfl)⟩, ne1X7, ne2X7, by decide +kernel⟩, ⟨(dk_m2 151 rfl rfl), (dk_m2 152 rfl rfl)⟩, _, rfl, rfl⟩
theorem mL_113 : dk_LV RL 113 yX8_limit cX8_limit 2 (some .boolean) 1 8 := ⟨⟨⟨(dk_m5 6 rfl rfl), (dk_m1 9 rfl rfl), (dk_m5 9 rfl rfl)⟩, ne1X8, ne2X8, by decide +kernel⟩, ⟨(dk_m5 7 rfl rfl), (dk_m5 8 rfl rfl)⟩, _, rfl, rfl⟩
theorem mL_117 : dk_LV RL 117 yX8_plan cX8_plan 5 (some .float) 0 8 := ⟨⟨⟨(dk_m5 10 rfl rfl), (dk_m1 9 rfl rfl), (dk_m5 13 rfl rfl)⟩, ne1X8, ne2X8, by decide +kernel⟩, ⟨(dk_m5 11 rfl rfl), (dk_m5 12 rfl rfl)⟩, _, rfl, rfl⟩
theorem mL_121 : dk_LV RL 121 yX8_explain cX8_explain 3 (some .int) 2 8 := ⟨⟨⟨(dk_m5 41 rfl rfl), (dk_m1 9 rfl rfl), (dk_m5 44 rfl rfl)⟩, ne1X8, ne2X8, by decide +kernel⟩, ⟨(dk_m5 42 rfl rfl), (dk_m5 43 rfl rfl)⟩, _, rfl, rfl⟩
theorem mL_122 : dk_LV RL 122 yX7_run cX7_run 3 (some .int) 1 7 := ⟨⟨⟨(dk_m2 154 rfl rfl), (dk_m1 1 rfl rfl), (dk_m2 157 rfl rfl)⟩, ne1X7, ne2X7, by decide +kernel⟩, ⟨(dk_m2 155 rfl rfl), (dk_m2 156 rfl rfl)⟩, _, rfl, rfl⟩
theorem mL_125 : dk_LV RL 125 yX8_run cX8_run 5 (some .int) 1 8 := ⟨⟨⟨(dk_m5 45 rfl rfl), (dk_m1 9 rfl rfl), (dk_m5 48 rfl rfl)⟩, ne1X8, ne2X8, by decide +kernel⟩, ⟨(dk_m5 46 rfl rfl), (dk_m5 47 rfl rfl)⟩, _, rfl, rfl⟩
theorem mL_126 : dk_LV RL 126 yX7_look cX7_look 2 (some .int) 1 7 := ⟨⟨⟨(dk_m3 4 rfl rfl), (dk_m1 1 rfl rfl), (dk_m3 7 rfl rfl)⟩, ne1X7, ne2X7, by decide +kernel⟩, ⟨(dk_m3 5 rfl rfl), (dk_m3 6 rfl rfl)⟩, _, rfl, rfl⟩
theorem mL_129 : dk_LV RL 129 yX8_look cX8_look 2 (some .int) 1 8 := ⟨⟨⟨(dk_m5 88 rfl rfl), (dk_m1 9 rfl rfl), (dk_m5 91 rfl rfl)⟩, ne1X8, ne2X8, by decide +kernel⟩, ⟨(dk_m5 89 rfl rfl), (dk_m5 90 rfl rfl)⟩, _, rfl, rfl⟩
theorem mL_132 : dk_LV RL 132 yX8_answer cX8_answer 3 (some .int) 2 8 := ⟨⟨⟨(dk_m5 92 rfl rfl), (dk_m1 9 rfl rfl), (dk_m5 95 rfl rfl)⟩, ne1X8, ne2X8, by decide +kernel⟩, ⟨(dk_m5 93 rfl rfl), (dk_m5 94 rfl rfl)⟩, _, rfl, rfl⟩
