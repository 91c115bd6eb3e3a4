/-! ===== QueryDeskModel: share, sideOf, bettered ===== -/
/-- a column of the model's table j along the rows en -/
abbrev mv (hi : Nat → Nat → Int32) (j c : Nat) (en : Nat → Nat) : Nat → Int32 := fun p => hi 49 (240 * j + 4 * en p + c)
def mnl (f : Nat → Int32) : Nat → Int64
  | 0 => 0
  | m + 1 => (mnc f m).toInt64
def mxl (f : Nat → Int32) : Nat → Int64
  | 0 => 0
  | m + 1 => (mxc f m).toInt64
theorem l_lt (a b : Int32) : a.toInt64 < b.toInt64 ↔ a < b := by
  rw [Int64.lt_iff_toInt_lt, Int32.lt_iff_toInt_lt, Int32.toInt_toInt64, Int32.toInt_toInt64]
theorem mP_u {en : Nat → Nat} {n r k m : Nat} (h1 : mP en n r k) (h2 : mP en n r m) : k = m := by
  rcases Nat.lt_trichotomy k m with q | q | q
  · have := h2.2.1 k q
    have := h1.2.2 k (Nat.le_refl _) (Nat.lt_of_lt_of_le q h2.1)
    omega
  · exact q
  · have := h1.2.1 m q
    have := h2.2.2 m (Nat.le_refl _) (Nat.lt_of_lt_of_le q h1.1)
    omega
/-- whether one of the first k values of f is v -/
def snb (f : Nat → Int32) (v : Int32) : Nat → Bool
  | 0 => false
  | k + 1 => snb f v k || decide (f k = v)
theorem snb_iff (f : Nat → Int32) (v : Int32) : ∀ k, snb f v k = true ↔ ∃ q, q < k ∧ f q = v
  | 0 => by simp [snb]
  | k + 1 => by
    rw [snb, Bool.or_eq_true, snb_iff f v k, decide_eq_true_iff]
    constructor
    · rintro (⟨q, h1, h2⟩ | h)
      · exact ⟨q, by omega, h2⟩
      · exact ⟨k, by omega, h⟩
    · rintro ⟨q, h1, h2⟩
      rcases Nat.lt_or_eq_of_le (Nat.le_of_lt_succ h1) with z | z
      · exact Or.inl ⟨q, z, h2⟩
      · exact Or.inr (by rw [← z]; exact h2)
theorem snb_sbI (f : Nat → Int32) (m : Nat) : sbI f m = bI (snb f (f m) m) := by
  by_cases h : snb f (f m) m = true
  · obtain ⟨q, h1, h2⟩ := (snb_iff _ _ _).mp h
    rw [sbI_1 h1 h2, h]; rfl
  · rw [sbI_0 (fun q h1 h2 => h ((snb_iff _ _ _).mpr ⟨q, h1, h2⟩)), Bool.eq_false_iff.mpr h]; rfl
theorem dvc_s (f : Nat → Int32) (m : Nat) : dvc f (m + 1) = dvc f m + (if snb f (f m) m = true then 0 else 1) := by
  rw [dvc, snb_sbI]
  cases snb f (f m) m <;> rfl
theorem dvc_0 (f : Nat → Int32) {m : Nat} (h : dvc f m = 0) : m = 0 := by
  cases m with
  | zero => rfl
  | succ m => have := dvc_pos f m; omega
set_option maxHeartbeats 4000000 in
set_option maxRecDepth 100000 in
theorem c_X8_share (G : dk_G) (sr : Nat → Option Nat) (hi : Nat → Nat → Int32) (hf : Nat → Nat → UInt32) (z : (Nat → Nat → Int64) × (Nat → Nat → UInt64)) (j c o n : Nat) (en : Nat → Nat) (hj : j < 3) (hc : c < 4) (ho : o < 4) (hE : mE hi j n en) (x : Int32) (f : Nat → Int32) (hf0 : f = mv hi j c en) :
    dk_MF G yX8_share cX8_share 14 (some .float) 1 23 [.ref 45, .int (nI j), .int (nI c), .int (nI o), .int x] (hi, hf, dk_RF sr, z) (some (.float (shO o x f n))) (hi, hf, dk_RF sr, z) := by
  refine dk_met (L := [some (.ref 45), some (.int (nI j)), some (.int (nI c)), some (.int (nI o)), some (.int x), none, none, none, none, none, none, none, none, none]) pnX8 rfl (Nat.le_of_ble_eq_true rfl) ?_
  intro X C E hNm
  have hn24 := hE.2.2.2
  have ev : ∀ p, hi 49 (240 * j + 4 * en p + c) = f p := fun p => by rw [hf0]
  have fin : dk_W X 172 [some (.ref 45), some (.int (nI j)), some (.int (nI c)), some (.int (nI o)), some (.int x), some (.int (nI (dvc f n))), some (.long (mnl f n)), none, some (.long (mxl f n)), none, some (.int (nI (60))), none, none, none] [] 63 (hi, hf, dk_RF sr, z) 0 0 := by
    have hdv := dvc_le f n
    refine dk_iload C dX8_share_172 rfl ?_
    refine dk_if_ne C 179 dX8_share_174 (by decide) (fun c1 => ?_) (fun c1 => ?_)
    · have hn0 : n ≠ 0 := fun q => c1 (by rw [q]; rfl)
      obtain ⟨m, rfl⟩ : ∃ m, n = m + 1 := ⟨n - 1, by omega⟩
      have h1 := dvc_pos f m
      have one : o = 0 ∨ o = 3 → dk_W X 188 [some (.ref 45), some (.int (nI j)), some (.int (nI c)), some (.int (nI o)), some (.int x), some (.int (nI (dvc f (m + 1)))), some (.long (mnl f (m + 1))), none, some (.long (mxl f (m + 1))), none, some (.int (nI (60))), none, none, none] [] 63 (hi, hf, dk_RF sr, z) 0 0 := by
        intro q
        refine dk_fconst1 C dX8_share_188 ?_
        refine dk_iload C dX8_share_189 rfl ?_
        refine dk_i2f C dX8_share_191 ?_
        refine dk_fdiv C dX8_share_192 (fb_n (fb_q1 (by omega) (by omega)) (by decide)) ?_
        refine dk_fstore C dX8_share_193 (by decide) rfl ?_
        refine dk_iload_n C dX8_share_195 rfl rfl ?_
        have e1 : FP.fdiv FP.fconst1 (FP.i2f (nI (dvc f (m + 1)))) = sh1 f (m + 1) := by rw [sh1, if_neg hn0]
        rw [e1]
        rcases q with rfl | rfl
        · refine dk_if_ne C 204 dX8_share_196 (by decide) (fun hz => absurd hz (by decide)) (fun _ => ?_)
          refine dk_fload C dX8_share_199 rfl ?_
          refine dk_goto C 208 dX8_share_201 (by decide) ?_
          exact dk_fret C E dX8_share_208 (Nat.zero_le _) (Nat.zero_le _) (⟨pF (by unfold shO; rw [if_neg hn0]; rfl), rfl⟩)
        · refine dk_if_ne C 204 dX8_share_196 (by decide) (fun _ => ?_) (fun hz => absurd hz (by decide))
          refine dk_fconst1 C dX8_share_204 ?_
          refine dk_fload C dX8_share_205 rfl ?_
          refine dk_fsub C dX8_share_207 (fb_n (fb_sub (fb_w fb_1 (by decide)) (fb_sh1 _ hn24) (by decide)) (by decide)) ?_
          exact dk_fret C E dX8_share_208 (Nat.zero_le _) (Nat.zero_le _) (⟨pF (by unfold shO; rw [if_neg hn0]; rfl), rfl⟩)
      have span : ∀ sp : Int64, shO o x f (m + 1) = shc (shq sp (mnc f m) (mxc f m)) → dk_W X 231 [some (.ref 45), some (.int (nI j)), some (.int (nI c)), some (.int (nI o)), some (.int x), some (.int (nI (dvc f (m + 1)))), some (.long (mnl f (m + 1))), none, some (.long (mxl f (m + 1))), none, some (.int (nI (60))), none, none, none] [.float (FP.l2f sp)] 63 (hi, hf, dk_RF sr, z) 0 0 := by
        intro sp hsp
        have hb := fb_shq sp (mn_le_mx f m)
        refine dk_fstore C dX8_share_231 (by decide) rfl ?_
        refine dk_lload C dX8_share_233 rfl ?_
        refine dk_lload C dX8_share_235 rfl ?_
        refine dk_lsub C dX8_share_237 ?_
        refine dk_lconst C (1) dX8_share_238 rfl ?_
        refine dk_ladd C dX8_share_239 ?_
        refine dk_l2f C dX8_share_240 ?_
        refine dk_fstore C dX8_share_241 (by decide) rfl ?_
        refine dk_fload C dX8_share_243 rfl ?_
        refine dk_fload C dX8_share_245 rfl ?_
        refine dk_fdiv C dX8_share_247 (fb_n hb (by decide)) ?_
        refine dk_fstore C dX8_share_248 (by decide) rfl ?_
        refine dk_fload C dX8_share_250 rfl ?_
        refine dk_fconst0 C dX8_share_252 ?_
        refine dk_fcmp C dX8_share_253 ?_
        rw [hsp, show shq sp (mnc f m) (mxc f m) = FP.fdiv (FP.l2f sp) (FP.l2f (mxl f (m + 1) - mnl f (m + 1) + 1)) from rfl] at E
        refine dk_if_ge C 261 dX8_share_254 (by decide) (fun c3 => ?_) (fun c3 => ?_)
        · refine dk_fload C dX8_share_261 rfl ?_
          refine dk_fconst1 C dX8_share_263 ?_
          refine dk_fcmp C dX8_share_264 ?_
          refine dk_if_le C 272 dX8_share_265 (by decide) (fun c4 => ?_) (fun c4 => ?_)
          · refine dk_fload C dX8_share_272 rfl ?_
            exact dk_fret C E dX8_share_274 (Nat.zero_le _) (Nat.zero_le _) (⟨pF (by rw [shc, if_pos c3, if_pos c4]), rfl⟩)
          · refine dk_fconst1 C dX8_share_268 ?_
            refine dk_goto C 274 dX8_share_269 (by decide) ?_
            exact dk_fret C E dX8_share_274 (Nat.zero_le _) (Nat.zero_le _) (⟨pF (by rw [shc, if_pos c3, if_neg c4]), rfl⟩)
        · refine dk_fconst0 C dX8_share_257 ?_
          refine dk_goto C 274 dX8_share_258 (by decide) ?_
          exact dk_fret C E dX8_share_274 (Nat.zero_le _) (Nat.zero_le _) (⟨pF (by rw [shc, if_neg c3]), rfl⟩)
      refine dk_iload_n C dX8_share_179 rfl rfl ?_
      rcases (show o = 0 ∨ o = 1 ∨ o = 2 ∨ o = 3 by omega) with rfl | rfl | rfl | rfl
      · refine dk_if_eq C 188 dX8_share_180 (by decide) (fun _ => ?_) (fun hz => absurd (rfl) hz)
        exact one (Or.inl rfl)
      · refine dk_if_eq C 188 dX8_share_180 (by decide) (fun hz => absurd hz (by decide)) (fun _ => ?_)
        refine dk_iload_n C dX8_share_183 rfl rfl ?_
        refine dk_iconst C (3) dX8_share_184 rfl ?_
        refine dk_icmp_ne C 209 dX8_share_185 (by decide) (fun _ => ?_) (fun hz => absurd hz (by decide))
        refine dk_iload_n C dX8_share_209 rfl rfl ?_
        refine dk_iconst C (1) dX8_share_210 rfl ?_
        refine dk_icmp_ne C 224 dX8_share_211 (by decide) (fun hz => absurd hz (by decide)) (fun _ => ?_)
        refine dk_iload C dX8_share_214 rfl ?_
        refine dk_i2l C dX8_share_216 ?_
        refine dk_lload C dX8_share_217 rfl ?_
        refine dk_lsub C dX8_share_219 ?_
        refine dk_l2f C dX8_share_220 ?_
        refine dk_goto C 231 dX8_share_221 (by decide) ?_
        exact span _ (by unfold shO; rw [if_neg hn0]; rfl)
      · refine dk_if_eq C 188 dX8_share_180 (by decide) (fun hz => absurd hz (by decide)) (fun _ => ?_)
        refine dk_iload_n C dX8_share_183 rfl rfl ?_
        refine dk_iconst C (3) dX8_share_184 rfl ?_
        refine dk_icmp_ne C 209 dX8_share_185 (by decide) (fun _ => ?_) (fun hz => absurd hz (by decide))
        refine dk_iload_n C dX8_share_209 rfl rfl ?_
        refine dk_iconst C (1) dX8_share_210 rfl ?_
        refine dk_icmp_ne C 224 dX8_share_211 (by decide) (fun _ => ?_) (fun hz => absurd hz (by decide))
        refine dk_lload C dX8_share_224 rfl ?_
        refine dk_iload C dX8_share_226 rfl ?_
        refine dk_i2l C dX8_share_228 ?_
        refine dk_lsub C dX8_share_229 ?_
        refine dk_l2f C dX8_share_230 ?_
        exact span _ (by unfold shO; rw [if_neg hn0]; rfl)
      · refine dk_if_eq C 188 dX8_share_180 (by decide) (fun hz => absurd hz (by decide)) (fun _ => ?_)
        refine dk_iload_n C dX8_share_183 rfl rfl ?_
        refine dk_iconst C (3) dX8_share_184 rfl ?_
        refine dk_icmp_ne C 209 dX8_share_185 (by decide) (fun hz => absurd hz (by decide)) (fun _ => ?_)
        exact one (Or.inr rfl)
    · have hn0 : n = 0 := dvc_0 f ((nI_eq (b := 0) (by omega) (by decide)).mp c1)
      refine dk_fconst0 C dX8_share_177 ?_
      exact dk_fret C E dX8_share_178 (Nat.zero_le _) (Nat.zero_le _) (⟨pF (by rw [shO, if_pos hn0]), rfl⟩)
  have loop : ∀ r p m, p + r = 60 → mP en n p m → dk_W X 12 [some (.ref 45), some (.int (nI j)), some (.int (nI c)), some (.int (nI o)), some (.int x), some (.int (nI (dvc f m))), some (.long (mnl f m)), none, some (.long (mxl f m)), none, some (.int (nI (p))), none, none, none] [] 63 (hi, hf, dk_RF sr, z) 0 0 := by
    intro r
    induction r with
    | zero =>
      intro p m hp hm
      obtain rfl : p = 60 := by omega
      obtain rfl := hE.end hm
      refine dk_iload C dX8_share_12 rfl ?_
      refine dk_bipush C (60) dX8_share_14 rfl ?_
      refine dk_icmp_ge C 172 dX8_share_16 (by decide) (fun _ => ?_) (fun hz => absurd (by decide) hz)
      exact fin
    | succ r ih =>
      intro p m hp hm
      have hmn := hm.1
      have hdv := dvc_le f m
      refine dk_iload C dX8_share_12 rfl ?_
      refine dk_bipush C (60) dX8_share_14 rfl ?_
      refine dk_icmp_ge C 172 dX8_share_16 (by decide) (fun hz => absurd hz (nI_ge (b := 60) (by omega) (by omega))) (fun _ => ?_)
      refine dk_aload_n C dX8_share_19 rfl rfl ?_
      refine ek_getR C fX8_16 rfl (by decide) rfl 48 rfl dX8_share_20 ?_
      refine dk_bipush C (60) dX8_share_23 rfl ?_
      refine dk_iload_n C dX8_share_25 rfl rfl ?_
      refine dk_imul C dX8_share_26 ?_
      refine dk_iload C dX8_share_27 rfl ?_
      refine dk_iadd C dX8_share_29 ?_
      refine ek_zald C rfl (by decide) (60 * j + p) (mI60 j p) (by omega) (by decide) dX8_share_30 ?_
      refine dk_if_eq C 166 dX8_share_31 (by decide) (fun c1 => ?_) (fun c1 => ?_)
      · refine dk_iinc C (nI (p + 1)) dX8_share_166 rfl (nI_1 p) (by decide) rfl ?_
        refine dk_goto C 12 dX8_share_169 (by decide) ?_
        exact ih (p + 1) m (by omega) (hE.no hm (by omega) c1)
      · obtain ⟨h1, h2, h3⟩ := hE.yes hm (by omega) c1
        have t3 : dk_W X 151 [some (.ref 45), some (.int (nI j)), some (.int (nI c)), some (.int (nI o)), some (.int x), some (.int (nI (dvc f m))), some (.long (mnl f (m + 1))), none, some (.long (mxl f (m + 1))), none, some (.int (nI (p))), some (.int (f m)), some (.int (bI (snb f (f m) m))), none] [] 63 (hi, hf, dk_RF sr, z) 0 0 := by
          refine dk_iload C dX8_share_151 rfl ?_
          refine dk_iload C dX8_share_153 rfl ?_
          refine dk_if_eq C 162 dX8_share_155 (by decide) (fun c2 => ?_) (fun c2 => ?_)
          · refine dk_iconst C (1) dX8_share_162 rfl ?_
            refine dk_iadd C dX8_share_163 ?_
            refine dk_istore C dX8_share_164 (by decide) rfl ?_
            refine dk_iinc C (nI (p + 1)) dX8_share_166 rfl (nI_1 p) (by decide) rfl ?_
            refine dk_goto C 12 dX8_share_169 (by decide) ?_
            have e : nI (dvc f m) + 1 = nI (dvc f (m + 1)) := by rw [dvc_s, bI_n0 c2]; exact nI_1 _
            rw [e]
            refine dk_forgetAt 11 (dk_forgetAt 12 ?_)
            exact ih (p + 1) (m + 1) (by omega) h3
          · refine dk_iconst C (0) dX8_share_158 rfl ?_
            refine dk_goto C 163 dX8_share_159 (by decide) ?_
            refine dk_iadd C dX8_share_163 ?_
            refine dk_istore C dX8_share_164 (by decide) rfl ?_
            refine dk_iinc C (nI (p + 1)) dX8_share_166 rfl (nI_1 p) (by decide) rfl ?_
            refine dk_goto C 12 dX8_share_169 (by decide) ?_
            have e : nI (dvc f m) + 0 = nI (dvc f (m + 1)) := by rw [dvc_s, bI_n1 c2, show (0 : Int32) = nI 0 from rfl, nI_add]; rfl
            rw [e]
            refine dk_forgetAt 11 (dk_forgetAt 12 ?_)
            exact ih (p + 1) (m + 1) (by omega) h3
        have t2a : m = 0 ∨ mxl f m < (f m).toInt64 → dk_W X 141 [some (.ref 45), some (.int (nI j)), some (.int (nI c)), some (.int (nI o)), some (.int x), some (.int (nI (dvc f m))), some (.long (mnl f (m + 1))), none, some (.long (mxl f m)), none, some (.int (nI (p))), some (.int (f m)), some (.int (bI (snb f (f m) m))), none] [] 63 (hi, hf, dk_RF sr, z) 0 0 := by
          intro q
          have e : (f m).toInt64 = mxl f (m + 1) := by
            cases m with
            | zero => rfl
            | succ m =>
              have q2 := q.resolve_left (by omega)
              show _ = (mxc f (m + 1)).toInt64
              rw [mxc, if_pos ((l_lt _ _).mp q2)]
          refine dk_iload C dX8_share_141 rfl ?_
          refine dk_i2l C dX8_share_143 ?_
          refine dk_goto C 149 dX8_share_144 (by decide) ?_
          rw [e]
          refine dk_lstore C dX8_share_149 (by decide) rfl ?_
          exact t3
        have t2 : dk_W X 127 [some (.ref 45), some (.int (nI j)), some (.int (nI c)), some (.int (nI o)), some (.int x), some (.int (nI (dvc f m))), some (.long (mnl f (m + 1))), none, some (.long (mxl f m)), none, some (.int (nI (p))), some (.int (f m)), some (.int (bI (snb f (f m) m))), none] [] 63 (hi, hf, dk_RF sr, z) 0 0 := by
          refine dk_iload C dX8_share_127 rfl ?_
          refine dk_if_eq C 141 dX8_share_129 (by decide) (fun c2 => ?_) (fun c2 => ?_)
          · exact t2a (Or.inl (dvc_0 f ((nI_eq (b := 0) (by omega) (by decide)).mp c2)))
          · refine dk_iload C dX8_share_132 rfl ?_
            refine dk_i2l C dX8_share_134 ?_
            refine dk_lload C dX8_share_135 rfl ?_
            refine dk_lcmp C dX8_share_137 ?_
            refine dk_if_le C 147 dX8_share_138 (by decide) (fun c3 => ?_) (fun c3 => ?_)
            · have e : mxl f m = mxl f (m + 1) := by
                cases m with
                | zero => exact absurd rfl c2
                | succ m =>
                  show _ = (mxc f (m + 1)).toInt64
                  have q2 := (lg_cmp_le _ _).mp c3
                  rw [mxc, if_neg (fun q => Int64.not_lt.mpr q2 ((l_lt _ _).mpr q))]
                  rfl
              refine dk_lload C dX8_share_147 rfl ?_
              rw [show (Value.long (mxl f m) :: ([] : List Value)) = [Value.long (mxl f (m + 1))] by rw [e]]
              refine dk_lstore C dX8_share_149 (by decide) rfl ?_
              exact t3
            · exact t2a (Or.inr (Int64.not_le.mp (fun q => c3 ((lg_cmp_le _ _).mpr q))))
        have t1a : m = 0 ∨ (f m).toInt64 < mnl f m → dk_W X 117 [some (.ref 45), some (.int (nI j)), some (.int (nI c)), some (.int (nI o)), some (.int x), some (.int (nI (dvc f m))), some (.long (mnl f m)), none, some (.long (mxl f m)), none, some (.int (nI (p))), some (.int (f m)), some (.int (bI (snb f (f m) m))), none] [] 63 (hi, hf, dk_RF sr, z) 0 0 := by
          intro q
          have e : (f m).toInt64 = mnl f (m + 1) := by
            cases m with
            | zero => rfl
            | succ m =>
              have q2 := q.resolve_left (by omega)
              show _ = (mnc f (m + 1)).toInt64
              rw [mnc, if_pos ((l_lt _ _).mp q2)]
          refine dk_iload C dX8_share_117 rfl ?_
          refine dk_i2l C dX8_share_119 ?_
          refine dk_goto C 125 dX8_share_120 (by decide) ?_
          rw [e]
          refine dk_lstore C dX8_share_125 (by decide) rfl ?_
          exact t2
        have t1 : dk_W X 103 [some (.ref 45), some (.int (nI j)), some (.int (nI c)), some (.int (nI o)), some (.int x), some (.int (nI (dvc f m))), some (.long (mnl f m)), none, some (.long (mxl f m)), none, some (.int (nI (p))), some (.int (f m)), some (.int (bI (snb f (f m) m))), none] [] 63 (hi, hf, dk_RF sr, z) 0 0 := by
          refine dk_iload C dX8_share_103 rfl ?_
          refine dk_if_eq C 117 dX8_share_105 (by decide) (fun c2 => ?_) (fun c2 => ?_)
          · exact t1a (Or.inl (dvc_0 f ((nI_eq (b := 0) (by omega) (by decide)).mp c2)))
          · refine dk_iload C dX8_share_108 rfl ?_
            refine dk_i2l C dX8_share_110 ?_
            refine dk_lload C dX8_share_111 rfl ?_
            refine dk_lcmp C dX8_share_113 ?_
            refine dk_if_ge C 123 dX8_share_114 (by decide) (fun c3 => ?_) (fun c3 => ?_)
            · have e : mnl f m = mnl f (m + 1) := by
                cases m with
                | zero => exact absurd rfl c2
                | succ m =>
                  show _ = (mnc f (m + 1)).toInt64
                  have q2 := (lg_cmp_ge _ _).mp c3
                  rw [mnc, if_neg (fun q => Int64.not_lt.mpr q2 ((l_lt _ _).mpr q))]
                  rfl
              refine dk_lload C dX8_share_123 rfl ?_
              rw [show (Value.long (mnl f m) :: ([] : List Value)) = [Value.long (mnl f (m + 1))] by rw [e]]
              refine dk_lstore C dX8_share_125 (by decide) rfl ?_
              exact t2
            · exact t1a (Or.inr (Int64.not_le.mp (fun q => c3 ((lg_cmp_ge _ _).mpr q))))
        have inner : ∀ r2 q k, q + r2 = p → mP en n q k → dk_W X 50 [some (.ref 45), some (.int (nI j)), some (.int (nI c)), some (.int (nI o)), some (.int x), some (.int (nI (dvc f m))), some (.long (mnl f m)), none, some (.long (mxl f m)), none, some (.int (nI (p))), some (.int (f m)), some (.int (bI (snb f (f m) k))), some (.int (nI q))] [] 63 (hi, hf, dk_RF sr, z) 0 0 := by
          intro r2
          induction r2 with
          | zero =>
            intro q k hq hk
            obtain rfl : q = p := by omega
            obtain rfl := mP_u hk hm
            refine dk_iload C dX8_share_50 rfl ?_
            refine dk_iload C dX8_share_52 rfl ?_
            refine dk_icmp_ge C 103 dX8_share_54 (by decide) (fun _ => ?_) (fun hz => absurd (Int32.le_refl _) hz)
            refine dk_forgetAt 13 ?_
            exact t1
          | succ r2 ih2 =>
            intro q k hq hk
            have yes : ∀ k', mP en n (q + 1) k' → snb f (f m) k' = true → dk_W X 90 [some (.ref 45), some (.int (nI j)), some (.int (nI c)), some (.int (nI o)), some (.int x), some (.int (nI (dvc f m))), some (.long (mnl f m)), none, some (.long (mxl f m)), none, some (.int (nI (p))), some (.int (f m)), some (.int (bI (snb f (f m) k))), some (.int (nI q))] [] 63 (hi, hf, dk_RF sr, z) 0 0 := by
              intro k' hk' hs
              refine dk_iconst C (1) dX8_share_90 rfl ?_
              refine dk_goto C 95 dX8_share_91 (by decide) ?_
              refine dk_istore C dX8_share_95 (by decide) rfl ?_
              refine dk_iinc C (nI (q + 1)) dX8_share_97 rfl (nI_1 q) (by decide) rfl ?_
              refine dk_goto C 50 dX8_share_100 (by decide) ?_
              rw [show (1 : Int32) = bI (snb f (f m) k') from bI_t hs]
              exact ih2 (q + 1) k' (by omega) hk'
            have no : ∀ k', mP en n (q + 1) k' → snb f (f m) k' = false → dk_W X 94 [some (.ref 45), some (.int (nI j)), some (.int (nI c)), some (.int (nI o)), some (.int x), some (.int (nI (dvc f m))), some (.long (mnl f m)), none, some (.long (mxl f m)), none, some (.int (nI (p))), some (.int (f m)), some (.int (bI (snb f (f m) k))), some (.int (nI q))] [] 63 (hi, hf, dk_RF sr, z) 0 0 := by
              intro k' hk' hs
              refine dk_iconst C (0) dX8_share_94 rfl ?_
              refine dk_istore C dX8_share_95 (by decide) rfl ?_
              refine dk_iinc C (nI (q + 1)) dX8_share_97 rfl (nI_1 q) (by decide) rfl ?_
              refine dk_goto C 50 dX8_share_100 (by decide) ?_
              rw [show (0 : Int32) = bI (snb f (f m) k') from bI_f hs]
              exact ih2 (q + 1) k' (by omega) hk'
            refine dk_iload C dX8_share_50 rfl ?_
            refine dk_iload C dX8_share_52 rfl ?_
            refine dk_icmp_ge C 103 dX8_share_54 (by decide) (fun hz => absurd hz (nI_ge (by omega) (by omega))) (fun _ => ?_)
            refine dk_iload C dX8_share_57 rfl ?_
            refine dk_if_ne C 90 dX8_share_59 (by decide) (fun c2 => ?_) (fun c2 => ?_)
            · by_cases c3 : hi 48 (60 * j + q) = 0
              · exact yes k (hE.no hk (by omega) c3) (bI_n1 c2)
              · exact yes (k + 1) (hE.yes hk (by omega) c3).2.2 (by rw [snb, bI_n1 c2]; rfl)
            · refine dk_aload_n C dX8_share_62 rfl rfl ?_
              refine ek_getR C fX8_16 rfl (by decide) rfl 48 rfl dX8_share_63 ?_
              refine dk_bipush C (60) dX8_share_66 rfl ?_
              refine dk_iload_n C dX8_share_68 rfl rfl ?_
              refine dk_imul C dX8_share_69 ?_
              refine dk_iload C dX8_share_70 rfl ?_
              refine dk_iadd C dX8_share_72 ?_
              refine ek_zald C rfl (by decide) (60 * j + q) (mI60 j q) (by omega) (by decide) dX8_share_73 ?_
              refine dk_if_eq C 94 dX8_share_74 (by decide) (fun c3 => ?_) (fun c3 => ?_)
              · exact no k (hE.no hk (by omega) c3) (bI_n0 c2)
              · obtain ⟨k1, k2, k3⟩ := hE.yes hk (by omega) c3
                refine dk_aload_n C dX8_share_77 rfl rfl ?_
                refine dk_iload_n C dX8_share_78 rfl rfl ?_
                refine dk_iload C dX8_share_79 rfl ?_
                refine dk_iload_n C dX8_share_81 rfl rfl ?_
                refine ek_callV C mX8_88 (c_X8_get _ _ _ _ _ j q c hj (by omega) hc) rfl (by decide) rfl rfl (Nat.le_of_ble_eq_true rfl) (by decide) (by decide) (Nat.zero_le _) (Nat.zero_le _) dX8_share_82 ?_
                refine dk_iload C dX8_share_85 rfl ?_
                rw [← k2, ev k, k2]
                refine dk_icmp_ne C 94 dX8_share_87 (by decide) (fun c4 => ?_) (fun c4 => ?_)
                · exact no (k + 1) k3 (by rw [snb, bI_n0 c2, decide_eq_false c4]; rfl)
                · exact yes (k + 1) k3 (by rw [snb, decide_eq_true c4, Bool.or_true])
        refine dk_aload_n C dX8_share_34 rfl rfl ?_
        refine dk_iload_n C dX8_share_35 rfl rfl ?_
        refine dk_iload C dX8_share_36 rfl ?_
        refine dk_iload_n C dX8_share_38 rfl rfl ?_
        refine ek_callV C mX8_88 (c_X8_get _ _ _ _ _ j p c hj (by omega) hc) rfl (by decide) rfl rfl (Nat.le_of_ble_eq_true rfl) (by decide) (by decide) (Nat.zero_le _) (Nat.zero_le _) dX8_share_39 ?_
        rw [show hi 49 (240 * j + 4 * p + c) = f m by rw [← h2]; exact ev m]
        refine dk_istore C dX8_share_42 (by decide) rfl ?_
        refine dk_iconst C (0) dX8_share_44 rfl ?_
        refine dk_istore C dX8_share_45 (by decide) rfl ?_
        refine dk_iconst C (0) dX8_share_47 rfl ?_
        refine dk_istore C dX8_share_48 (by decide) rfl ?_
        exact inner p 0 0 (by omega) (mP_0 en n)
  refine dk_iconst C (0) dX8_share_0 rfl ?_
  refine dk_istore C dX8_share_1 (by decide) rfl ?_
  refine dk_lconst C (0) dX8_share_3 rfl ?_
  refine dk_lstore C dX8_share_4 (by decide) rfl ?_
  refine dk_lconst C (0) dX8_share_6 rfl ?_
  refine dk_lstore C dX8_share_7 (by decide) rfl ?_
  refine dk_iconst C (0) dX8_share_9 rfl ?_
  refine dk_istore C dX8_share_10 (by decide) rfl ?_
  exact loop 60 0 0 (by omega) (mP_0 en n)
