/-! ===== QueryDeskModel: fewest, lessened ===== -/
theorem pl_cond_3 (b : pl_B) (m : UInt32) (x0 x1 c j : Int32) : pl_cond b m 3 x0 x1 c j = b := by
  show (if ¬ (3 : Int32) = 3 ∧ ¬ x1 = 0 then pl_cand (if (3 : Int32) = 0 ∧ ¬ x0 = 0 then pl_cand b (FP.fadd FP.fconst1 m) 1 c j else b) (FP.fadd FP.fconst2 m) 2 c j else (if (3 : Int32) = 0 ∧ ¬ x0 = 0 then pl_cand b (FP.fadd FP.fconst1 m) 1 c j else b)) = b
  rw [if_neg (fun q => q.1 rfl), if_neg (fun q => absurd q.1 (by decide))]
set_option maxHeartbeats 4000000 in
set_option maxRecDepth 100000 in
theorem c_X8_fewest (G : dk_G) (sr : Nat → Option Nat) (hi : Nat → Nat → Int32) (hf : Nat → Nat → UInt32) (z : (Nat → Nat → Int64) × (Nat → Nat → UInt64)) {g : gG} {ns nc nj : Nat} {jt : Nat → Nat} {en : Nat → Nat → Nat} (hG : mG hi g ns nc nj jt en) (s B : Nat) (bef : Nat → Bool) (hs : s < ns) (hB : bm B bef) :
    dk_MF G yX8_fewest cX8_fewest 10 (some .float) 2 56 [.ref 45, .int (nI s), .int (nI B)] (hi, hf, dk_RF sr, z) (some (.float (gB g bef nc nj s).1)) (md_nw hi (gB g bef nc nj s), hf, dk_RF sr, z) := by
  refine dk_met (L := [some (.ref 45), some (.int (nI s)), some (.int (nI B)), none, none, none, none, none, none, none]) pnX8 rfl (Nat.le_of_ble_eq_true rfl) ?_
  intro X C E hNm
  have hF := hG.F
  have hG0 := hG
  obtain ⟨⟨hn, hn3, hk⟩, h2, ⟨h3, h4, h5⟩, h6, h7, h8⟩ := hG
  obtain ⟨k1, k2, k3⟩ := hk s hs
  have hE := h2 s hs
  have hr24 := hF.2.2.1 s hs
  have hGn : ∀ b, mG (md_nw hi b) g ns nc nj jt en := fun b => hG0
  have loop2 : ∀ r j b, j + r = nj → gB g bef nc nj s = gJ g bef s nj (gC g s nc (FP.i2f (nI (gnR g s)), 0, -1, -1)) → b = gJ g bef s j (gC g s nc (FP.i2f (nI (gnR g s)), 0, -1, -1)) → dk_W X 195 [some (.ref 45), some (.int (nI s)), some (.int (nI B)), some (.int (nI (jt s))), some (.int (nI (gnR g s))), some (.float (b).1), some (.int (nI (j))), none, none, none] [] 63 (md_nw hi b, hf, dk_RF sr, z) 0 0 := by
    intro r
    induction r with
    | zero =>
      intro j b hj hb0 hb
      obtain rfl : j = nj := by omega
      refine dk_iload C dX8_fewest_195 rfl ?_
      refine dk_aload_n C dX8_fewest_197 rfl rfl ?_
      refine ek_getI C fX8_102 rfl (by decide) rfl dX8_fewest_198 ?_
      rw [show md_nw hi b 45 11 = nI j from h6]
      refine dk_icmp_ge C 320 dX8_fewest_201 (by decide) (fun _ => ?_) (fun hz => absurd (Int32.le_refl _) hz)
      refine dk_fload C dX8_fewest_320 rfl ?_
      exact dk_fret C E dX8_fewest_322 (Nat.zero_le _) (Nat.zero_le _) (⟨pF (by rw [hb0, hb]), by rw [hb0, hb]⟩)
    | succ r ih =>
      intro j b hj hb0 hb
      have hfb : fb 131 (gjs g j (gE g s j)) := hF.2.2.2.2 j _ (by omega) (gE_2 g s j)
      have e314 : ∀ b1 a7 a8 a9, b1 = gJ g bef s (j + 1) (gC g s nc (FP.i2f (nI (gnR g s)), 0, -1, -1)) → dk_W X 314 [some (.ref 45), some (.int (nI s)), some (.int (nI B)), some (.int (nI (jt s))), some (.int (nI (gnR g s))), some (.float (b1).1), some (.int (nI (j))), a7, a8, a9] [] 63 (md_nw hi b1, hf, dk_RF sr, z) 0 0 := by
        intro b1 a7 a8 a9 hb1
        refine dk_iinc C (nI (j + 1)) dX8_fewest_314 rfl (nI_1 j) (by decide) rfl ?_
        refine dk_goto C 195 dX8_fewest_317 (by decide) ?_
        refine dk_forgetAt 7 (dk_forgetAt 8 (dk_forgetAt 9 ?_))
        exact ih (j + 1) b1 (by omega) hb0 hb1
      refine dk_iload C dX8_fewest_195 rfl ?_
      refine dk_aload_n C dX8_fewest_197 rfl rfl ?_
      refine ek_getI C fX8_102 rfl (by decide) rfl dX8_fewest_198 ?_
      rw [show md_nw hi b 45 11 = nI nj from h6]
      refine dk_icmp_ge C 320 dX8_fewest_201 (by decide) (fun hz => absurd hz (nI_ge (by omega) (by omega))) (fun _ => ?_)
      refine dk_aload_n C dX8_fewest_204 rfl rfl ?_
      refine dk_iload C dX8_fewest_205 rfl ?_
      refine dk_iload_n C dX8_fewest_207 rfl rfl ?_
      refine dk_iload_n C dX8_fewest_208 rfl rfl ?_
      refine ek_callV C mX8_144 (c_X8_sideOf _ _ _ _ _ (hGn b) j s B bef (by omega) (by omega) hB) rfl (by decide) rfl rfl (Nat.le_of_ble_eq_true rfl) (by decide) (by decide) (Nat.zero_le _) (Nat.zero_le _) dX8_fewest_209 ?_
      refine dk_istore C dX8_fewest_212 (by decide) rfl ?_
      refine dk_iload C dX8_fewest_214 rfl ?_
      refine dk_if_lt C 314 dX8_fewest_216 (by decide) (fun c1 => ?_) (fun c1 => ?_)
      · have ht : ¬ gT g bef s j = true := fun q => by rw [gSd, if_pos q] at c1; exact nI_pos (by have := gE_2 g s j; omega) c1
        exact e314 b _ _ _ (by rw [gJ, if_neg ht]; exact hb)
      · have ht : gT g bef s j = true := Classical.byContradiction fun q => c1 (by rw [gSd, if_neg q]; decide)
        have hje : gje g j (gE g s j) = s := by
          rw [gT, Bool.and_eq_true] at ht
          have := of_decide_eq_true ht.1
          unfold gE
          split
          · assumption
          · exact this.resolve_left (by assumption)
        have e2 := gE_2 g s j
        obtain ⟨c, ⟨q1, q2⟩, ⟨q3, q4⟩, q5, q6, q7⟩ := (h8 j (by omega)).2 (gE g s j) e2
        rw [hje] at q5 q6 q7
        have ebJ : gJ g bef s (j + 1) (gC g s nc (FP.i2f (nI (gnR g s)), 0, -1, -1)) = pl_cond b (FP.fmul (FP.i2f (nI (gnR g s))) (gjs g j (gE g s j))) 0 (gjx g j (gE g s j) 0) (gjx g j (gE g s j) 1) (-1) (nI j) := by rw [gJ, if_pos ht, hb]
        rw [show gSd g bef s j = nI (2 * gE g s j) from by rw [gSd, if_pos ht]]
        refine dk_aload_n C dX8_fewest_219 rfl rfl ?_
        refine ek_getR C fX8_32 rfl (by decide) rfl 53 rfl dX8_fewest_220 ?_
        refine dk_iconst C (4) dX8_fewest_223 rfl ?_
        refine dk_iload C dX8_fewest_224 rfl ?_
        refine dk_imul C dX8_fewest_226 ?_
        refine dk_iload C dX8_fewest_227 rfl ?_
        refine dk_iadd C dX8_fewest_229 ?_
        refine dk_iconst C (1) dX8_fewest_230 rfl ?_
        refine dk_iadd C dX8_fewest_231 ?_
        refine ek_iald C rfl (by decide) (4 * j + 2 * gE g s j + 1) (by rw [m4_k]; exact nI_1 _) (by omega) (by decide) dX8_fewest_232 ?_
        rw [show md_nw hi b 53 (4 * j + 2 * gE g s j + 1) = nI c from q4]
        refine dk_istore C dX8_fewest_233 (by decide) rfl ?_
        refine dk_iload C dX8_fewest_235 rfl ?_
        refine dk_i2f C dX8_fewest_237 ?_
        refine dk_aload_n C dX8_fewest_238 rfl rfl ?_
        refine dk_iload_n C dX8_fewest_239 rfl rfl ?_
        refine dk_iload C dX8_fewest_240 rfl ?_
        refine dk_iconst C (0) dX8_fewest_242 rfl ?_
        refine dk_iconst C (0) dX8_fewest_243 rfl ?_
        refine ek_callV C mX8_136 (c_X8_share _ _ (md_nw hi b) _ _ (jt s) c 0 (gnR g s) (en s) k2 q2 (by decide) hE 0 (mv hi (jt s) c (en s)) rfl) rfl (by decide) rfl rfl (Nat.le_of_ble_eq_true rfl) (by decide) (by decide) (Nat.zero_le _) (Nat.zero_le _) dX8_fewest_244 ?_
        rw [← q5]
        refine dk_fmul C dX8_fewest_247 (fb_n (fb_m hr24 hfb) (by decide)) ?_
        refine dk_fstore C dX8_fewest_248 (by decide) rfl ?_
        generalize hm : FP.fmul (FP.i2f (nI (gnR g s))) (gjs g j (gE g s j)) = m at *
        have hm1 : vf_n32 (FP.fadd FP.fconst1 m) := by rw [← hm]; exact fb_n (fb_m1 hr24 hfb) (by decide)
        have hm2 : vf_n32 (FP.fadd FP.fconst2 m) := by rw [← hm]; exact fb_n (fb_m2 hr24 hfb) (by decide)
        have second : ∀ b1, pl_cond b m 0 (gjx g j (gE g s j) 0) (gjx g j (gE g s j) 1) (-1) (nI j) = (if ¬ (0 : Int32) = 3 ∧ ¬ gjx g j (gE g s j) 1 = 0 then pl_cand b1 (FP.fadd FP.fconst2 m) 2 (-1) (nI j) else b1) → dk_W X 281 [some (.ref 45), some (.int (nI s)), some (.int (nI B)), some (.int (nI (jt s))), some (.int (nI (gnR g s))), some (.float (b1).1), some (.int (nI (j))), some (.int (nI (2 * gE g s j))), some (.int (nI c)), some (.float m)] [] 63 (md_nw hi b1, hf, dk_RF sr, z) 0 0 := by
          intro b1 hb1
          refine dk_aload_n C dX8_fewest_281 rfl rfl ?_
          refine ek_getR C fX8_23 rfl (by decide) rfl 50 rfl dX8_fewest_282 ?_
          refine dk_bipush C (8) dX8_fewest_285 rfl ?_
          refine dk_iload_n C dX8_fewest_287 rfl rfl ?_
          refine dk_imul C dX8_fewest_288 ?_
          refine dk_iconst C (4) dX8_fewest_289 rfl ?_
          refine dk_iadd C dX8_fewest_290 ?_
          refine dk_iload C dX8_fewest_291 rfl ?_
          refine dk_iadd C dX8_fewest_293 ?_
          refine ek_zald C rfl (by decide) (8 * jt s + 4 + c) (mI84' (jt s) c) (by omega) (by decide) dX8_fewest_294 ?_
          rw [show md_nw hi b1 50 (8 * jt s + 4 + c) = gjx g j (gE g s j) 1 from q7.symm]
          refine dk_if_eq C 314 dX8_fewest_295 (by decide) (fun c3 => ?_) (fun c3 => ?_)
          · exact e314 b1 _ _ _ (by rw [ebJ, hb1, if_neg (fun q => q.2 c3)])
          · refine dk_aload_n C dX8_fewest_298 rfl rfl ?_
            refine dk_fload C dX8_fewest_299 rfl ?_
            refine dk_fconst2 C dX8_fewest_301 ?_
            refine dk_fload C dX8_fewest_302 rfl ?_
            refine dk_fadd C dX8_fewest_304 (hm2) ?_
            refine dk_iconst C (2) dX8_fewest_305 rfl ?_
            refine dk_iconst C (-1) dX8_fewest_306 rfl ?_
            refine dk_iload C dX8_fewest_307 rfl ?_
            refine ek_callV C mX8_140 (c_X8_bettered _ _ _ _ _ b1 _ 2 (-1) (nI j)) rfl (by decide) rfl rfl (Nat.le_of_ble_eq_true rfl) (by decide) (by decide) (Nat.zero_le _) (Nat.zero_le _) dX8_fewest_309 ?_
            refine dk_fstore C dX8_fewest_312 (by decide) rfl ?_
            exact e314 _ _ _ _ (by rw [ebJ, hb1, if_pos ⟨by decide, c3⟩])
        refine dk_aload_n C dX8_fewest_250 rfl rfl ?_
        refine ek_getR C fX8_23 rfl (by decide) rfl 50 rfl dX8_fewest_251 ?_
        refine dk_bipush C (8) dX8_fewest_254 rfl ?_
        refine dk_iload_n C dX8_fewest_256 rfl rfl ?_
        refine dk_imul C dX8_fewest_257 ?_
        refine dk_iload C dX8_fewest_258 rfl ?_
        refine dk_iadd C dX8_fewest_260 ?_
        refine ek_zald C rfl (by decide) (8 * jt s + c) (mI8 (jt s) c) (by omega) (by decide) dX8_fewest_261 ?_
        rw [show md_nw hi b 50 (8 * jt s + c) = gjx g j (gE g s j) 0 from q6.symm]
        refine dk_if_eq C 281 dX8_fewest_262 (by decide) (fun c2 => ?_) (fun c2 => ?_)
        · exact second b (by rw [pl_cond, if_neg (show ¬ ((0 : Int32) = 0 ∧ ¬ gjx g j (gE g s j) 0 = 0) from fun q => q.2 c2)])
        · refine dk_aload_n C dX8_fewest_265 rfl rfl ?_
          refine dk_fload C dX8_fewest_266 rfl ?_
          refine dk_fconst1 C dX8_fewest_268 ?_
          refine dk_fload C dX8_fewest_269 rfl ?_
          refine dk_fadd C dX8_fewest_271 (hm1) ?_
          refine dk_iconst C (1) dX8_fewest_272 rfl ?_
          refine dk_iconst C (-1) dX8_fewest_273 rfl ?_
          refine dk_iload C dX8_fewest_274 rfl ?_
          refine ek_callV C mX8_140 (c_X8_bettered _ _ _ _ _ b _ 1 (-1) (nI j)) rfl (by decide) rfl rfl (Nat.le_of_ble_eq_true rfl) (by decide) (by decide) (Nat.zero_le _) (Nat.zero_le _) dX8_fewest_276 ?_
          refine dk_fstore C dX8_fewest_279 (by decide) rfl ?_
          exact second _ (by rw [pl_cond, if_pos (show (0 : Int32) = 0 ∧ ¬ gjx g j (gE g s j) 0 = 0 from ⟨rfl, c2⟩)])
  have loop1 : ∀ r i b, i + r = nc → b = gC g s i (FP.i2f (nI (gnR g s)), 0, -1, -1) → dk_W X 37 [some (.ref 45), some (.int (nI s)), some (.int (nI B)), some (.int (nI (jt s))), some (.int (nI (gnR g s))), some (.float (b).1), some (.int (nI (i))), none, none, none] [] 63 (md_nw hi b, hf, dk_RF sr, z) 0 0 := by
    intro r
    induction r with
    | zero =>
      intro i b hi' hb
      obtain rfl : i = nc := by omega
      refine dk_iload C dX8_fewest_37 rfl ?_
      refine dk_aload_n C dX8_fewest_39 rfl rfl ?_
      refine ek_getI C fX8_99 rfl (by decide) rfl dX8_fewest_40 ?_
      rw [show md_nw hi b 45 9 = nI i from h3]
      refine dk_icmp_ge C 192 dX8_fewest_43 (by decide) (fun _ => ?_) (fun hz => absurd (Int32.le_refl _) hz)
      refine dk_iconst C (0) dX8_fewest_192 rfl ?_
      refine dk_istore C dX8_fewest_193 (by decide) rfl ?_
      exact loop2 nj 0 b (by omega) rfl hb
    | succ r ih =>
      intro i b hi' hb
      have hfb : fb 131 (gsh g i) := hF.2.2.2.1 i (by omega)
      obtain ⟨c, o, ⟨q1, q2, q3⟩, ⟨q4, q5, q6⟩, q7, q8, q9, q10⟩ := h5 i (by omega)
      have e186 : ∀ b1 a7 a8 a9, b1 = gC g s (i + 1) (FP.i2f (nI (gnR g s)), 0, -1, -1) → dk_W X 186 [some (.ref 45), some (.int (nI s)), some (.int (nI B)), some (.int (nI (jt s))), some (.int (nI (gnR g s))), some (.float (b1).1), some (.int (nI (i))), a7, a8, a9] [] 63 (md_nw hi b1, hf, dk_RF sr, z) 0 0 := by
        intro b1 a7 a8 a9 hb1
        refine dk_iinc C (nI (i + 1)) dX8_fewest_186 rfl (nI_1 i) (by decide) rfl ?_
        refine dk_goto C 37 dX8_fewest_189 (by decide) ?_
        refine dk_forgetAt 7 (dk_forgetAt 8 (dk_forgetAt 9 ?_))
        exact ih (i + 1) b1 (by omega) hb1
      refine dk_iload C dX8_fewest_37 rfl ?_
      refine dk_aload_n C dX8_fewest_39 rfl rfl ?_
      refine ek_getI C fX8_99 rfl (by decide) rfl dX8_fewest_40 ?_
      rw [show md_nw hi b 45 9 = nI nc from h3]
      refine dk_icmp_ge C 192 dX8_fewest_43 (by decide) (fun hz => absurd hz (nI_ge (by omega) (by omega))) (fun _ => ?_)
      refine dk_aload_n C dX8_fewest_46 rfl rfl ?_
      refine ek_getR C fX8_29 rfl (by decide) rfl 52 rfl dX8_fewest_47 ?_
      refine dk_iconst C (4) dX8_fewest_50 rfl ?_
      refine dk_iload C dX8_fewest_51 rfl ?_
      refine dk_imul C dX8_fewest_53 ?_
      refine dk_iconst C (1) dX8_fewest_54 rfl ?_
      refine dk_iadd C dX8_fewest_55 ?_
      refine ek_iald C rfl (by decide) (4 * i + 1) (m4_k i 1) (by omega) (by decide) dX8_fewest_56 ?_
      rw [show md_nw hi b 52 (4 * i + 1) = nI c from q5]
      refine dk_istore C dX8_fewest_57 (by decide) rfl ?_
      refine dk_aload_n C dX8_fewest_59 rfl rfl ?_
      refine ek_getR C fX8_29 rfl (by decide) rfl 52 rfl dX8_fewest_60 ?_
      refine dk_iconst C (4) dX8_fewest_63 rfl ?_
      refine dk_iload C dX8_fewest_64 rfl ?_
      refine dk_imul C dX8_fewest_66 ?_
      refine dk_iconst C (2) dX8_fewest_67 rfl ?_
      refine dk_iadd C dX8_fewest_68 ?_
      refine ek_iald C rfl (by decide) (4 * i + 2) (m4_k i 2) (by omega) (by decide) dX8_fewest_69 ?_
      rw [show md_nw hi b 52 (4 * i + 2) = nI o from q6]
      refine dk_istore C dX8_fewest_70 (by decide) rfl ?_
      refine dk_aload_n C dX8_fewest_72 rfl rfl ?_
      refine ek_getR C fX8_29 rfl (by decide) rfl 52 rfl dX8_fewest_73 ?_
      refine dk_iconst C (4) dX8_fewest_76 rfl ?_
      refine dk_iload C dX8_fewest_77 rfl ?_
      refine dk_imul C dX8_fewest_79 ?_
      refine ek_iald C rfl (by decide) (4 * i) (m4_0 i) (by omega) (by decide) dX8_fewest_80 ?_
      refine dk_iload_n C dX8_fewest_81 rfl rfl ?_
      rw [show md_nw hi b 52 (4 * i) = nI (gsrc g i) from q4]
      refine dk_icmp_ne C 186 dX8_fewest_82 (by decide) (fun c1 => ?_) (fun c1 => ?_)
      · exact e186 b _ _ _ (by rw [gC, if_neg (fun q => c1 (by rw [q]))]; exact hb)
      · have hse : gsrc g i = s := (nI_eq (by omega) (by omega)).mp c1
        rw [hse] at q8 q9 q10
        have ebC : gC g s (i + 1) (FP.i2f (nI (gnR g s)), 0, -1, -1) = pl_cond b (FP.fmul (FP.i2f (nI (gnR g s))) (gsh g i)) (nI o) (gx g 0 i) (gx g 1 i) (nI i) (-1) := by rw [gC, if_pos hse, q7, hb]
        refine dk_iload C dX8_fewest_85 rfl ?_
        refine dk_iconst C (3) dX8_fewest_87 rfl ?_
        refine dk_icmp_ge C 186 dX8_fewest_88 (by decide) (fun c2 => ?_) (fun c2 => ?_)
        · have ho : o = 3 := by
            have : ¬ nI o < 3 := Int32.not_lt.mpr c2
            rcases (show o < 3 ∨ o = 3 by omega) with q | q
            · exact absurd (nI_lt (b := 3) q (by decide)) this
            · exact q
          exact e186 b _ _ _ (by rw [ebC, ho]; exact (pl_cond_3 _ _ _ _ _ _).symm)
        · have ho : ¬ nI o = 3 := fun q => c2 (by rw [q]; exact Int32.le_refl _)
          refine dk_iload C dX8_fewest_91 rfl ?_
          refine dk_i2f C dX8_fewest_93 ?_
          refine dk_aload_n C dX8_fewest_94 rfl rfl ?_
          refine dk_iload_n C dX8_fewest_95 rfl rfl ?_
          refine dk_iload C dX8_fewest_96 rfl ?_
          refine dk_iload C dX8_fewest_98 rfl ?_
          refine dk_aload_n C dX8_fewest_100 rfl rfl ?_
          refine ek_getR C fX8_29 rfl (by decide) rfl 52 rfl dX8_fewest_101 ?_
          refine dk_iconst C (4) dX8_fewest_104 rfl ?_
          refine dk_iload C dX8_fewest_105 rfl ?_
          refine dk_imul C dX8_fewest_107 ?_
          refine dk_iconst C (3) dX8_fewest_108 rfl ?_
          refine dk_iadd C dX8_fewest_109 ?_
          refine ek_iald C rfl (by decide) (4 * i + 3) (m4_k i 3) (by omega) (by decide) dX8_fewest_110 ?_
          refine ek_callV C mX8_136 (c_X8_share _ _ (md_nw hi b) _ _ (jt s) c o (gnR g s) (en s) k2 q2 q3 hE (md_nw hi b 52 (4 * i + 3)) (mv hi (jt s) c (en s)) rfl) rfl (by decide) rfl rfl (Nat.le_of_ble_eq_true rfl) (by decide) (by decide) (Nat.zero_le _) (Nat.zero_le _) dX8_fewest_111 ?_
          rw [show shO o (md_nw hi b 52 (4 * i + 3)) (mv hi (jt s) c (en s)) (gnR g s) = gsh g i from q8.symm]
          refine dk_fmul C dX8_fewest_114 (fb_n (fb_m hr24 hfb) (by decide)) ?_
          refine dk_fstore C dX8_fewest_115 (by decide) rfl ?_
          generalize hm : FP.fmul (FP.i2f (nI (gnR g s))) (gsh g i) = m at *
          have hm1 : vf_n32 (FP.fadd FP.fconst1 m) := by rw [← hm]; exact fb_n (fb_m1 hr24 hfb) (by decide)
          have hm2 : vf_n32 (FP.fadd FP.fconst2 m) := by rw [← hm]; exact fb_n (fb_m2 hr24 hfb) (by decide)
          have second : ∀ b1, pl_cond b m (nI o) (gx g 0 i) (gx g 1 i) (nI i) (-1) = (if ¬ nI o = 3 ∧ ¬ gx g 1 i = 0 then pl_cand b1 (FP.fadd FP.fconst2 m) 2 (nI i) (-1) else b1) → dk_W X 153 [some (.ref 45), some (.int (nI s)), some (.int (nI B)), some (.int (nI (jt s))), some (.int (nI (gnR g s))), some (.float (b1).1), some (.int (nI (i))), some (.int (nI c)), some (.int (nI o)), some (.float m)] [] 63 (md_nw hi b1, hf, dk_RF sr, z) 0 0 := by
            intro b1 hb1
            refine dk_aload_n C dX8_fewest_153 rfl rfl ?_
            refine ek_getR C fX8_23 rfl (by decide) rfl 50 rfl dX8_fewest_154 ?_
            refine dk_bipush C (8) dX8_fewest_157 rfl ?_
            refine dk_iload_n C dX8_fewest_159 rfl rfl ?_
            refine dk_imul C dX8_fewest_160 ?_
            refine dk_iconst C (4) dX8_fewest_161 rfl ?_
            refine dk_iadd C dX8_fewest_162 ?_
            refine dk_iload C dX8_fewest_163 rfl ?_
            refine dk_iadd C dX8_fewest_165 ?_
            refine ek_zald C rfl (by decide) (8 * jt s + 4 + c) (mI84' (jt s) c) (by omega) (by decide) dX8_fewest_166 ?_
            rw [show md_nw hi b1 50 (8 * jt s + 4 + c) = gx g 1 i from q10.symm]
            refine dk_if_eq C 186 dX8_fewest_167 (by decide) (fun c3 => ?_) (fun c3 => ?_)
            · exact e186 b1 _ _ _ (by rw [ebC, hb1, if_neg (fun q => q.2 c3)])
            · refine dk_aload_n C dX8_fewest_170 rfl rfl ?_
              refine dk_fload C dX8_fewest_171 rfl ?_
              refine dk_fconst2 C dX8_fewest_173 ?_
              refine dk_fload C dX8_fewest_174 rfl ?_
              refine dk_fadd C dX8_fewest_176 (hm2) ?_
              refine dk_iconst C (2) dX8_fewest_177 rfl ?_
              refine dk_iload C dX8_fewest_178 rfl ?_
              refine dk_iconst C (-1) dX8_fewest_180 rfl ?_
              refine ek_callV C mX8_140 (c_X8_bettered _ _ _ _ _ b1 _ 2 (nI i) (-1)) rfl (by decide) rfl rfl (Nat.le_of_ble_eq_true rfl) (by decide) (by decide) (Nat.zero_le _) (Nat.zero_le _) dX8_fewest_181 ?_
              refine dk_fstore C dX8_fewest_184 (by decide) rfl ?_
              exact e186 _ _ _ _ (by rw [ebC, hb1, if_pos ⟨ho, c3⟩])
          refine dk_iload C dX8_fewest_117 rfl ?_
          refine dk_if_ne C 153 dX8_fewest_119 (by decide) (fun c3 => ?_) (fun c3 => ?_)
          · exact second b (by rw [pl_cond, if_neg (show ¬ (nI o = 0 ∧ ¬ gx g 0 i = 0) from fun q => c3 q.1)])
          · refine dk_aload_n C dX8_fewest_122 rfl rfl ?_
            refine ek_getR C fX8_23 rfl (by decide) rfl 50 rfl dX8_fewest_123 ?_
            refine dk_bipush C (8) dX8_fewest_126 rfl ?_
            refine dk_iload_n C dX8_fewest_128 rfl rfl ?_
            refine dk_imul C dX8_fewest_129 ?_
            refine dk_iload C dX8_fewest_130 rfl ?_
            refine dk_iadd C dX8_fewest_132 ?_
            refine ek_zald C rfl (by decide) (8 * jt s + c) (mI8 (jt s) c) (by omega) (by decide) dX8_fewest_133 ?_
            rw [show md_nw hi b 50 (8 * jt s + c) = gx g 0 i from q9.symm]
            refine dk_if_eq C 153 dX8_fewest_134 (by decide) (fun c4 => ?_) (fun c4 => ?_)
            · exact second b (by rw [pl_cond, if_neg (show ¬ (nI o = 0 ∧ ¬ gx g 0 i = 0) from fun q => q.2 c4)])
            · refine dk_aload_n C dX8_fewest_137 rfl rfl ?_
              refine dk_fload C dX8_fewest_138 rfl ?_
              refine dk_fconst1 C dX8_fewest_140 ?_
              refine dk_fload C dX8_fewest_141 rfl ?_
              refine dk_fadd C dX8_fewest_143 (hm1) ?_
              refine dk_iconst C (1) dX8_fewest_144 rfl ?_
              refine dk_iload C dX8_fewest_145 rfl ?_
              refine dk_iconst C (-1) dX8_fewest_147 rfl ?_
              refine ek_callV C mX8_140 (c_X8_bettered _ _ _ _ _ b _ 1 (nI i) (-1)) rfl (by decide) rfl rfl (Nat.le_of_ble_eq_true rfl) (by decide) (by decide) (Nat.zero_le _) (Nat.zero_le _) dX8_fewest_148 ?_
              refine dk_fstore C dX8_fewest_151 (by decide) rfl ?_
              exact second _ (by rw [pl_cond, if_pos (show nI o = 0 ∧ ¬ gx g 0 i = 0 from ⟨c3, c4⟩)])
  refine dk_aload_n C dX8_fewest_0 rfl rfl ?_
  refine ek_getR C fX8_26 rfl (by decide) rfl 51 rfl dX8_fewest_1 ?_
  refine dk_iload_n C dX8_fewest_4 rfl rfl ?_
  refine ek_iald C rfl (by decide) (s) (rfl) (by omega) (by decide) dX8_fewest_5 ?_
  rw [k1]
  refine dk_istore_n C dX8_fewest_6 rfl (by decide) rfl ?_
  refine dk_aload_n C dX8_fewest_7 rfl rfl ?_
  refine dk_iload_n C dX8_fewest_8 rfl rfl ?_
  refine ek_callV C mX8_74 (c_X8_rowsOf _ _ _ _ _ (jt s) (gnR g s) (en s) k2 hE) rfl (by decide) rfl rfl (Nat.le_of_ble_eq_true rfl) (by decide) (by decide) (Nat.zero_le _) (Nat.zero_le _) dX8_fewest_9 ?_
  refine dk_istore C dX8_fewest_12 (by decide) rfl ?_
  refine dk_iload C dX8_fewest_14 rfl ?_
  refine dk_i2f C dX8_fewest_16 ?_
  refine dk_fstore C dX8_fewest_17 (by decide) rfl ?_
  refine dk_aload_n C dX8_fewest_19 rfl rfl ?_
  refine dk_iconst C (0) dX8_fewest_20 rfl ?_
  refine ek_putI C fX8_127 fwX8_22 rfl (by decide) rfl dX8_fewest_21 ?_
  refine dk_aload_n C dX8_fewest_24 rfl rfl ?_
  refine dk_iconst C (-1) dX8_fewest_25 rfl ?_
  refine ek_putI C fX8_130 fwX8_23 rfl (by decide) rfl dX8_fewest_26 ?_
  refine dk_aload_n C dX8_fewest_29 rfl rfl ?_
  refine dk_iconst C (-1) dX8_fewest_30 rfl ?_
  refine ek_putI C fX8_133 fwX8_24 rfl (by decide) rfl dX8_fewest_31 ?_
  refine dk_iconst C (0) dX8_fewest_34 rfl ?_
  refine dk_istore C dX8_fewest_35 (by decide) rfl ?_
  exact loop1 nc 0 (FP.i2f (nI (gnR g s)), 0, -1, -1) (by omega) rfl
set_option maxHeartbeats 4000000 in
set_option maxRecDepth 100000 in
theorem c_X8_lessened (G : dk_G) (sr : Nat → Option Nat) (hi : Nat → Nat → Int32) (hf : Nat → Nat → UInt32) (z : (Nat → Nat → Int64) × (Nat → Nat → UInt64)) {g : gG} {ns nc nj : Nat} {jt : Nat → Nat} {en : Nat → Nat → Nat} (hG : mG hi g ns nc nj jt en) (s B : Nat) (bef : Nat → Bool) (hs : s < ns) (hB : bm B bef) {K : Nat} {c0 : UInt32} (hc0 : fb K c0) (hK : 20 ≤ K ∧ K ≤ 212) :
    dk_MF G yX8_lessened cX8_lessened 8 (some .float) 2 56 [.ref 45, .float c0, .int (nI s), .int (nI B)] (hi, hf, dk_RF sr, z) (some (.float (gN g bef nc nj s c0))) (hi, hf, dk_RF sr, z) := by
  refine dk_met (L := [some (.ref 45), some (.float c0), some (.int (nI s)), some (.int (nI B)), none, none, none, none]) pnX8 rfl (Nat.le_of_ble_eq_true rfl) ?_
  intro X C E hNm
  have hF := hG.F
  have hG0 := hG
  obtain ⟨⟨hn, hn3, hk⟩, h2, ⟨h3, h4, h5⟩, h6, h7, h8⟩ := hG
  obtain ⟨k1, k2, k3⟩ := hk s hs
  have hE := h2 s hs
  have hr24 := hF.2.2.1 s hs
  have hb0 : fb (K + 7) (FP.fmul c0 (FP.i2f (nI (gnR g s)))) := fb_w (fb_mul hc0 (fb_i hr24) (by omega) (by decide)) (by omega)
  have loop2 : ∀ r j c, j + r = nj → c = gNJ g bef s j (gNC g s nc (FP.fmul c0 (FP.i2f (nI (gnR g s))))) → dk_W X 97 [some (.ref 45), some (.float c0), some (.int (nI s)), some (.int (nI B)), some (.int (nI (jt s))), some (.float (c)), some (.int (nI (j))), none] [] 63 (hi, hf, dk_RF sr, z) 0 0 := by
    intro r
    induction r with
    | zero =>
      intro j c hj hb
      obtain rfl : j = nj := by omega
      refine dk_iload C dX8_lessened_97 rfl ?_
      refine dk_aload_n C dX8_lessened_99 rfl rfl ?_
      refine ek_getI C fX8_102 rfl (by decide) rfl dX8_lessened_100 ?_
      rw [h6]
      refine dk_icmp_ge C 154 dX8_lessened_103 (by decide) (fun _ => ?_) (fun hz => absurd (Int32.le_refl _) hz)
      refine dk_fload C dX8_lessened_154 rfl ?_
      exact dk_fret C E dX8_lessened_156 (Nat.zero_le _) (Nat.zero_le _) (⟨pF (by rw [hb]; rfl), rfl⟩)
    | succ r ih =>
      intro j c hj hb
      have hfb : fb 131 (gjs g j (gE g s j)) := hF.2.2.2.2 j _ (by omega) (gE_2 g s j)
      have hbb : fb (K + 7 + 5 * nc + 5 * j) c := by rw [hb]; exact gF_NJ hF bef s (gF_NC hF s hb0 (by omega) nc (Nat.le_refl _)) (by omega) j (by omega)
      have e148 : ∀ c1 a7, c1 = gNJ g bef s (j + 1) (gNC g s nc (FP.fmul c0 (FP.i2f (nI (gnR g s))))) → dk_W X 148 [some (.ref 45), some (.float c0), some (.int (nI s)), some (.int (nI B)), some (.int (nI (jt s))), some (.float (c1)), some (.int (nI (j))), a7] [] 63 (hi, hf, dk_RF sr, z) 0 0 := by
        intro c1 a7 hb1
        refine dk_iinc C (nI (j + 1)) dX8_lessened_148 rfl (nI_1 j) (by decide) rfl ?_
        refine dk_goto C 97 dX8_lessened_151 (by decide) ?_
        refine dk_forgetAt 7 ?_
        exact ih (j + 1) c1 (by omega) hb1
      refine dk_iload C dX8_lessened_97 rfl ?_
      refine dk_aload_n C dX8_lessened_99 rfl rfl ?_
      refine ek_getI C fX8_102 rfl (by decide) rfl dX8_lessened_100 ?_
      rw [h6]
      refine dk_icmp_ge C 154 dX8_lessened_103 (by decide) (fun hz => absurd hz (nI_ge (by omega) (by omega))) (fun _ => ?_)
      refine dk_aload_n C dX8_lessened_106 rfl rfl ?_
      refine dk_iload C dX8_lessened_107 rfl ?_
      refine dk_iload_n C dX8_lessened_109 rfl rfl ?_
      refine dk_iload_n C dX8_lessened_110 rfl rfl ?_
      refine ek_callV C mX8_144 (c_X8_sideOf _ _ _ _ _ hG0 j s B bef (by omega) (by omega) hB) rfl (by decide) rfl rfl (Nat.le_of_ble_eq_true rfl) (by decide) (by decide) (Nat.zero_le _) (Nat.zero_le _) dX8_lessened_111 ?_
      refine dk_istore C dX8_lessened_114 (by decide) rfl ?_
      refine dk_iload C dX8_lessened_116 rfl ?_
      refine dk_if_lt C 148 dX8_lessened_118 (by decide) (fun c1 => ?_) (fun c1 => ?_)
      · have ht : ¬ gT g bef s j = true := fun q => by rw [gSd, if_pos q] at c1; exact nI_pos (by have := gE_2 g s j; omega) c1
        exact e148 c _ (by rw [gNJ, if_neg ht]; exact hb)
      · have ht : gT g bef s j = true := Classical.byContradiction fun q => c1 (by rw [gSd, if_neg q]; decide)
        have hje : gje g j (gE g s j) = s := by
          rw [gT, Bool.and_eq_true] at ht
          have := of_decide_eq_true ht.1
          unfold gE
          split
          · assumption
          · exact this.resolve_left (by assumption)
        have e2 := gE_2 g s j
        obtain ⟨cc, ⟨q1, q2⟩, ⟨q3, q4⟩, q5, q6, q7⟩ := (h8 j (by omega)).2 (gE g s j) e2
        rw [hje] at q5
        rw [show gSd g bef s j = nI (2 * gE g s j) from by rw [gSd, if_pos ht]]
        refine dk_fload C dX8_lessened_121 rfl ?_
        refine dk_aload_n C dX8_lessened_123 rfl rfl ?_
        refine dk_iload C dX8_lessened_124 rfl ?_
        refine dk_aload_n C dX8_lessened_126 rfl rfl ?_
        refine ek_getR C fX8_32 rfl (by decide) rfl 53 rfl dX8_lessened_127 ?_
        refine dk_iconst C (4) dX8_lessened_130 rfl ?_
        refine dk_iload C dX8_lessened_131 rfl ?_
        refine dk_imul C dX8_lessened_133 ?_
        refine dk_iload C dX8_lessened_134 rfl ?_
        refine dk_iadd C dX8_lessened_136 ?_
        refine dk_iconst C (1) dX8_lessened_137 rfl ?_
        refine dk_iadd C dX8_lessened_138 ?_
        refine ek_iald C rfl (by decide) (4 * j + 2 * gE g s j + 1) (by rw [m4_k]; exact nI_1 _) (by omega) (by decide) dX8_lessened_139 ?_
        rw [q4]
        refine dk_iconst C (0) dX8_lessened_140 rfl ?_
        refine dk_iconst C (0) dX8_lessened_141 rfl ?_
        refine ek_callV C mX8_136 (c_X8_share _ _ _ _ _ (jt s) cc 0 (gnR g s) (en s) k2 q2 (by decide) hE 0 (mv hi (jt s) cc (en s)) rfl) rfl (by decide) rfl rfl (Nat.le_of_ble_eq_true rfl) (by decide) (by decide) (Nat.zero_le _) (Nat.zero_le _) dX8_lessened_142 ?_
        rw [← q5]
        refine dk_fmul C dX8_lessened_145 (fb_n (fb_mul hbb hfb (by omega) (by decide)) (by omega)) ?_
        refine dk_fstore C dX8_lessened_146 (by decide) rfl ?_
        exact e148 _ _ (by rw [gNJ, if_pos ht, hb])
  have loop1 : ∀ r i c, i + r = nc → c = gNC g s i (FP.fmul c0 (FP.i2f (nI (gnR g s)))) → dk_W X 22 [some (.ref 45), some (.float c0), some (.int (nI s)), some (.int (nI B)), some (.int (nI (jt s))), some (.float (c)), some (.int (nI (i))), none] [] 63 (hi, hf, dk_RF sr, z) 0 0 := by
    intro r
    induction r with
    | zero =>
      intro i c hi' hb
      obtain rfl : i = nc := by omega
      refine dk_iload C dX8_lessened_22 rfl ?_
      refine dk_aload_n C dX8_lessened_24 rfl rfl ?_
      refine ek_getI C fX8_99 rfl (by decide) rfl dX8_lessened_25 ?_
      rw [h3]
      refine dk_icmp_ge C 94 dX8_lessened_28 (by decide) (fun _ => ?_) (fun hz => absurd (Int32.le_refl _) hz)
      refine dk_iconst C (0) dX8_lessened_94 rfl ?_
      refine dk_istore C dX8_lessened_95 (by decide) rfl ?_
      exact loop2 nj 0 c (by omega) hb
    | succ r ih =>
      intro i c hi' hb
      have hfb : fb 131 (gsh g i) := hF.2.2.2.1 i (by omega)
      have hbb : fb (K + 7 + 5 * i) c := by rw [hb]; exact gF_NC hF s hb0 (by omega) i (by omega)
      obtain ⟨cc, o, ⟨q1, q2, q3⟩, ⟨q4, q5, q6⟩, q7, q8, q9, q10⟩ := h5 i (by omega)
      refine dk_iload C dX8_lessened_22 rfl ?_
      refine dk_aload_n C dX8_lessened_24 rfl rfl ?_
      refine ek_getI C fX8_99 rfl (by decide) rfl dX8_lessened_25 ?_
      rw [h3]
      refine dk_icmp_ge C 94 dX8_lessened_28 (by decide) (fun hz => absurd hz (nI_ge (by omega) (by omega))) (fun _ => ?_)
      refine dk_aload_n C dX8_lessened_31 rfl rfl ?_
      refine ek_getR C fX8_29 rfl (by decide) rfl 52 rfl dX8_lessened_32 ?_
      refine dk_iconst C (4) dX8_lessened_35 rfl ?_
      refine dk_iload C dX8_lessened_36 rfl ?_
      refine dk_imul C dX8_lessened_38 ?_
      refine ek_iald C rfl (by decide) (4 * i) (m4_0 i) (by omega) (by decide) dX8_lessened_39 ?_
      refine dk_iload_n C dX8_lessened_40 rfl rfl ?_
      rw [q4]
      refine dk_icmp_ne C 88 dX8_lessened_41 (by decide) (fun c1 => ?_) (fun c1 => ?_)
      · refine dk_iinc C (nI (i + 1)) dX8_lessened_88 rfl (nI_1 i) (by decide) rfl ?_
        refine dk_goto C 22 dX8_lessened_91 (by decide) ?_
        exact ih (i + 1) c (by omega) (by rw [gNC, if_neg (fun q => c1 (by rw [q]))]; exact hb)
      · have hse : gsrc g i = s := (nI_eq (by omega) (by omega)).mp c1
        rw [hse] at q8
        refine dk_fload C dX8_lessened_44 rfl ?_
        refine dk_aload_n C dX8_lessened_46 rfl rfl ?_
        refine dk_iload C dX8_lessened_47 rfl ?_
        refine dk_aload_n C dX8_lessened_49 rfl rfl ?_
        refine ek_getR C fX8_29 rfl (by decide) rfl 52 rfl dX8_lessened_50 ?_
        refine dk_iconst C (4) dX8_lessened_53 rfl ?_
        refine dk_iload C dX8_lessened_54 rfl ?_
        refine dk_imul C dX8_lessened_56 ?_
        refine dk_iconst C (1) dX8_lessened_57 rfl ?_
        refine dk_iadd C dX8_lessened_58 ?_
        refine ek_iald C rfl (by decide) (4 * i + 1) (m4_k i 1) (by omega) (by decide) dX8_lessened_59 ?_
        rw [q5]
        refine dk_aload_n C dX8_lessened_60 rfl rfl ?_
        refine ek_getR C fX8_29 rfl (by decide) rfl 52 rfl dX8_lessened_61 ?_
        refine dk_iconst C (4) dX8_lessened_64 rfl ?_
        refine dk_iload C dX8_lessened_65 rfl ?_
        refine dk_imul C dX8_lessened_67 ?_
        refine dk_iconst C (2) dX8_lessened_68 rfl ?_
        refine dk_iadd C dX8_lessened_69 ?_
        refine ek_iald C rfl (by decide) (4 * i + 2) (m4_k i 2) (by omega) (by decide) dX8_lessened_70 ?_
        rw [q6]
        refine dk_aload_n C dX8_lessened_71 rfl rfl ?_
        refine ek_getR C fX8_29 rfl (by decide) rfl 52 rfl dX8_lessened_72 ?_
        refine dk_iconst C (4) dX8_lessened_75 rfl ?_
        refine dk_iload C dX8_lessened_76 rfl ?_
        refine dk_imul C dX8_lessened_78 ?_
        refine dk_iconst C (3) dX8_lessened_79 rfl ?_
        refine dk_iadd C dX8_lessened_80 ?_
        refine ek_iald C rfl (by decide) (4 * i + 3) (m4_k i 3) (by omega) (by decide) dX8_lessened_81 ?_
        refine ek_callV C mX8_136 (c_X8_share _ _ _ _ _ (jt s) cc o (gnR g s) (en s) k2 q2 q3 hE (hi 52 (4 * i + 3)) (mv hi (jt s) cc (en s)) rfl) rfl (by decide) rfl rfl (Nat.le_of_ble_eq_true rfl) (by decide) (by decide) (Nat.zero_le _) (Nat.zero_le _) dX8_lessened_82 ?_
        rw [← q8]
        refine dk_fmul C dX8_lessened_85 (fb_n (fb_mul hbb hfb (by omega) (by decide)) (by omega)) ?_
        refine dk_fstore C dX8_lessened_86 (by decide) rfl ?_
        refine dk_iinc C (nI (i + 1)) dX8_lessened_88 rfl (nI_1 i) (by decide) rfl ?_
        refine dk_goto C 22 dX8_lessened_91 (by decide) ?_
        exact ih (i + 1) _ (by omega) (by rw [gNC, if_pos hse, hb])
  refine dk_aload_n C dX8_lessened_0 rfl rfl ?_
  refine ek_getR C fX8_26 rfl (by decide) rfl 51 rfl dX8_lessened_1 ?_
  refine dk_iload_n C dX8_lessened_4 rfl rfl ?_
  refine ek_iald C rfl (by decide) (s) (rfl) (by omega) (by decide) dX8_lessened_5 ?_
  rw [k1]
  refine dk_istore C dX8_lessened_6 (by decide) rfl ?_
  refine dk_fload_n C dX8_lessened_8 rfl rfl ?_
  refine dk_aload_n C dX8_lessened_9 rfl rfl ?_
  refine dk_iload C dX8_lessened_10 rfl ?_
  refine ek_callV C mX8_74 (c_X8_rowsOf _ _ _ _ _ (jt s) (gnR g s) (en s) k2 hE) rfl (by decide) rfl rfl (Nat.le_of_ble_eq_true rfl) (by decide) (by decide) (Nat.zero_le _) (Nat.zero_le _) dX8_lessened_12 ?_
  refine dk_i2f C dX8_lessened_15 ?_
  refine dk_fmul C dX8_lessened_16 (fb_n hb0 (by omega)) ?_
  refine dk_fstore C dX8_lessened_17 (by decide) rfl ?_
  refine dk_iconst C (0) dX8_lessened_19 rfl ?_
  refine dk_istore C dX8_lessened_20 (by decide) rfl ?_
  exact loop1 nc 0 _ (by omega) rfl
