/-! ===== QueryDeskModel: following, passes ===== -/
/-- the row read last at k: none, or a place -/
def mCur (hi : Nat → Nat → Int32) (en : Nat → Nat) (n k : Nat) (cur : Option Nat) : Prop := (cur = none ∧ hi 59 k = -1) ∨ ∃ a, cur = some a ∧ a < n ∧ hi 59 k = nI (en a)
theorem bif_and {a b : Bool} (h1 : a = true) (h2 : b = true) : (a && b) = true := by rw [h1, h2]; rfl
theorem fwI_neg (en : Nat → Nat) (o : Option Nat) (h : ∀ x, o = some x → en x < 2 ^ 31) : fwI en o < 0 ↔ o = none := by
  cases o with
  | none => exact ⟨fun _ => rfl, fun _ => (by decide : (-1 : Int32) < 0)⟩
  | some x => exact ⟨fun q => absurd q (nI_pos (h x rfl)), fun q => by cases q⟩
set_option maxHeartbeats 8000000 in
set_option maxRecDepth 100000 in
theorem c_X8_following (G : dk_G) (sr : Nat → Option Nat) (hi : Nat → Nat → Int32) (hf : Nat → Nat → UInt32) (z : (Nat → Nat → Int64) × (Nat → Nat → UInt64)) {q : aQ} {p : aP} {ns nc nj no : Nat} {jt : Nat → Nat} {en : Nat → Nat → Nat} (hQ : mQ hi q ns nc nj no jt en) (hp : mPl hi p ns) (hW : aW q p ns nc nj) (rp : Nat → Nat) (k : Nat) (hk : k < ns) (hat : ∀ i, i < k → mAt hi q p en rp i) (cur : Option Nat) (hcur : mCur hi (en (po p k)) (qn q (po p k)) k cur) :
    dk_MF G yX8_following cX8_following 9 (some .int) 2 48 [.ref 45, .int (nI k)] (hi, hf, dk_RF sr, z) (some (.int (fwI (en (po p k)) (fwd (lvP q p rp k) (mB (pw p k) (lvF q p k)) cur (qn q (po p k)))))) (hi, hf, dk_RF sr, z) := by
  refine dk_met (L := [some (.ref 45), some (.int (nI k)), none, none, none, none, none, none, none]) pnX8 rfl (Nat.le_of_ble_eq_true rfl) ?_
  intro X C E hNm
  have hQ0 := hQ
  obtain ⟨⟨hn, hn3, h1⟩, h2, h3, ⟨h4, h5, h9⟩, ⟨h6, h7, h8⟩, -⟩ := hQ
  obtain ⟨w1, w2, w3⟩ := hW k hk
  obtain ⟨p1, p2, p3, p4⟩ := hp k hk
  obtain ⟨s1, s2, s3⟩ := h1 _ w1
  have hE := h2 _ w1
  have ev : ∀ c x, c < 4 → x < qn q (po p k) → hi 49 (240 * jt (po p k) + 4 * en (po p k) x + c) = qV q (po p k) c x := fun c x hc hx => h3 _ c x w1 hc hx
  have mono : ∀ a b, a < qn q (po p k) → b < qn q (po p k) → (en (po p k) a < en (po p k) b ↔ a < b) := by
    intro a b ha hb
    rcases Nat.lt_trichotomy a b with h | h | h
    · exact ⟨fun _ => h, fun _ => hE.1 a b h hb⟩
    · subst h; omega
    · have := hE.1 b a h ha; omega
  have main : ∀ (cv : Int32) (c ov : Nat) (num : Int32), ov < 4 → ((cv = -1 ∧ ¬ pw p k = 2 ∧ (∀ x, x < qn q (po p k) → lvP q p rp k x = true)) ∨ (cv = nI c ∧ c < 4 ∧ lvF q p k = qV q (po p k) c ∧ ∀ x, x < qn q (po p k) → lvP q p rp k x = cn_b ov (qV q (po p k) c x) num)) →
      dk_W X 153 [some (.ref 45), some (.int (nI k)), some (.int (nI (jt (po p k)))), some (.int (cv)), some (.int (nI ov)), some (.int (num)), none, none, none] [] 63 (hi, hf, dk_RF sr, z) 0 0 := by
    intro cv c ov num hov hcv
    have bef : ∀ a b, a < qn q (po p k) → b < qn q (po p k) → dk_MF G yX8_before cX8_before 6 (some .boolean) 1 23 [.ref 45, .int (nI (jt (po p k))), .int (nI k), .int cv, .int (nI (en (po p k) a)), .int (nI (en (po p k) b))] (hi, hf, dk_RF sr, z) (some (.int (bI (mB (pw p k) (lvF q p k) a b)))) (hi, hf, dk_RF sr, z) := by
      intro a b ha hb
      have h60a := hE.2.1 a ha
      have h60b := hE.2.1 b hb
      have hx := c_X8_before G sr hi hf z (jt (po p k)) k (en (po p k) a) (en (po p k) b) c cv s2 (by omega) h60a h60b (fun w => by
        rcases hcv with ⟨g1, g2, g3⟩ | ⟨g1, g2, g3, g4⟩
        · exact absurd (p2.symm.trans w) g2
        · exact ⟨g1, g2⟩)
      have em : (if hi 56 k = 2 ∧ ¬ hi 49 (240 * jt (po p k) + 4 * en (po p k) a + c) = hi 49 (240 * jt (po p k) + 4 * en (po p k) b + c) then decide (hi 49 (240 * jt (po p k) + 4 * en (po p k) a + c) < hi 49 (240 * jt (po p k) + 4 * en (po p k) b + c)) else decide (en (po p k) a < en (po p k) b)) = mB (pw p k) (lvF q p k) a b := by
        unfold mB
        rw [p2]
        have ed : decide (en (po p k) a < en (po p k) b) = decide (a < b) := by
          congr 1
          exact propext (mono a b ha hb)
        rw [ed]
        rcases hcv with ⟨g1, g2, g3⟩ | ⟨g1, g2, g3, g4⟩
        · rw [if_neg (fun w => g2 w.1), if_neg (fun w => g2 w.1)]
        · rw [g3, ev c a g2 ha, ev c b g2 hb]
      rw [em] at hx
      exact hx
    have loop : ∀ r y m, y + r = 60 → mP (en (po p k)) (qn q (po p k)) y m → dk_W X 159 [some (.ref 45), some (.int (nI k)), some (.int (nI (jt (po p k)))), some (.int (cv)), some (.int (nI ov)), some (.int (num)), some (.int (fwI (en (po p k)) (fwd (lvP q p rp k) (mB (pw p k) (lvF q p k)) cur m))), some (.int (nI y)), none] [] 63 (hi, hf, dk_RF sr, z) 0 0 := by
      intro r
      induction r with
      | zero =>
        intro y m hy hm
        obtain rfl : y = 60 := by omega
        obtain rfl := hE.end hm
        refine dk_iload C dX8_following_159 rfl ?_
        refine dk_bipush C (60) dX8_following_161 rfl ?_
        refine dk_icmp_ge C 271 dX8_following_163 (by decide) (fun _ => ?_) (fun hz => absurd (by decide) hz)
        refine dk_iload C dX8_following_271 rfl ?_
        exact dk_iret C E dX8_following_273 (Nat.zero_le _) (Nat.zero_le _) (⟨rfl, rfl⟩)
      | succ r ih =>
        intro y m hy hm
        have hfl : ∀ x, fwd (lvP q p rp k) (mB (pw p k) (lvF q p k)) cur m = some x → x < m := fun x => fwd_lt
        have hfe : ∀ x, fwd (lvP q p rp k) (mB (pw p k) (lvF q p k)) cur m = some x → en (po p k) x < 2 ^ 31 := fun x hx => by
          have := hE.2.1 x (Nat.lt_of_lt_of_le (hfl x hx) hm.1)
          omega
        have next : ∀ m', mP (en (po p k)) (qn q (po p k)) (y + 1) m' → fwd (lvP q p rp k) (mB (pw p k) (lvF q p k)) cur m' = fwd (lvP q p rp k) (mB (pw p k) (lvF q p k)) cur m → ∀ a8, dk_W X 265 [some (.ref 45), some (.int (nI k)), some (.int (nI (jt (po p k)))), some (.int (cv)), some (.int (nI ov)), some (.int (num)), some (.int (fwI (en (po p k)) (fwd (lvP q p rp k) (mB (pw p k) (lvF q p k)) cur m))), some (.int (nI y)), a8] [] 63 (hi, hf, dk_RF sr, z) 0 0 := by
          intro m' hm' he a8
          refine dk_iinc C (nI (y + 1)) dX8_following_265 rfl (nI_1 y) (by decide) rfl ?_
          refine dk_goto C 159 dX8_following_268 (by decide) ?_
          refine dk_forgetAt 8 ?_
          rw [← he]
          exact ih (y + 1) m' (by omega) hm'
        refine dk_iload C dX8_following_159 rfl ?_
        refine dk_bipush C (60) dX8_following_161 rfl ?_
        refine dk_icmp_ge C 271 dX8_following_163 (by decide) (fun hz => absurd hz (nI_ge (b := 60) (by omega) (by omega))) (fun _ => ?_)
        refine dk_aload_n C dX8_following_166 rfl rfl ?_
        refine ek_getR C fX8_16 rfl (by decide) rfl 48 rfl dX8_following_167 ?_
        refine dk_bipush C (60) dX8_following_170 rfl ?_
        refine dk_iload_n C dX8_following_172 rfl rfl ?_
        refine dk_imul C dX8_following_173 ?_
        refine dk_iload C dX8_following_174 rfl ?_
        refine dk_iadd C dX8_following_176 ?_
        refine ek_zald C rfl (by decide) (60 * jt (po p k) + y) (mI60 (jt (po p k)) y) (by omega) (by decide) dX8_following_177 ?_
        refine dk_if_eq C 207 dX8_following_178 (by decide) (fun c1 => ?_) (fun c1 => ?_)
        · refine dk_iconst C (0) dX8_following_207 rfl ?_
          refine dk_istore C dX8_following_208 (by decide) rfl ?_
          refine dk_iload C dX8_following_210 rfl ?_
          refine dk_if_eq C 265 dX8_following_212 (by decide) (fun _ => ?_) (fun hz => absurd (rfl) hz)
          exact next m (hE.no hm (by omega) c1) rfl _
        · obtain ⟨y1, y2, y3⟩ := hE.yes hm (by omega) c1
          have isno : lvP q p rp k m = false → dk_W X 207 [some (.ref 45), some (.int (nI k)), some (.int (nI (jt (po p k)))), some (.int (cv)), some (.int (nI ov)), some (.int (num)), some (.int (fwI (en (po p k)) (fwd (lvP q p rp k) (mB (pw p k) (lvF q p k)) cur m))), some (.int (nI y)), none] [] 63 (hi, hf, dk_RF sr, z) 0 0 := by
            intro hno
            refine dk_iconst C (0) dX8_following_207 rfl ?_
            refine dk_istore C dX8_following_208 (by decide) rfl ?_
            refine dk_iload C dX8_following_210 rfl ?_
            refine dk_if_eq C 265 dX8_following_212 (by decide) (fun _ => ?_) (fun hz => absurd (rfl) hz)
            exact next (m + 1) y3 (by rw [fwd, if_neg (fun w => by rw [hno] at w; exact absurd w.1 (by decide))]) _
          have isyes : lvP q p rp k m = true → dk_W X 203 [some (.ref 45), some (.int (nI k)), some (.int (nI (jt (po p k)))), some (.int (cv)), some (.int (nI ov)), some (.int (num)), some (.int (fwI (en (po p k)) (fwd (lvP q p rp k) (mB (pw p k) (lvF q p k)) cur m))), some (.int (nI y)), none] [] 63 (hi, hf, dk_RF sr, z) 0 0 := by
            intro hyes
            have take : (∀ a, cur = some a → mB (pw p k) (lvF q p k) a m = true) → (∀ x, fwd (lvP q p rp k) (mB (pw p k) (lvF q p k)) cur m = some x → mB (pw p k) (lvF q p k) m x = true) → dk_W X 261 [some (.ref 45), some (.int (nI k)), some (.int (nI (jt (po p k)))), some (.int (cv)), some (.int (nI ov)), some (.int (num)), some (.int (fwI (en (po p k)) (fwd (lvP q p rp k) (mB (pw p k) (lvF q p k)) cur m))), some (.int (nI y)), some (.int 1)] [] 63 (hi, hf, dk_RF sr, z) 0 0 := by
              intro g1 g2
              have e1 : fwI (en (po p k)) (fwd (lvP q p rp k) (mB (pw p k) (lvF q p k)) cur (m + 1)) = nI y := by rw [fwd, if_pos ⟨hyes, g1, g2⟩, fwI, y2]
              refine dk_iload C dX8_following_261 rfl ?_
              refine dk_istore C dX8_following_263 (by decide) rfl ?_
              refine dk_iinc C (nI (y + 1)) dX8_following_265 rfl (nI_1 y) (by decide) rfl ?_
              refine dk_goto C 159 dX8_following_268 (by decide) ?_
              refine dk_forgetAt 8 ?_
              have hh := ih (y + 1) (m + 1) (by omega) y3
              rw [e1] at hh
              exact hh
            have after : (∀ a, cur = some a → mB (pw p k) (lvF q p k) a m = true) → dk_W X 242 [some (.ref 45), some (.int (nI k)), some (.int (nI (jt (po p k)))), some (.int (cv)), some (.int (nI ov)), some (.int (num)), some (.int (fwI (en (po p k)) (fwd (lvP q p rp k) (mB (pw p k) (lvF q p k)) cur m))), some (.int (nI y)), some (.int 1)] [] 63 (hi, hf, dk_RF sr, z) 0 0 := by
              intro g1
              refine dk_iload C dX8_following_242 rfl ?_
              refine dk_if_lt C 261 dX8_following_244 (by decide) (fun c3 => ?_) (fun c3 => ?_)
              · have := (fwI_neg _ _ hfe).mp c3
                exact take g1 (fun x hx => by rw [this] at hx; cases hx)
              · obtain ⟨x, hx⟩ : ∃ x, fwd (lvP q p rp k) (mB (pw p k) (lvF q p k)) cur m = some x := by
                  cases hv : fwd (lvP q p rp k) (mB (pw p k) (lvF q p k)) cur m with
                  | none => exact absurd ((fwI_neg _ _ hfe).mpr hv) c3
                  | some x => exact ⟨x, rfl⟩
                have exv : fwI (en (po p k)) (fwd (lvP q p rp k) (mB (pw p k) (lvF q p k)) cur m) = nI (en (po p k) x) := by rw [hx]; rfl
                have hxm := hfl x hx
                have hb := bef m x y1 (by omega)
                rw [y2] at hb
                rw [exv] at take ⊢
                refine dk_aload_n C dX8_following_247 rfl rfl ?_
                refine dk_iload_n C dX8_following_248 rfl rfl ?_
                refine dk_iload_n C dX8_following_249 rfl rfl ?_
                refine dk_iload_n C dX8_following_250 rfl rfl ?_
                refine dk_iload C dX8_following_251 rfl ?_
                refine dk_iload C dX8_following_253 rfl ?_
                refine ek_callV C mX8_175 (hb) rfl (by decide) rfl rfl (Nat.le_of_ble_eq_true rfl) (by decide) (by decide) (Nat.zero_le _) (Nat.zero_le _) dX8_following_255 ?_
                refine dk_if_eq C 265 dX8_following_258 (by decide) (fun c4 => ?_) (fun c4 => ?_)
                · have hh := next (m + 1) y3 (by rw [fwd, if_neg (fun w => absurd (w.2.2 x hx) (by rw [bI_n0 c4]; decide))]) (some (.int 1))
                  rw [exv] at hh
                  exact hh
                · exact take g1 (fun x' hx' => by rw [hx] at hx'; cases hx'; exact bI_n1 c4)
            refine dk_iconst C (1) dX8_following_203 rfl ?_
            refine dk_goto C 208 dX8_following_204 (by decide) ?_
            refine dk_istore C dX8_following_208 (by decide) rfl ?_
            refine dk_iload C dX8_following_210 rfl ?_
            refine dk_if_eq C 265 dX8_following_212 (by decide) (fun hz => absurd hz (by decide)) (fun _ => ?_)
            refine dk_aload_n C dX8_following_215 rfl rfl ?_
            refine ek_getR C fX8_50 rfl (by decide) rfl 59 rfl dX8_following_216 ?_
            refine dk_iload_n C dX8_following_219 rfl rfl ?_
            refine ek_iald C rfl (by decide) (k) (rfl) (by omega) (by decide) dX8_following_220 ?_
            rcases hcur with ⟨d1, d2⟩ | ⟨a, d1, d2, d3⟩
            · rw [d2]
              refine dk_if_lt C 242 dX8_following_221 (by decide) (fun _ => ?_) (fun hz => absurd (by decide) hz)
              exact after (fun a ha => by rw [d1] at ha; cases ha)
            · have ha60 := hE.2.1 a d2
              have hb := bef a m d2 y1
              rw [y2] at hb
              rw [d3]
              refine dk_if_lt C 242 dX8_following_221 (by decide) (fun hz => absurd hz (nI_pos (by omega))) (fun _ => ?_)
              refine dk_aload_n C dX8_following_224 rfl rfl ?_
              refine dk_iload_n C dX8_following_225 rfl rfl ?_
              refine dk_iload_n C dX8_following_226 rfl rfl ?_
              refine dk_iload_n C dX8_following_227 rfl rfl ?_
              refine dk_aload_n C dX8_following_228 rfl rfl ?_
              refine ek_getR C fX8_50 rfl (by decide) rfl 59 rfl dX8_following_229 ?_
              refine dk_iload_n C dX8_following_232 rfl rfl ?_
              refine ek_iald C rfl (by decide) (k) (rfl) (by omega) (by decide) dX8_following_233 ?_
              rw [d3]
              refine dk_iload C dX8_following_234 rfl ?_
              refine ek_callV C mX8_175 (hb) rfl (by decide) rfl rfl (Nat.le_of_ble_eq_true rfl) (by decide) (by decide) (Nat.zero_le _) (Nat.zero_le _) dX8_following_236 ?_
              refine dk_if_eq C 265 dX8_following_239 (by decide) (fun c3 => ?_) (fun c3 => ?_)
              · exact next (m + 1) y3 (by rw [fwd, if_neg (fun w => absurd (w.2.1 a d1) (by rw [bI_n0 c3]; decide))]) _
              · exact after (fun a' ha' => by rw [d1] at ha'; cases ha'; exact bI_n1 c3)
          refine dk_iload_n C dX8_following_181 rfl rfl ?_
          rcases hcv with ⟨g1, g2, g3⟩ | ⟨g1, g2, g3, g4⟩
          · subst g1
            refine dk_if_lt C 203 dX8_following_182 (by decide) (fun _ => ?_) (fun hz => absurd (by decide) hz)
            exact isyes (g3 m y1)
          · subst g1
            have eg : hi 49 (240 * jt (po p k) + 4 * y + c) = qV q (po p k) c m := by rw [← y2]; exact ev c m g2 y1
            refine dk_if_lt C 203 dX8_following_182 (by decide) (fun hz => absurd hz (nI_pos (by omega))) (fun _ => ?_)
            refine dk_aload_n C dX8_following_185 rfl rfl ?_
            refine dk_iload_n C dX8_following_186 rfl rfl ?_
            refine dk_iload C dX8_following_187 rfl ?_
            refine dk_iload_n C dX8_following_189 rfl rfl ?_
            refine ek_callV C mX8_88 (c_X8_get _ _ _ _ _ (jt (po p k)) y c s2 (by omega) g2) rfl (by decide) rfl rfl (Nat.le_of_ble_eq_true rfl) (by decide) (by decide) (Nat.zero_le _) (Nat.zero_le _) dX8_following_190 ?_
            rw [eg]
            refine dk_iload C dX8_following_193 rfl ?_
            refine dk_iload C dX8_following_195 rfl ?_
            refine ek_callS C mX8_172 (c_X8_holds _ _ _ _ _ (qV q (po p k) c m) num ov hov) rfl rfl (Nat.le_of_ble_eq_true rfl) (by decide) (by decide) (Nat.zero_le _) (Nat.zero_le _) dX8_following_197 ?_
            rw [← g4 m y1]
            refine dk_if_eq C 207 dX8_following_200 (by decide) (fun c2 => ?_) (fun c2 => ?_)
            · exact isno (bI_n0 c2)
            · exact isyes (bI_n1 c2)
    refine dk_iconst C (-1) dX8_following_153 rfl ?_
    refine dk_istore C dX8_following_154 (by decide) rfl ?_
    refine dk_iconst C (0) dX8_following_156 rfl ?_
    refine dk_istore C dX8_following_157 (by decide) rfl ?_
    exact loop 60 0 0 (by omega) (mP_0 _ _)
  refine dk_aload_n C dX8_following_0 rfl rfl ?_
  refine ek_getR C fX8_26 rfl (by decide) rfl 51 rfl dX8_following_1 ?_
  refine dk_aload_n C dX8_following_4 rfl rfl ?_
  refine ek_getR C fX8_38 rfl (by decide) rfl 55 rfl dX8_following_5 ?_
  refine dk_iload_n C dX8_following_8 rfl rfl ?_
  refine ek_iald C rfl (by decide) (k) (rfl) (by omega) (by decide) dX8_following_9 ?_
  rw [p1]
  refine ek_iald C rfl (by decide) (po p k) (rfl) (by omega) (by decide) dX8_following_10 ?_
  rw [s1]
  refine dk_istore_n C dX8_following_11 rfl (by decide) rfl ?_
  refine dk_iconst C (-1) dX8_following_12 rfl ?_
  refine dk_istore_n C dX8_following_13 rfl (by decide) rfl ?_
  refine dk_iconst C (0) dX8_following_14 rfl ?_
  refine dk_istore C dX8_following_15 (by decide) rfl ?_
  refine dk_iconst C (0) dX8_following_17 rfl ?_
  refine dk_istore C dX8_following_18 (by decide) rfl ?_
  refine dk_aload_n C dX8_following_20 rfl rfl ?_
  refine ek_getR C fX8_44 rfl (by decide) rfl 57 rfl dX8_following_21 ?_
  refine dk_iload_n C dX8_following_24 rfl rfl ?_
  refine ek_iald C rfl (by decide) (k) (rfl) (by omega) (by decide) dX8_following_25 ?_
  rw [p3]
  rcases w3 with ⟨i, g1, g2, g3, g4⟩ | ⟨j, g1, g2, g3, g4⟩ | ⟨g1, g2, g3⟩
  · obtain ⟨⟨r1, r2, r3⟩, r4, r5, r6, r7⟩ := h9 i g1
    have ei : cl (pc9 p k) = i := by rw [g2, cl_nI (by omega)]
    have nm : ¬ pc9 p k = -1 := by rw [g2]; exact nI_ne_m1 (by omega)
    have e36 : hi 57 k = nI i := p3.trans g2
    rw [g2]
    refine dk_if_lt C 82 dX8_following_26 (by decide) (fun hz => absurd hz (nI_pos (by omega))) (fun _ => ?_)
    refine dk_aload_n C dX8_following_29 rfl rfl ?_
    refine ek_getR C fX8_29 rfl (by decide) rfl 52 rfl dX8_following_30 ?_
    refine dk_iconst C (4) dX8_following_33 rfl ?_
    refine dk_aload_n C dX8_following_34 rfl rfl ?_
    refine ek_getR C fX8_44 rfl (by decide) rfl 57 rfl dX8_following_35 ?_
    refine dk_iload_n C dX8_following_38 rfl rfl ?_
    refine ek_iald C rfl (by decide) (k) (rfl) (by omega) (by decide) dX8_following_39 ?_
    refine dk_imul C dX8_following_40 ?_
    refine dk_iconst C (1) dX8_following_41 rfl ?_
    refine dk_iadd C dX8_following_42 ?_
    refine ek_iald C rfl (by decide) (4 * i + 1) (by rw [e36]; exact m4_k i 1) (by omega) (by decide) dX8_following_43 ?_
    rw [r5]
    refine dk_istore_n C dX8_following_44 rfl (by decide) rfl ?_
    refine dk_aload_n C dX8_following_45 rfl rfl ?_
    refine ek_getR C fX8_29 rfl (by decide) rfl 52 rfl dX8_following_46 ?_
    refine dk_iconst C (4) dX8_following_49 rfl ?_
    refine dk_aload_n C dX8_following_50 rfl rfl ?_
    refine ek_getR C fX8_44 rfl (by decide) rfl 57 rfl dX8_following_51 ?_
    refine dk_iload_n C dX8_following_54 rfl rfl ?_
    refine ek_iald C rfl (by decide) (k) (rfl) (by omega) (by decide) dX8_following_55 ?_
    refine dk_imul C dX8_following_56 ?_
    refine dk_iconst C (2) dX8_following_57 rfl ?_
    refine dk_iadd C dX8_following_58 ?_
    refine ek_iald C rfl (by decide) (4 * i + 2) (by rw [e36]; exact m4_k i 2) (by omega) (by decide) dX8_following_59 ?_
    rw [r6]
    refine dk_istore C dX8_following_60 (by decide) rfl ?_
    refine dk_aload_n C dX8_following_62 rfl rfl ?_
    refine ek_getR C fX8_29 rfl (by decide) rfl 52 rfl dX8_following_63 ?_
    refine dk_iconst C (4) dX8_following_66 rfl ?_
    refine dk_aload_n C dX8_following_67 rfl rfl ?_
    refine ek_getR C fX8_44 rfl (by decide) rfl 57 rfl dX8_following_68 ?_
    refine dk_iload_n C dX8_following_71 rfl rfl ?_
    refine ek_iald C rfl (by decide) (k) (rfl) (by omega) (by decide) dX8_following_72 ?_
    refine dk_imul C dX8_following_73 ?_
    refine dk_iconst C (3) dX8_following_74 rfl ?_
    refine dk_iadd C dX8_following_75 ?_
    refine ek_iald C rfl (by decide) (4 * i + 3) (by rw [e36]; exact m4_k i 3) (by omega) (by decide) dX8_following_76 ?_
    rw [r7]
    refine dk_istore C dX8_following_77 (by decide) rfl ?_
    refine dk_goto C 153 dX8_following_79 (by decide) ?_
    exact main (nI (qc q i)) (qc q i) (qo q i) (qx q i) r3 (Or.inr ⟨rfl, r2, by rw [lvF, if_neg nm, ei], fun x hx => by rw [lvP, if_neg nm, ei]⟩)
  · have ej : cl (pj p k) = j := by rw [g3, cl_nI (by omega)]
    have nm : ¬ pj p k = -1 := by rw [g3]; exact nI_ne_m1 (by omega)
    have e58 : hi 58 k = nI j := p4.trans g3
    obtain ⟨t1, t2⟩ := qT_e g4
    have e2 := qE_2 q (po p k) j
    obtain ⟨hne, hh⟩ := h8 j g1
    obtain ⟨⟨a1, a2⟩, a3, a4⟩ := hh _ e2
    obtain ⟨⟨b1, b2⟩, b3, b4⟩ := hh 0 (by decide)
    obtain ⟨i0, i1, i2⟩ : ∃ i0, i0 < k ∧ po p i0 = qe q j (1 - qE q (po p k) j) := by
      rw [bfo, List.any_eq_true] at t2
      obtain ⟨i0, y1, y2⟩ := t2
      exact ⟨i0, List.mem_range.mp y1, of_decide_eq_true y2⟩
    have fin : dk_W X 118 [some (.ref 45), some (.int (nI k)), some (.int (nI (jt (po p k)))), some (.int (-1)), some (.int (0)), some (.int (0)), none, none, none] [.int (nI (2 * qE q (po p k) j))] 63 (hi, hf, dk_RF sr, z) 0 0 := by
      refine dk_istore C dX8_following_118 (by decide) rfl ?_
      refine dk_aload_n C dX8_following_120 rfl rfl ?_
      refine ek_getR C fX8_32 rfl (by decide) rfl 53 rfl dX8_following_121 ?_
      refine dk_iconst C (4) dX8_following_124 rfl ?_
      refine dk_aload_n C dX8_following_125 rfl rfl ?_
      refine ek_getR C fX8_47 rfl (by decide) rfl 58 rfl dX8_following_126 ?_
      refine dk_iload_n C dX8_following_129 rfl rfl ?_
      refine ek_iald C rfl (by decide) (k) (rfl) (by omega) (by decide) dX8_following_130 ?_
      refine dk_imul C dX8_following_131 ?_
      refine dk_iload C dX8_following_132 rfl ?_
      refine dk_iadd C dX8_following_134 ?_
      refine dk_iconst C (1) dX8_following_135 rfl ?_
      refine dk_iadd C dX8_following_136 ?_
      refine ek_iald C rfl (by decide) (4 * j + 2 * qE q (po p k) j + 1) (by rw [e58, m4_k]; exact nI_1 _) (by omega) (by decide) dX8_following_137 ?_
      rw [a4]
      refine dk_istore_n C dX8_following_138 rfl (by decide) rfl ?_
      refine dk_aload_n C dX8_following_139 rfl rfl ?_
      refine dk_aload_n C dX8_following_140 rfl rfl ?_
      refine ek_getR C fX8_47 rfl (by decide) rfl 58 rfl dX8_following_141 ?_
      refine dk_iload_n C dX8_following_144 rfl rfl ?_
      refine ek_iald C rfl (by decide) (k) (rfl) (by omega) (by decide) dX8_following_145 ?_
      rw [e58]
      refine dk_iload C dX8_following_146 rfl ?_
      refine ek_callV C mX8_169 (c_X8_wanted _ _ _ _ _ hQ0 hp hW rp j _ i0 g1 e2 (by omega) i2.symm (hat i0 i1)) rfl (by decide) rfl rfl (Nat.le_of_ble_eq_true rfl) (by decide) (by decide) (Nat.zero_le _) (Nat.zero_le _) dX8_following_148 ?_
      refine dk_istore C dX8_following_151 (by decide) rfl ?_
      refine dk_forgetAt 6 ?_
      exact main (nI (qk q j (qE q (po p k) j))) (qk q j (qE q (po p k) j)) 0 _ (by decide) (Or.inr ⟨rfl, a2, by rw [lvF, if_pos g2, ej], fun x hx => by rw [lvP, if_pos g2, if_neg nm, ej]; rfl⟩)
    rw [g2]
    refine dk_if_lt C 82 dX8_following_26 (by decide) (fun _ => ?_) (fun hz => absurd (by decide) hz)
    refine dk_aload_n C dX8_following_82 rfl rfl ?_
    refine ek_getR C fX8_47 rfl (by decide) rfl 58 rfl dX8_following_83 ?_
    refine dk_iload_n C dX8_following_86 rfl rfl ?_
    refine ek_iald C rfl (by decide) (k) (rfl) (by omega) (by decide) dX8_following_87 ?_
    rw [e58]
    refine dk_if_lt C 153 dX8_following_88 (by decide) (fun hz => absurd hz (nI_pos (by omega))) (fun _ => ?_)
    refine dk_aload_n C dX8_following_91 rfl rfl ?_
    refine ek_getR C fX8_32 rfl (by decide) rfl 53 rfl dX8_following_92 ?_
    refine dk_iconst C (4) dX8_following_95 rfl ?_
    refine dk_aload_n C dX8_following_96 rfl rfl ?_
    refine ek_getR C fX8_47 rfl (by decide) rfl 58 rfl dX8_following_97 ?_
    refine dk_iload_n C dX8_following_100 rfl rfl ?_
    refine ek_iald C rfl (by decide) (k) (rfl) (by omega) (by decide) dX8_following_101 ?_
    refine dk_imul C dX8_following_102 ?_
    refine ek_iald C rfl (by decide) (4 * j) (by rw [e58]; exact m4_0 j) (by omega) (by decide) dX8_following_103 ?_
    refine dk_aload_n C dX8_following_104 rfl rfl ?_
    refine ek_getR C fX8_38 rfl (by decide) rfl 55 rfl dX8_following_105 ?_
    refine dk_iload_n C dX8_following_108 rfl rfl ?_
    refine ek_iald C rfl (by decide) (k) (rfl) (by omega) (by decide) dX8_following_109 ?_
    rw [show hi 53 (4 * j) = nI (qe q j 0) from b3, p1]
    refine dk_icmp_ne C 117 dX8_following_110 (by decide) (fun c1 => ?_) (fun c1 => ?_)
    · have : qE q (po p k) j = 1 := by rw [qE, if_neg (fun y => c1 (by rw [y]))]
      rw [this] at fin
      refine dk_iconst C (2) dX8_following_117 rfl ?_
      exact fin
    · have : qE q (po p k) j = 0 := by rw [qE, if_pos ((nI_eq (by omega) (by omega)).mp c1)]
      rw [this] at fin
      refine dk_iconst C (0) dX8_following_113 rfl ?_
      refine dk_goto C 118 dX8_following_114 (by decide) ?_
      exact fin
  · have e58 : hi 58 k = -1 := p4.trans g2
    rw [g1]
    refine dk_if_lt C 82 dX8_following_26 (by decide) (fun _ => ?_) (fun hz => absurd (by decide) hz)
    refine dk_aload_n C dX8_following_82 rfl rfl ?_
    refine ek_getR C fX8_47 rfl (by decide) rfl 58 rfl dX8_following_83 ?_
    refine dk_iload_n C dX8_following_86 rfl rfl ?_
    refine ek_iald C rfl (by decide) (k) (rfl) (by omega) (by decide) dX8_following_87 ?_
    rw [e58]
    refine dk_if_lt C 153 dX8_following_88 (by decide) (fun _ => ?_) (fun hz => absurd (by decide) hz)
    exact main (-1) 0 0 0 (by decide) (Or.inl ⟨rfl, by rw [g3]; decide, fun x hx => by rw [lvP, if_pos g1, if_pos g2]⟩)
