/-! THE LAW ITSELF: its cases -/
set_option maxRecDepth 100000 in
theorem case_0 {P : Pm} {Z : Zc} {b L n cs sl : Nat} {xs : Nat → Int32} {g : MG} (hl9 : P.2.1.stackTraces = false) (C : Cx P Z cL_law "PosterTypesLaw") (hA : CxS P) (hX : CxX P b L xs) (hz : b < Z.z) (hn : 4 * n + 4 ≤ L) (hL : L ≤ 2048) (hI : LI n g) (hR : Rl g g) (hc : cs + 6 ≤ 601024 ∧ sl + 60 ≤ 7293034)
    (K : ∀ (ad9 : Nat → Nat) (g2 : MG), adE Z ad9 → LI (n + 1) g2 → Rl g2 g2 → V P room_1 (Z.wa ad9) (loL (Z.wa ad9) b n none none none none) 1332 [] g2 (cs + 6) (sl + 60)) : V P room_1 Z (loL Z b n none none none none) 132 [] g cs sl := by
  refine v_aload_n C dL_law_132 rfl rfl ?_
  refine v_aload_n C dL_law_133 rfl rfl ?_
  refine v_iload C dL_law_134 rfl ?_
  refine v_iconst (v := 1) C dL_law_136 (by decide) ?_
  refine v_iadd C dL_law_137 ?_
  refine v_topi (ixL n 1) ?_
  refine v_sld C hX hz ⟨by omega, by omega⟩ dL_law_138 ?_
  refine v_aload_n C dL_law_139 rfl rfl ?_
  refine v_callW (n := 3) (as := [.ref (Z.ad 30), .int (xs (4 * n + 1)), .ref (Z.ad 500)]) C hA (w_fount _ hl9 Z (xs (4 * n + 1)) n g g hI hR) (gsw (tg2 86 rfl rfl) (tg2 87 rfl rfl) (tg1 0 rfl rfl) (tg2 88 rfl rfl)) (by decide +kernel) ⟨(Nat.le_of_ble_eq_true rfl), (Nat.le_of_ble_eq_true rfl)⟩ rfl rfl (Nat.le_of_ble_eq_true rfl) dL_law_140 ⟨(show cs + 6 ≤ 601024 by omega), (show sl + 60 ≤ 7293034 by omega)⟩ (fun r1 ad9 gu hp => ?_)
  obtain ⟨hr1, hE, g1, hR1, hF1, hu⟩ := hp
  have e26 : E26 gu g := by rw [show gu = _ from hu]; exact e26_law hF1
  refine v_lo (loL_wa hE b n none none none none) ?_
  have hz9 : b < (Z.wa ad9).z := hz
  refine v_istore (lo' := loL (Z.wa ad9) b n (some (.int r1)) none none none) (C.wa ad9) dL_law_143 (Nat.le_of_ble_eq_true rfl) rfl rfl ?_
  refine v_aload_n (C.wa ad9) dL_law_145 rfl rfl ?_
  refine v_aload_n (C.wa ad9) dL_law_146 rfl rfl ?_
  refine v_iload (C.wa ad9) dL_law_147 rfl ?_
  refine v_iconst (v := 1) (C.wa ad9) dL_law_149 (by decide) ?_
  refine v_iadd (C.wa ad9) dL_law_150 ?_
  refine v_topi (ixL n 1) ?_
  refine v_sld (C.wa ad9) hX hz ⟨by omega, by omega⟩ dL_law_151 ?_
  refine v_callVi (n := 1) (k := 0) (as := [.int (xs (4 * n + 1))]) (C.wa ad9) (c_fount _ (Z.wa ad9) (xs (4 * n + 1)) gu (hI.1.e26 e26)) (gv (tg4 41 rfl rfl) (tg4 42 rfl rfl) (tg4 43 rfl rfl) (tg1 6 rfl rfl) (tg4 44 rfl rfl)) (by decide +kernel) ⟨(Nat.le_of_ble_eq_true rfl), (Nat.le_of_ble_eq_true rfl)⟩ rfl cx_M rfl rfl (Nat.le_of_ble_eq_true rfl) dL_law_152 ⟨(show cs + 6 ≤ 601024 by omega), (show sl + 60 ≤ 7293034 by omega)⟩ (fun r2 g2 hp2 => ?_)
  obtain ⟨t1, t2, t3, t4⟩ := turn (LI_fount hI (by omega) (xs (4 * n + 1))) hR1 hu (cong_fount e26 (xs (4 * n + 1))) hp2
  refine v_istore (lo' := loL (Z.wa ad9) b n (some (.int r1)) (some (.int r2)) none none) (C.wa ad9) dL_law_155 (Nat.le_of_ble_eq_true rfl) rfl rfl ?_
  refine v_aload_n (C.wa ad9) dL_law_157 rfl rfl ?_
  refine v_callVi (n := 0) (k := 0) (as := []) (C.wa ad9) (c_thrown _ (Z.wa ad9) g2) (gv (tg4 37 rfl rfl) (tg4 38 rfl rfl) (tg4 39 rfl rfl) (tg1 6 rfl rfl) (tg4 40 rfl rfl)) (by decide +kernel) ⟨(Nat.le_of_ble_eq_true rfl), (Nat.le_of_ble_eq_true rfl)⟩ rfl cx_M rfl rfl (Nat.le_of_ble_eq_true rfl) dL_law_158 ⟨(show cs + 6 ≤ 601024 by omega), (show sl + 60 ≤ 7293034 by omega)⟩ (fun r3 g3 hp3 => ?_)
  obtain ⟨hr3, hg3⟩ := hp3
  subst hg3
  refine v_iload (C.wa ad9) dL_law_161 rfl ?_
  refine v_icmp_eq (tgt := 168) (C.wa ad9) dL_law_163 (by decide) (fun _ => ?_) (fun h => absurd (hr3.trans (t1.trans hr1.symm)) h)
  refine v_iload (C.wa ad9) dL_law_168 rfl ?_
  have fin : V P room_1 (Z.wa ad9) (loL (Z.wa ad9) b n (some (.int r1)) (some (.int r2)) none none) 185 [] g3 (cs + 6) (sl + 60) := by
    refine v_goto (tgt := 1332) (C.wa ad9) dL_law_185 (by decide) ?_
    refine v_wide (k := cs + 6) (n := sl + 60) (by omega) (by omega) ?_
    exact v_lw (lo' := loL (Z.wa ad9) b n none none none none) (Nat.le_of_ble_eq_true rfl) loL_no (K ad9 g3 hE t3 t4)
  refine v_if_ne (tgt := 185) (C.wa ad9) dL_law_170 (by decide) (fun _ => fin) (fun h => ?_)
  obtain ⟨t5, t6⟩ := t2 (nI_z3 (Nat.le_trans (le_fount (xs (4 * n + 1)) g) (by decide)) (hr1.symm.trans h))
  refine v_aload_n (C.wa ad9) dL_law_173 rfl rfl ?_
  refine v_iconst (v := 0) (C.wa ad9) dL_law_174 (by decide) ?_
  refine v_lald0 (C.wa ad9) dL_law_175 ?_
  refine v_iload (C.wa ad9) dL_law_176 rfl ?_
  refine v_i2l (C.wa ad9) dL_law_178 ?_
  refine v_lcmp (C.wa ad9) dL_law_179 ?_
  refine v_if_eq (tgt := 185) (C.wa ad9) dL_law_180 (by decide) (fun _ => fin) (fun h => absurd (by rw [t6, t5]; exact lcmp_eq _) h)
set_option maxRecDepth 100000 in
theorem case_1 {P : Pm} {Z : Zc} {b L n cs sl : Nat} {xs : Nat → Int32} {g : MG} (hl9 : P.2.1.stackTraces = false) (C : Cx P Z cL_law "PosterTypesLaw") (hA : CxS P) (hX : CxX P b L xs) (hz : b < Z.z) (hn : 4 * n + 4 ≤ L) (hL : L ≤ 2048) (hI : LI n g) (hR : Rl g g) (hc : cs + 6 ≤ 601024 ∧ sl + 60 ≤ 7293034)
    (K : ∀ (ad9 : Nat → Nat) (g2 : MG), adE Z ad9 → LI (n + 1) g2 → Rl g2 g2 → V P room_1 (Z.wa ad9) (loL (Z.wa ad9) b n none none none none) 1332 [] g2 (cs + 6) (sl + 60)) : V P room_1 Z (loL Z b n none none none none) 188 [] g cs sl := by
  refine v_aload_n C dL_law_188 rfl rfl ?_
  refine v_aload_n C dL_law_189 rfl rfl ?_
  refine v_iload C dL_law_190 rfl ?_
  refine v_iconst (v := 1) C dL_law_192 (by decide) ?_
  refine v_iadd C dL_law_193 ?_
  refine v_topi (ixL n 1) ?_
  refine v_sld C hX hz ⟨by omega, by omega⟩ dL_law_194 ?_
  refine v_aload_n C dL_law_195 rfl rfl ?_
  refine v_iload C dL_law_196 rfl ?_
  refine v_iconst (v := 2) C dL_law_198 (by decide) ?_
  refine v_iadd C dL_law_199 ?_
  refine v_topi (ixL n 2) ?_
  refine v_sld C hX hz ⟨by omega, by omega⟩ dL_law_200 ?_
  refine v_aload_n C dL_law_201 rfl rfl ?_
  refine v_iload C dL_law_202 rfl ?_
  refine v_iconst (v := 3) C dL_law_204 (by decide) ?_
  refine v_iadd C dL_law_205 ?_
  refine v_topi (ixL n 3) ?_
  refine v_sld C hX hz ⟨by omega, by omega⟩ dL_law_206 ?_
  refine v_aload_n C dL_law_207 rfl rfl ?_
  refine v_callW (n := 5) (as := [.ref (Z.ad 30), .int (xs (4 * n + 1)), .int (xs (4 * n + 2)), .int (xs (4 * n + 3)), .ref (Z.ad 500)]) C hA (w_buy _ hl9 Z (xs (4 * n + 1)) (xs (4 * n + 2)) (xs (4 * n + 3)) n g g hI hR) (gsw (tg2 212 rfl rfl) (tg2 213 rfl rfl) (tg1 0 rfl rfl) (tg2 214 rfl rfl)) (by decide +kernel) ⟨(Nat.le_of_ble_eq_true rfl), (Nat.le_of_ble_eq_true rfl)⟩ rfl rfl (Nat.le_of_ble_eq_true rfl) dL_law_208 ⟨(show cs + 1 ≤ 601024 by omega), (show sl + 6 ≤ 7293034 by omega)⟩ (fun r1 ad9 gu hp => ?_)
  obtain ⟨hr1, hE, g1, hR1, hF1, hu⟩ := hp
  have e26 : E26 gu g := by rw [show gu = _ from hu]; exact e26_law hF1
  refine v_lo (loL_wa hE b n none none none none) ?_
  have hz9 : b < (Z.wa ad9).z := hz
  refine v_istore (lo' := loL (Z.wa ad9) b n (some (.int r1)) none none none) (C.wa ad9) dL_law_211 (Nat.le_of_ble_eq_true rfl) rfl rfl ?_
  refine v_aload_n (C.wa ad9) dL_law_213 rfl rfl ?_
  refine v_aload_n (C.wa ad9) dL_law_214 rfl rfl ?_
  refine v_iload (C.wa ad9) dL_law_215 rfl ?_
  refine v_iconst (v := 1) (C.wa ad9) dL_law_217 (by decide) ?_
  refine v_iadd (C.wa ad9) dL_law_218 ?_
  refine v_topi (ixL n 1) ?_
  refine v_sld (C.wa ad9) hX hz ⟨by omega, by omega⟩ dL_law_219 ?_
  refine v_aload_n (C.wa ad9) dL_law_220 rfl rfl ?_
  refine v_iload (C.wa ad9) dL_law_221 rfl ?_
  refine v_iconst (v := 2) (C.wa ad9) dL_law_223 (by decide) ?_
  refine v_iadd (C.wa ad9) dL_law_224 ?_
  refine v_topi (ixL n 2) ?_
  refine v_sld (C.wa ad9) hX hz ⟨by omega, by omega⟩ dL_law_225 ?_
  refine v_aload_n (C.wa ad9) dL_law_226 rfl rfl ?_
  refine v_iload (C.wa ad9) dL_law_227 rfl ?_
  refine v_iconst (v := 3) (C.wa ad9) dL_law_229 (by decide) ?_
  refine v_iadd (C.wa ad9) dL_law_230 ?_
  refine v_topi (ixL n 3) ?_
  refine v_sld (C.wa ad9) hX hz ⟨by omega, by omega⟩ dL_law_231 ?_
  refine v_callVi (n := 3) (k := 0) (as := [.int (xs (4 * n + 1)), .int (xs (4 * n + 2)), .int (xs (4 * n + 3))]) (C.wa ad9) (c_buy _ (Z.wa ad9) (xs (4 * n + 1)) (xs (4 * n + 2)) (xs (4 * n + 3)) gu (hI.1.e26 e26)) (gv (tg4 52 rfl rfl) (tg4 53 rfl rfl) (tg4 54 rfl rfl) (tg1 6 rfl rfl) (tg4 55 rfl rfl)) (by decide +kernel) ⟨(Nat.le_of_ble_eq_true rfl), (Nat.le_of_ble_eq_true rfl)⟩ rfl cx_M rfl rfl (Nat.le_of_ble_eq_true rfl) dL_law_232 ⟨(show cs + 1 ≤ 601024 by omega), (show sl + 6 ≤ 7293034 by omega)⟩ (fun r2 g2 hp2 => ?_)
  obtain ⟨t1, t2, t3, t4⟩ := turn (LI_buy hI (by omega) (xs (4 * n + 1)) (xs (4 * n + 2)) (xs (4 * n + 3))) hR1 hu (cong_buy e26 (xs (4 * n + 1)) (xs (4 * n + 2)) (xs (4 * n + 3))) hp2
  refine v_istore (lo' := loL (Z.wa ad9) b n (some (.int r1)) (some (.int r2)) none none) (C.wa ad9) dL_law_235 (Nat.le_of_ble_eq_true rfl) rfl rfl ?_
  refine v_aload_n (C.wa ad9) dL_law_237 rfl rfl ?_
  refine v_callVi (n := 0) (k := 0) (as := []) (C.wa ad9) (c_thrown _ (Z.wa ad9) g2) (gv (tg4 37 rfl rfl) (tg4 38 rfl rfl) (tg4 39 rfl rfl) (tg1 6 rfl rfl) (tg4 40 rfl rfl)) (by decide +kernel) ⟨(Nat.le_of_ble_eq_true rfl), (Nat.le_of_ble_eq_true rfl)⟩ rfl cx_M rfl rfl (Nat.le_of_ble_eq_true rfl) dL_law_238 ⟨(show cs + 1 ≤ 601024 by omega), (show sl + 6 ≤ 7293034 by omega)⟩ (fun r3 g3 hp3 => ?_)
  obtain ⟨hr3, hg3⟩ := hp3
  subst hg3
  refine v_iload (C.wa ad9) dL_law_241 rfl ?_
  refine v_icmp_eq (tgt := 248) (C.wa ad9) dL_law_243 (by decide) (fun _ => ?_) (fun h => absurd (hr3.trans (t1.trans hr1.symm)) h)
  refine v_iload (C.wa ad9) dL_law_248 rfl ?_
  have fin : V P room_1 (Z.wa ad9) (loL (Z.wa ad9) b n (some (.int r1)) (some (.int r2)) none none) 265 [] g3 (cs + 1) (sl + 6) := by
    refine v_goto (tgt := 1332) (C.wa ad9) dL_law_265 (by decide) ?_
    refine v_wide (k := cs + 6) (n := sl + 60) (by omega) (by omega) ?_
    exact v_lw (lo' := loL (Z.wa ad9) b n none none none none) (Nat.le_of_ble_eq_true rfl) loL_no (K ad9 g3 hE t3 t4)
  refine v_if_ne (tgt := 265) (C.wa ad9) dL_law_250 (by decide) (fun _ => fin) (fun h => ?_)
  obtain ⟨t5, t6⟩ := t2 (nI_z3 (Nat.le_trans (le_buy (xs (4 * n + 1)) (xs (4 * n + 2)) (xs (4 * n + 3)) g) (by decide)) (hr1.symm.trans h))
  refine v_aload_n (C.wa ad9) dL_law_253 rfl rfl ?_
  refine v_iconst (v := 0) (C.wa ad9) dL_law_254 (by decide) ?_
  refine v_lald0 (C.wa ad9) dL_law_255 ?_
  refine v_iload (C.wa ad9) dL_law_256 rfl ?_
  refine v_i2l (C.wa ad9) dL_law_258 ?_
  refine v_lcmp (C.wa ad9) dL_law_259 ?_
  refine v_if_eq (tgt := 265) (C.wa ad9) dL_law_260 (by decide) (fun _ => fin) (fun h => absurd (by rw [t6, t5]; exact lcmp_eq _) h)
set_option maxRecDepth 100000 in
theorem case_2 {P : Pm} {Z : Zc} {b L n cs sl : Nat} {xs : Nat → Int32} {g : MG} (hl9 : P.2.1.stackTraces = false) (C : Cx P Z cL_law "PosterTypesLaw") (hA : CxS P) (hX : CxX P b L xs) (hz : b < Z.z) (hn : 4 * n + 4 ≤ L) (hL : L ≤ 2048) (hI : LI n g) (hR : Rl g g) (hc : cs + 6 ≤ 601024 ∧ sl + 60 ≤ 7293034)
    (K : ∀ (ad9 : Nat → Nat) (g2 : MG), adE Z ad9 → LI (n + 1) g2 → Rl g2 g2 → V P room_1 (Z.wa ad9) (loL (Z.wa ad9) b n none none none none) 1332 [] g2 (cs + 6) (sl + 60)) : V P room_1 Z (loL Z b n none none none none) 268 [] g cs sl := by
  refine v_aload_n C dL_law_268 rfl rfl ?_
  refine v_aload_n C dL_law_269 rfl rfl ?_
  refine v_iload C dL_law_270 rfl ?_
  refine v_iconst (v := 1) C dL_law_272 (by decide) ?_
  refine v_iadd C dL_law_273 ?_
  refine v_topi (ixL n 1) ?_
  refine v_sld C hX hz ⟨by omega, by omega⟩ dL_law_274 ?_
  refine v_aload_n C dL_law_275 rfl rfl ?_
  refine v_iload C dL_law_276 rfl ?_
  refine v_iconst (v := 2) C dL_law_278 (by decide) ?_
  refine v_iadd C dL_law_279 ?_
  refine v_topi (ixL n 2) ?_
  refine v_sld C hX hz ⟨by omega, by omega⟩ dL_law_280 ?_
  refine v_aload_n C dL_law_281 rfl rfl ?_
  refine v_callW (n := 4) (as := [.ref (Z.ad 30), .int (xs (4 * n + 1)), .int (xs (4 * n + 2)), .ref (Z.ad 500)]) C hA (w_buyAll _ hl9 Z (xs (4 * n + 1)) (xs (4 * n + 2)) n g g hI hR) (gsw (tg2 226 rfl rfl) (tg2 227 rfl rfl) (tg1 0 rfl rfl) (tg2 228 rfl rfl)) (by decide +kernel) ⟨(Nat.le_of_ble_eq_true rfl), (Nat.le_of_ble_eq_true rfl)⟩ rfl rfl (Nat.le_of_ble_eq_true rfl) dL_law_282 ⟨(show cs + 1 ≤ 601024 by omega), (show sl + 6 ≤ 7293034 by omega)⟩ (fun r1 ad9 gu hp => ?_)
  obtain ⟨hr1, hE, g1, hR1, hF1, hu⟩ := hp
  have e26 : E26 gu g := by rw [show gu = _ from hu]; exact e26_law hF1
  refine v_lo (loL_wa hE b n none none none none) ?_
  have hz9 : b < (Z.wa ad9).z := hz
  refine v_istore (lo' := loL (Z.wa ad9) b n (some (.int r1)) none none none) (C.wa ad9) dL_law_285 (Nat.le_of_ble_eq_true rfl) rfl rfl ?_
  refine v_aload_n (C.wa ad9) dL_law_287 rfl rfl ?_
  refine v_aload_n (C.wa ad9) dL_law_288 rfl rfl ?_
  refine v_iload (C.wa ad9) dL_law_289 rfl ?_
  refine v_iconst (v := 1) (C.wa ad9) dL_law_291 (by decide) ?_
  refine v_iadd (C.wa ad9) dL_law_292 ?_
  refine v_topi (ixL n 1) ?_
  refine v_sld (C.wa ad9) hX hz ⟨by omega, by omega⟩ dL_law_293 ?_
  refine v_aload_n (C.wa ad9) dL_law_294 rfl rfl ?_
  refine v_iload (C.wa ad9) dL_law_295 rfl ?_
  refine v_iconst (v := 2) (C.wa ad9) dL_law_297 (by decide) ?_
  refine v_iadd (C.wa ad9) dL_law_298 ?_
  refine v_topi (ixL n 2) ?_
  refine v_sld (C.wa ad9) hX hz ⟨by omega, by omega⟩ dL_law_299 ?_
  refine v_callVi (n := 2) (k := 0) (as := [.int (xs (4 * n + 1)), .int (xs (4 * n + 2))]) (C.wa ad9) (c_buyAll _ (Z.wa ad9) (xs (4 * n + 1)) (xs (4 * n + 2)) gu (hI.1.e26 e26)) (gv (tg4 63 rfl rfl) (tg4 64 rfl rfl) (tg4 65 rfl rfl) (tg1 6 rfl rfl) (tg4 66 rfl rfl)) (by decide +kernel) ⟨(Nat.le_of_ble_eq_true rfl), (Nat.le_of_ble_eq_true rfl)⟩ rfl cx_M rfl rfl (Nat.le_of_ble_eq_true rfl) dL_law_300 ⟨(show cs + 1 ≤ 601024 by omega), (show sl + 6 ≤ 7293034 by omega)⟩ (fun r2 g2 hp2 => ?_)
  obtain ⟨t1, t2, t3, t4⟩ := turn (LI_buyAll hI (by omega) (xs (4 * n + 1)) (xs (4 * n + 2))) hR1 hu (cong_buyAll e26 (xs (4 * n + 1)) (xs (4 * n + 2))) hp2
  refine v_istore (lo' := loL (Z.wa ad9) b n (some (.int r1)) (some (.int r2)) none none) (C.wa ad9) dL_law_303 (Nat.le_of_ble_eq_true rfl) rfl rfl ?_
  refine v_aload_n (C.wa ad9) dL_law_305 rfl rfl ?_
  refine v_callVi (n := 0) (k := 0) (as := []) (C.wa ad9) (c_thrown _ (Z.wa ad9) g2) (gv (tg4 37 rfl rfl) (tg4 38 rfl rfl) (tg4 39 rfl rfl) (tg1 6 rfl rfl) (tg4 40 rfl rfl)) (by decide +kernel) ⟨(Nat.le_of_ble_eq_true rfl), (Nat.le_of_ble_eq_true rfl)⟩ rfl cx_M rfl rfl (Nat.le_of_ble_eq_true rfl) dL_law_306 ⟨(show cs + 1 ≤ 601024 by omega), (show sl + 6 ≤ 7293034 by omega)⟩ (fun r3 g3 hp3 => ?_)
  obtain ⟨hr3, hg3⟩ := hp3
  subst hg3
  refine v_iload (C.wa ad9) dL_law_309 rfl ?_
  refine v_icmp_eq (tgt := 316) (C.wa ad9) dL_law_311 (by decide) (fun _ => ?_) (fun h => absurd (hr3.trans (t1.trans hr1.symm)) h)
  refine v_iload (C.wa ad9) dL_law_316 rfl ?_
  have fin : V P room_1 (Z.wa ad9) (loL (Z.wa ad9) b n (some (.int r1)) (some (.int r2)) none none) 333 [] g3 (cs + 1) (sl + 6) := by
    refine v_goto (tgt := 1332) (C.wa ad9) dL_law_333 (by decide) ?_
    refine v_wide (k := cs + 6) (n := sl + 60) (by omega) (by omega) ?_
    exact v_lw (lo' := loL (Z.wa ad9) b n none none none none) (Nat.le_of_ble_eq_true rfl) loL_no (K ad9 g3 hE t3 t4)
  refine v_if_ne (tgt := 333) (C.wa ad9) dL_law_318 (by decide) (fun _ => fin) (fun h => ?_)
  obtain ⟨t5, t6⟩ := t2 (nI_z3 (Nat.le_trans (le_buyAll (xs (4 * n + 1)) (xs (4 * n + 2)) g) (by decide)) (hr1.symm.trans h))
  refine v_aload_n (C.wa ad9) dL_law_321 rfl rfl ?_
  refine v_iconst (v := 0) (C.wa ad9) dL_law_322 (by decide) ?_
  refine v_lald0 (C.wa ad9) dL_law_323 ?_
  refine v_iload (C.wa ad9) dL_law_324 rfl ?_
  refine v_i2l (C.wa ad9) dL_law_326 ?_
  refine v_lcmp (C.wa ad9) dL_law_327 ?_
  refine v_if_eq (tgt := 333) (C.wa ad9) dL_law_328 (by decide) (fun _ => fin) (fun h => absurd (by rw [t6, t5]; exact lcmp_eq _) h)
set_option maxRecDepth 100000 in
theorem case_3 {P : Pm} {Z : Zc} {b L n cs sl : Nat} {xs : Nat → Int32} {g : MG} (hl9 : P.2.1.stackTraces = false) (C : Cx P Z cL_law "PosterTypesLaw") (hA : CxS P) (hX : CxX P b L xs) (hz : b < Z.z) (hn : 4 * n + 4 ≤ L) (hL : L ≤ 2048) (hI : LI n g) (hR : Rl g g) (hc : cs + 6 ≤ 601024 ∧ sl + 60 ≤ 7293034)
    (K : ∀ (ad9 : Nat → Nat) (g2 : MG), adE Z ad9 → LI (n + 1) g2 → Rl g2 g2 → V P room_1 (Z.wa ad9) (loL (Z.wa ad9) b n none none none none) 1332 [] g2 (cs + 6) (sl + 60)) : V P room_1 Z (loL Z b n none none none none) 336 [] g cs sl := by
  refine v_aload_n C dL_law_336 rfl rfl ?_
  refine v_aload_n C dL_law_337 rfl rfl ?_
  refine v_iload C dL_law_338 rfl ?_
  refine v_iconst (v := 1) C dL_law_340 (by decide) ?_
  refine v_iadd C dL_law_341 ?_
  refine v_topi (ixL n 1) ?_
  refine v_sld C hX hz ⟨by omega, by omega⟩ dL_law_342 ?_
  refine v_aload_n C dL_law_343 rfl rfl ?_
  refine v_iload C dL_law_344 rfl ?_
  refine v_iconst (v := 2) C dL_law_346 (by decide) ?_
  refine v_iadd C dL_law_347 ?_
  refine v_topi (ixL n 2) ?_
  refine v_sld C hX hz ⟨by omega, by omega⟩ dL_law_348 ?_
  refine v_aload_n C dL_law_349 rfl rfl ?_
  refine v_callW (n := 4) (as := [.ref (Z.ad 30), .int (xs (4 * n + 1)), .int (xs (4 * n + 2)), .ref (Z.ad 500)]) C hA (w_setOther _ hl9 Z (xs (4 * n + 1)) (xs (4 * n + 2)) n g g hI hR) (gsw (tg2 235 rfl rfl) (tg2 236 rfl rfl) (tg1 0 rfl rfl) (tg2 237 rfl rfl)) (by decide +kernel) ⟨(Nat.le_of_ble_eq_true rfl), (Nat.le_of_ble_eq_true rfl)⟩ rfl rfl (Nat.le_of_ble_eq_true rfl) dL_law_350 ⟨(show cs + 1 ≤ 601024 by omega), (show sl + 6 ≤ 7293034 by omega)⟩ (fun r1 ad9 gu hp => ?_)
  obtain ⟨hr1, hE, g1, hR1, hF1, hu⟩ := hp
  have e26 : E26 gu g := by rw [show gu = _ from hu]; exact e26_law hF1
  refine v_lo (loL_wa hE b n none none none none) ?_
  have hz9 : b < (Z.wa ad9).z := hz
  refine v_istore (lo' := loL (Z.wa ad9) b n (some (.int r1)) none none none) (C.wa ad9) dL_law_353 (Nat.le_of_ble_eq_true rfl) rfl rfl ?_
  refine v_aload_n (C.wa ad9) dL_law_355 rfl rfl ?_
  refine v_aload_n (C.wa ad9) dL_law_356 rfl rfl ?_
  refine v_iload (C.wa ad9) dL_law_357 rfl ?_
  refine v_iconst (v := 1) (C.wa ad9) dL_law_359 (by decide) ?_
  refine v_iadd (C.wa ad9) dL_law_360 ?_
  refine v_topi (ixL n 1) ?_
  refine v_sld (C.wa ad9) hX hz ⟨by omega, by omega⟩ dL_law_361 ?_
  refine v_aload_n (C.wa ad9) dL_law_362 rfl rfl ?_
  refine v_iload (C.wa ad9) dL_law_363 rfl ?_
  refine v_iconst (v := 2) (C.wa ad9) dL_law_365 (by decide) ?_
  refine v_iadd (C.wa ad9) dL_law_366 ?_
  refine v_topi (ixL n 2) ?_
  refine v_sld (C.wa ad9) hX hz ⟨by omega, by omega⟩ dL_law_367 ?_
  refine v_callVi (n := 2) (k := 0) (as := [.int (xs (4 * n + 1)), .int (xs (4 * n + 2))]) (C.wa ad9) (c_setOther _ (Z.wa ad9) (xs (4 * n + 1)) (xs (4 * n + 2)) gu (hI.1.e26 e26)) (gv (tg4 68 rfl rfl) (tg4 69 rfl rfl) (tg4 70 rfl rfl) (tg1 6 rfl rfl) (tg4 71 rfl rfl)) (by decide +kernel) ⟨(Nat.le_of_ble_eq_true rfl), (Nat.le_of_ble_eq_true rfl)⟩ rfl cx_M rfl rfl (Nat.le_of_ble_eq_true rfl) dL_law_368 ⟨(show cs + 1 ≤ 601024 by omega), (show sl + 6 ≤ 7293034 by omega)⟩ (fun r2 g2 hp2 => ?_)
  obtain ⟨t1, t2, t3, t4⟩ := turn (LI_setOther hI (by omega) (xs (4 * n + 1)) (xs (4 * n + 2))) hR1 hu (cong_setOther e26 (xs (4 * n + 1)) (xs (4 * n + 2))) hp2
  refine v_istore (lo' := loL (Z.wa ad9) b n (some (.int r1)) (some (.int r2)) none none) (C.wa ad9) dL_law_371 (Nat.le_of_ble_eq_true rfl) rfl rfl ?_
  refine v_aload_n (C.wa ad9) dL_law_373 rfl rfl ?_
  refine v_callVi (n := 0) (k := 0) (as := []) (C.wa ad9) (c_thrown _ (Z.wa ad9) g2) (gv (tg4 37 rfl rfl) (tg4 38 rfl rfl) (tg4 39 rfl rfl) (tg1 6 rfl rfl) (tg4 40 rfl rfl)) (by decide +kernel) ⟨(Nat.le_of_ble_eq_true rfl), (Nat.le_of_ble_eq_true rfl)⟩ rfl cx_M rfl rfl (Nat.le_of_ble_eq_true rfl) dL_law_374 ⟨(show cs + 1 ≤ 601024 by omega), (show sl + 6 ≤ 7293034 by omega)⟩ (fun r3 g3 hp3 => ?_)
  obtain ⟨hr3, hg3⟩ := hp3
  subst hg3
  refine v_iload (C.wa ad9) dL_law_377 rfl ?_
  refine v_icmp_eq (tgt := 384) (C.wa ad9) dL_law_379 (by decide) (fun _ => ?_) (fun h => absurd (hr3.trans (t1.trans hr1.symm)) h)
  refine v_iload (C.wa ad9) dL_law_384 rfl ?_
  have fin : V P room_1 (Z.wa ad9) (loL (Z.wa ad9) b n (some (.int r1)) (some (.int r2)) none none) 401 [] g3 (cs + 1) (sl + 6) := by
    refine v_goto (tgt := 1332) (C.wa ad9) dL_law_401 (by decide) ?_
    refine v_wide (k := cs + 6) (n := sl + 60) (by omega) (by omega) ?_
    exact v_lw (lo' := loL (Z.wa ad9) b n none none none none) (Nat.le_of_ble_eq_true rfl) loL_no (K ad9 g3 hE t3 t4)
  refine v_if_ne (tgt := 401) (C.wa ad9) dL_law_386 (by decide) (fun _ => fin) (fun h => ?_)
  obtain ⟨t5, t6⟩ := t2 (nI_z3 (Nat.le_trans (le_setOther (xs (4 * n + 1)) (xs (4 * n + 2)) g) (by decide)) (hr1.symm.trans h))
  refine v_aload_n (C.wa ad9) dL_law_389 rfl rfl ?_
  refine v_iconst (v := 0) (C.wa ad9) dL_law_390 (by decide) ?_
  refine v_lald0 (C.wa ad9) dL_law_391 ?_
  refine v_iload (C.wa ad9) dL_law_392 rfl ?_
  refine v_i2l (C.wa ad9) dL_law_394 ?_
  refine v_lcmp (C.wa ad9) dL_law_395 ?_
  refine v_if_eq (tgt := 401) (C.wa ad9) dL_law_396 (by decide) (fun _ => fin) (fun h => absurd (by rw [t6, t5]; exact lcmp_eq _) h)
set_option maxRecDepth 100000 in
theorem case_4 {P : Pm} {Z : Zc} {b L n cs sl : Nat} {xs : Nat → Int32} {g : MG} (hl9 : P.2.1.stackTraces = false) (C : Cx P Z cL_law "PosterTypesLaw") (hA : CxS P) (hX : CxX P b L xs) (hz : b < Z.z) (hn : 4 * n + 4 ≤ L) (hL : L ≤ 2048) (hI : LI n g) (hR : Rl g g) (hc : cs + 6 ≤ 601024 ∧ sl + 60 ≤ 7293034)
    (K : ∀ (ad9 : Nat → Nat) (g2 : MG), adE Z ad9 → LI (n + 1) g2 → Rl g2 g2 → V P room_1 (Z.wa ad9) (loL (Z.wa ad9) b n none none none none) 1332 [] g2 (cs + 6) (sl + 60)) : V P room_1 Z (loL Z b n none none none none) 404 [] g cs sl := by
  refine v_aload_n C dL_law_404 rfl rfl ?_
  refine v_aload_n C dL_law_405 rfl rfl ?_
  refine v_iload C dL_law_406 rfl ?_
  refine v_iconst (v := 1) C dL_law_408 (by decide) ?_
  refine v_iadd C dL_law_409 ?_
  refine v_topi (ixL n 1) ?_
  refine v_sld C hX hz ⟨by omega, by omega⟩ dL_law_410 ?_
  refine v_aload_n C dL_law_411 rfl rfl ?_
  refine v_iload C dL_law_412 rfl ?_
  refine v_iconst (v := 2) C dL_law_414 (by decide) ?_
  refine v_iadd C dL_law_415 ?_
  refine v_topi (ixL n 2) ?_
  refine v_sld C hX hz ⟨by omega, by omega⟩ dL_law_416 ?_
  refine v_aload_n C dL_law_417 rfl rfl ?_
  refine v_iload C dL_law_418 rfl ?_
  refine v_iconst (v := 3) C dL_law_420 (by decide) ?_
  refine v_iadd C dL_law_421 ?_
  refine v_topi (ixL n 3) ?_
  refine v_sld C hX hz ⟨by omega, by omega⟩ dL_law_422 ?_
  refine v_aload_n C dL_law_423 rfl rfl ?_
  refine v_callW (n := 5) (as := [.ref (Z.ad 30), .int (xs (4 * n + 1)), .int (xs (4 * n + 2)), .int (xs (4 * n + 3)), .ref (Z.ad 500)]) C hA (w_setTown _ hl9 Z (xs (4 * n + 1)) (xs (4 * n + 2)) (xs (4 * n + 3)) n g g hI hR) (gsw (tg3 4 rfl rfl) (tg3 5 rfl rfl) (tg1 0 rfl rfl) (tg3 6 rfl rfl)) (by decide +kernel) ⟨(Nat.le_of_ble_eq_true rfl), (Nat.le_of_ble_eq_true rfl)⟩ rfl rfl (Nat.le_of_ble_eq_true rfl) dL_law_424 ⟨(show cs + 1 ≤ 601024 by omega), (show sl + 6 ≤ 7293034 by omega)⟩ (fun r1 ad9 gu hp => ?_)
  obtain ⟨hr1, hE, g1, hR1, hF1, hu⟩ := hp
  have e26 : E26 gu g := by rw [show gu = _ from hu]; exact e26_law hF1
  refine v_lo (loL_wa hE b n none none none none) ?_
  have hz9 : b < (Z.wa ad9).z := hz
  refine v_istore (lo' := loL (Z.wa ad9) b n (some (.int r1)) none none none) (C.wa ad9) dL_law_427 (Nat.le_of_ble_eq_true rfl) rfl rfl ?_
  refine v_aload_n (C.wa ad9) dL_law_429 rfl rfl ?_
  refine v_aload_n (C.wa ad9) dL_law_430 rfl rfl ?_
  refine v_iload (C.wa ad9) dL_law_431 rfl ?_
  refine v_iconst (v := 1) (C.wa ad9) dL_law_433 (by decide) ?_
  refine v_iadd (C.wa ad9) dL_law_434 ?_
  refine v_topi (ixL n 1) ?_
  refine v_sld (C.wa ad9) hX hz ⟨by omega, by omega⟩ dL_law_435 ?_
  refine v_aload_n (C.wa ad9) dL_law_436 rfl rfl ?_
  refine v_iload (C.wa ad9) dL_law_437 rfl ?_
  refine v_iconst (v := 2) (C.wa ad9) dL_law_439 (by decide) ?_
  refine v_iadd (C.wa ad9) dL_law_440 ?_
  refine v_topi (ixL n 2) ?_
  refine v_sld (C.wa ad9) hX hz ⟨by omega, by omega⟩ dL_law_441 ?_
  refine v_aload_n (C.wa ad9) dL_law_442 rfl rfl ?_
  refine v_iload (C.wa ad9) dL_law_443 rfl ?_
  refine v_iconst (v := 3) (C.wa ad9) dL_law_445 (by decide) ?_
  refine v_iadd (C.wa ad9) dL_law_446 ?_
  refine v_topi (ixL n 3) ?_
  refine v_sld (C.wa ad9) hX hz ⟨by omega, by omega⟩ dL_law_447 ?_
  refine v_callVi (n := 3) (k := 0) (as := [.int (xs (4 * n + 1)), .int (xs (4 * n + 2)), .int (xs (4 * n + 3))]) (C.wa ad9) (c_setTown _ (Z.wa ad9) (xs (4 * n + 1)) (xs (4 * n + 2)) (xs (4 * n + 3)) gu (hI.1.e26 e26)) (gv (tg4 72 rfl rfl) (tg4 73 rfl rfl) (tg4 74 rfl rfl) (tg1 6 rfl rfl) (tg4 75 rfl rfl)) (by decide +kernel) ⟨(Nat.le_of_ble_eq_true rfl), (Nat.le_of_ble_eq_true rfl)⟩ rfl cx_M rfl rfl (Nat.le_of_ble_eq_true rfl) dL_law_448 ⟨(show cs + 1 ≤ 601024 by omega), (show sl + 6 ≤ 7293034 by omega)⟩ (fun r2 g2 hp2 => ?_)
  obtain ⟨t1, t2, t3, t4⟩ := turn (LI_setTown hI (by omega) (xs (4 * n + 1)) (xs (4 * n + 2)) (xs (4 * n + 3))) hR1 hu (cong_setTown e26 (xs (4 * n + 1)) (xs (4 * n + 2)) (xs (4 * n + 3))) hp2
  refine v_istore (lo' := loL (Z.wa ad9) b n (some (.int r1)) (some (.int r2)) none none) (C.wa ad9) dL_law_451 (Nat.le_of_ble_eq_true rfl) rfl rfl ?_
  refine v_aload_n (C.wa ad9) dL_law_453 rfl rfl ?_
  refine v_callVi (n := 0) (k := 0) (as := []) (C.wa ad9) (c_thrown _ (Z.wa ad9) g2) (gv (tg4 37 rfl rfl) (tg4 38 rfl rfl) (tg4 39 rfl rfl) (tg1 6 rfl rfl) (tg4 40 rfl rfl)) (by decide +kernel) ⟨(Nat.le_of_ble_eq_true rfl), (Nat.le_of_ble_eq_true rfl)⟩ rfl cx_M rfl rfl (Nat.le_of_ble_eq_true rfl) dL_law_454 ⟨(show cs + 1 ≤ 601024 by omega), (show sl + 6 ≤ 7293034 by omega)⟩ (fun r3 g3 hp3 => ?_)
  obtain ⟨hr3, hg3⟩ := hp3
  subst hg3
  refine v_iload (C.wa ad9) dL_law_457 rfl ?_
  refine v_icmp_eq (tgt := 464) (C.wa ad9) dL_law_459 (by decide) (fun _ => ?_) (fun h => absurd (hr3.trans (t1.trans hr1.symm)) h)
  refine v_iload (C.wa ad9) dL_law_464 rfl ?_
  have fin : V P room_1 (Z.wa ad9) (loL (Z.wa ad9) b n (some (.int r1)) (some (.int r2)) none none) 481 [] g3 (cs + 1) (sl + 6) := by
    refine v_goto (tgt := 1332) (C.wa ad9) dL_law_481 (by decide) ?_
    refine v_wide (k := cs + 6) (n := sl + 60) (by omega) (by omega) ?_
    exact v_lw (lo' := loL (Z.wa ad9) b n none none none none) (Nat.le_of_ble_eq_true rfl) loL_no (K ad9 g3 hE t3 t4)
  refine v_if_ne (tgt := 481) (C.wa ad9) dL_law_466 (by decide) (fun _ => fin) (fun h => ?_)
  obtain ⟨t5, t6⟩ := t2 (nI_z3 (Nat.le_trans (le_setTown (xs (4 * n + 1)) (xs (4 * n + 2)) (xs (4 * n + 3)) g) (by decide)) (hr1.symm.trans h))
  refine v_aload_n (C.wa ad9) dL_law_469 rfl rfl ?_
  refine v_iconst (v := 0) (C.wa ad9) dL_law_470 (by decide) ?_
  refine v_lald0 (C.wa ad9) dL_law_471 ?_
  refine v_iload (C.wa ad9) dL_law_472 rfl ?_
  refine v_i2l (C.wa ad9) dL_law_474 ?_
  refine v_lcmp (C.wa ad9) dL_law_475 ?_
  refine v_if_eq (tgt := 481) (C.wa ad9) dL_law_476 (by decide) (fun _ => fin) (fun h => absurd (by rw [t6, t5]; exact lcmp_eq _) h)
set_option maxRecDepth 100000 in
theorem case_5 {P : Pm} {Z : Zc} {b L n cs sl : Nat} {xs : Nat → Int32} {g : MG} (hl9 : P.2.1.stackTraces = false) (C : Cx P Z cL_law "PosterTypesLaw") (hA : CxS P) (hX : CxX P b L xs) (hz : b < Z.z) (hn : 4 * n + 4 ≤ L) (hL : L ≤ 2048) (hI : LI n g) (hR : Rl g g) (hc : cs + 6 ≤ 601024 ∧ sl + 60 ≤ 7293034)
    (K : ∀ (ad9 : Nat → Nat) (g2 : MG), adE Z ad9 → LI (n + 1) g2 → Rl g2 g2 → V P room_1 (Z.wa ad9) (loL (Z.wa ad9) b n none none none none) 1332 [] g2 (cs + 6) (sl + 60)) : V P room_1 Z (loL Z b n none none none none) 484 [] g cs sl := by
  refine v_aload_n C dL_law_484 rfl rfl ?_
  refine v_aload_n C dL_law_485 rfl rfl ?_
  refine v_iload C dL_law_486 rfl ?_
  refine v_iconst (v := 1) C dL_law_488 (by decide) ?_
  refine v_iadd C dL_law_489 ?_
  refine v_topi (ixL n 1) ?_
  refine v_sld C hX hz ⟨by omega, by omega⟩ dL_law_490 ?_
  refine v_aload_n C dL_law_491 rfl rfl ?_
  refine v_iload C dL_law_492 rfl ?_
  refine v_iconst (v := 2) C dL_law_494 (by decide) ?_
  refine v_iadd C dL_law_495 ?_
  refine v_topi (ixL n 2) ?_
  refine v_sld C hX hz ⟨by omega, by omega⟩ dL_law_496 ?_
  refine v_aload_n C dL_law_497 rfl rfl ?_
  refine v_callW (n := 4) (as := [.ref (Z.ad 30), .int (xs (4 * n + 1)), .int (xs (4 * n + 2)), .ref (Z.ad 500)]) C hA (w_poster _ hl9 Z (xs (4 * n + 1)) (xs (4 * n + 2)) n g g hI hR) (gsw (tg3 16 rfl rfl) (tg3 17 rfl rfl) (tg1 0 rfl rfl) (tg3 18 rfl rfl)) (by decide +kernel) ⟨(Nat.le_of_ble_eq_true rfl), (Nat.le_of_ble_eq_true rfl)⟩ rfl rfl (Nat.le_of_ble_eq_true rfl) dL_law_498 ⟨(show cs + 6 ≤ 601024 by omega), (show sl + 60 ≤ 7293034 by omega)⟩ (fun r1 ad9 gu hp => ?_)
  obtain ⟨hr1, hE, g1, hR1, hF1, hu⟩ := hp
  have e26 : E26 gu g := by rw [show gu = _ from hu]; exact e26_law hF1
  refine v_lo (loL_wa hE b n none none none none) ?_
  have hz9 : b < (Z.wa ad9).z := hz
  refine v_istore (lo' := loL (Z.wa ad9) b n (some (.int r1)) none none none) (C.wa ad9) dL_law_501 (Nat.le_of_ble_eq_true rfl) rfl rfl ?_
  refine v_aload_n (C.wa ad9) dL_law_503 rfl rfl ?_
  refine v_aload_n (C.wa ad9) dL_law_504 rfl rfl ?_
  refine v_iload (C.wa ad9) dL_law_505 rfl ?_
  refine v_iconst (v := 1) (C.wa ad9) dL_law_507 (by decide) ?_
  refine v_iadd (C.wa ad9) dL_law_508 ?_
  refine v_topi (ixL n 1) ?_
  refine v_sld (C.wa ad9) hX hz ⟨by omega, by omega⟩ dL_law_509 ?_
  refine v_aload_n (C.wa ad9) dL_law_510 rfl rfl ?_
  refine v_iload (C.wa ad9) dL_law_511 rfl ?_
  refine v_iconst (v := 2) (C.wa ad9) dL_law_513 (by decide) ?_
  refine v_iadd (C.wa ad9) dL_law_514 ?_
  refine v_topi (ixL n 2) ?_
  refine v_sld (C.wa ad9) hX hz ⟨by omega, by omega⟩ dL_law_515 ?_
  refine v_callVi (n := 2) (k := 0) (as := [.int (xs (4 * n + 1)), .int (xs (4 * n + 2))]) (C.wa ad9) (c_poster _ (Z.wa ad9) (xs (4 * n + 1)) (xs (4 * n + 2)) gu (hI.1.e26 e26)) (gv (tg4 79 rfl rfl) (tg4 80 rfl rfl) (tg4 81 rfl rfl) (tg1 6 rfl rfl) (tg4 82 rfl rfl)) (by decide +kernel) ⟨(Nat.le_of_ble_eq_true rfl), (Nat.le_of_ble_eq_true rfl)⟩ rfl cx_M rfl rfl (Nat.le_of_ble_eq_true rfl) dL_law_516 ⟨(show cs + 6 ≤ 601024 by omega), (show sl + 60 ≤ 7293034 by omega)⟩ (fun r2 g2 hp2 => ?_)
  obtain ⟨t1, t2, t3, t4⟩ := turn (LI_poster hI (by omega) (xs (4 * n + 1)) (xs (4 * n + 2))) hR1 hu (cong_poster e26 (xs (4 * n + 1)) (xs (4 * n + 2))) hp2
  refine v_istore (lo' := loL (Z.wa ad9) b n (some (.int r1)) (some (.int r2)) none none) (C.wa ad9) dL_law_519 (Nat.le_of_ble_eq_true rfl) rfl rfl ?_
  refine v_aload_n (C.wa ad9) dL_law_521 rfl rfl ?_
  refine v_callVi (n := 0) (k := 0) (as := []) (C.wa ad9) (c_thrown _ (Z.wa ad9) g2) (gv (tg4 37 rfl rfl) (tg4 38 rfl rfl) (tg4 39 rfl rfl) (tg1 6 rfl rfl) (tg4 40 rfl rfl)) (by decide +kernel) ⟨(Nat.le_of_ble_eq_true rfl), (Nat.le_of_ble_eq_true rfl)⟩ rfl cx_M rfl rfl (Nat.le_of_ble_eq_true rfl) dL_law_522 ⟨(show cs + 6 ≤ 601024 by omega), (show sl + 60 ≤ 7293034 by omega)⟩ (fun r3 g3 hp3 => ?_)
  obtain ⟨hr3, hg3⟩ := hp3
  subst hg3
  refine v_iload (C.wa ad9) dL_law_525 rfl ?_
  refine v_icmp_eq (tgt := 532) (C.wa ad9) dL_law_527 (by decide) (fun _ => ?_) (fun h => absurd (hr3.trans (t1.trans hr1.symm)) h)
  refine v_iload (C.wa ad9) dL_law_532 rfl ?_
  have fin : V P room_1 (Z.wa ad9) (loL (Z.wa ad9) b n (some (.int r1)) (some (.int r2)) none none) 549 [] g3 (cs + 6) (sl + 60) := by
    refine v_goto (tgt := 1332) (C.wa ad9) dL_law_549 (by decide) ?_
    refine v_wide (k := cs + 6) (n := sl + 60) (by omega) (by omega) ?_
    exact v_lw (lo' := loL (Z.wa ad9) b n none none none none) (Nat.le_of_ble_eq_true rfl) loL_no (K ad9 g3 hE t3 t4)
  refine v_if_ne (tgt := 549) (C.wa ad9) dL_law_534 (by decide) (fun _ => fin) (fun h => ?_)
  obtain ⟨t5, t6⟩ := t2 (nI_z3 (Nat.le_trans (le_poster (xs (4 * n + 1)) (xs (4 * n + 2)) g) (by decide)) (hr1.symm.trans h))
  refine v_aload_n (C.wa ad9) dL_law_537 rfl rfl ?_
  refine v_iconst (v := 0) (C.wa ad9) dL_law_538 (by decide) ?_
  refine v_lald0 (C.wa ad9) dL_law_539 ?_
  refine v_iload (C.wa ad9) dL_law_540 rfl ?_
  refine v_i2l (C.wa ad9) dL_law_542 ?_
  refine v_lcmp (C.wa ad9) dL_law_543 ?_
  refine v_if_eq (tgt := 549) (C.wa ad9) dL_law_544 (by decide) (fun _ => fin) (fun h => absurd (by rw [t6, t5]; exact lcmp_eq _) h)
set_option maxRecDepth 100000 in
theorem case_6 {P : Pm} {Z : Zc} {b L n cs sl : Nat} {xs : Nat → Int32} {g : MG} (hl9 : P.2.1.stackTraces = false) (C : Cx P Z cL_law "PosterTypesLaw") (hA : CxS P) (hX : CxX P b L xs) (hz : b < Z.z) (hn : 4 * n + 4 ≤ L) (hL : L ≤ 2048) (hI : LI n g) (hR : Rl g g) (hc : cs + 6 ≤ 601024 ∧ sl + 60 ≤ 7293034)
    (K : ∀ (ad9 : Nat → Nat) (g2 : MG), adE Z ad9 → LI (n + 1) g2 → Rl g2 g2 → V P room_1 (Z.wa ad9) (loL (Z.wa ad9) b n none none none none) 1332 [] g2 (cs + 6) (sl + 60)) : V P room_1 Z (loL Z b n none none none none) 552 [] g cs sl := by
  refine v_aload_n C dL_law_552 rfl rfl ?_
  refine v_aload_n C dL_law_553 rfl rfl ?_
  refine v_iload C dL_law_554 rfl ?_
  refine v_iconst (v := 1) C dL_law_556 (by decide) ?_
  refine v_iadd C dL_law_557 ?_
  refine v_topi (ixL n 1) ?_
  refine v_sld C hX hz ⟨by omega, by omega⟩ dL_law_558 ?_
  refine v_aload_n C dL_law_559 rfl rfl ?_
  refine v_iload C dL_law_560 rfl ?_
  refine v_iconst (v := 2) C dL_law_562 (by decide) ?_
  refine v_iadd C dL_law_563 ?_
  refine v_topi (ixL n 2) ?_
  refine v_sld C hX hz ⟨by omega, by omega⟩ dL_law_564 ?_
  refine v_aload_n C dL_law_565 rfl rfl ?_
  refine v_callW (n := 4) (as := [.ref (Z.ad 30), .int (xs (4 * n + 1)), .int (xs (4 * n + 2)), .ref (Z.ad 500)]) C hA (w_line _ hl9 Z (xs (4 * n + 1)) (xs (4 * n + 2)) n g g hI hR) (gsw (tg3 52 rfl rfl) (tg3 53 rfl rfl) (tg1 0 rfl rfl) (tg3 54 rfl rfl)) (by decide +kernel) ⟨(Nat.le_of_ble_eq_true rfl), (Nat.le_of_ble_eq_true rfl)⟩ rfl rfl (Nat.le_of_ble_eq_true rfl) dL_law_566 ⟨(show cs + 6 ≤ 601024 by omega), (show sl + 60 ≤ 7293034 by omega)⟩ (fun r1 ad9 gu hp => ?_)
  obtain ⟨hr1, hE, g1, hR1, hF1, hu⟩ := hp
  have e26 : E26 gu g := by rw [show gu = _ from hu]; exact e26_law hF1
  refine v_lo (loL_wa hE b n none none none none) ?_
  have hz9 : b < (Z.wa ad9).z := hz
  refine v_istore (lo' := loL (Z.wa ad9) b n (some (.int r1)) none none none) (C.wa ad9) dL_law_569 (Nat.le_of_ble_eq_true rfl) rfl rfl ?_
  refine v_aload_n (C.wa ad9) dL_law_571 rfl rfl ?_
  refine v_aload_n (C.wa ad9) dL_law_572 rfl rfl ?_
  refine v_iload (C.wa ad9) dL_law_573 rfl ?_
  refine v_iconst (v := 1) (C.wa ad9) dL_law_575 (by decide) ?_
  refine v_iadd (C.wa ad9) dL_law_576 ?_
  refine v_topi (ixL n 1) ?_
  refine v_sld (C.wa ad9) hX hz ⟨by omega, by omega⟩ dL_law_577 ?_
  refine v_aload_n (C.wa ad9) dL_law_578 rfl rfl ?_
  refine v_iload (C.wa ad9) dL_law_579 rfl ?_
  refine v_iconst (v := 2) (C.wa ad9) dL_law_581 (by decide) ?_
  refine v_iadd (C.wa ad9) dL_law_582 ?_
  refine v_topi (ixL n 2) ?_
  refine v_sld (C.wa ad9) hX hz ⟨by omega, by omega⟩ dL_law_583 ?_
  refine v_callVi (n := 2) (k := 0) (as := [.int (xs (4 * n + 1)), .int (xs (4 * n + 2))]) (C.wa ad9) (c_line _ (Z.wa ad9) (xs (4 * n + 1)) (xs (4 * n + 2)) gu (hI.1.e26 e26)) (gv (tg4 83 rfl rfl) (tg4 84 rfl rfl) (tg4 85 rfl rfl) (tg1 6 rfl rfl) (tg4 86 rfl rfl)) (by decide +kernel) ⟨(Nat.le_of_ble_eq_true rfl), (Nat.le_of_ble_eq_true rfl)⟩ rfl cx_M rfl rfl (Nat.le_of_ble_eq_true rfl) dL_law_584 ⟨(show cs + 6 ≤ 601024 by omega), (show sl + 60 ≤ 7293034 by omega)⟩ (fun r2 g2 hp2 => ?_)
  obtain ⟨t1, t2, t3, t4⟩ := turn (LI_line hI (by omega) (xs (4 * n + 1)) (xs (4 * n + 2))) hR1 hu (cong_line e26 (xs (4 * n + 1)) (xs (4 * n + 2))) hp2
  refine v_istore (lo' := loL (Z.wa ad9) b n (some (.int r1)) (some (.int r2)) none none) (C.wa ad9) dL_law_587 (Nat.le_of_ble_eq_true rfl) rfl rfl ?_
  refine v_aload_n (C.wa ad9) dL_law_589 rfl rfl ?_
  refine v_callVi (n := 0) (k := 0) (as := []) (C.wa ad9) (c_thrown _ (Z.wa ad9) g2) (gv (tg4 37 rfl rfl) (tg4 38 rfl rfl) (tg4 39 rfl rfl) (tg1 6 rfl rfl) (tg4 40 rfl rfl)) (by decide +kernel) ⟨(Nat.le_of_ble_eq_true rfl), (Nat.le_of_ble_eq_true rfl)⟩ rfl cx_M rfl rfl (Nat.le_of_ble_eq_true rfl) dL_law_590 ⟨(show cs + 6 ≤ 601024 by omega), (show sl + 60 ≤ 7293034 by omega)⟩ (fun r3 g3 hp3 => ?_)
  obtain ⟨hr3, hg3⟩ := hp3
  subst hg3
  refine v_iload (C.wa ad9) dL_law_593 rfl ?_
  refine v_icmp_eq (tgt := 600) (C.wa ad9) dL_law_595 (by decide) (fun _ => ?_) (fun h => absurd (hr3.trans (t1.trans hr1.symm)) h)
  refine v_iload (C.wa ad9) dL_law_600 rfl ?_
  have fin : V P room_1 (Z.wa ad9) (loL (Z.wa ad9) b n (some (.int r1)) (some (.int r2)) none none) 617 [] g3 (cs + 6) (sl + 60) := by
    refine v_goto (tgt := 1332) (C.wa ad9) dL_law_617 (by decide) ?_
    refine v_wide (k := cs + 6) (n := sl + 60) (by omega) (by omega) ?_
    exact v_lw (lo' := loL (Z.wa ad9) b n none none none none) (Nat.le_of_ble_eq_true rfl) loL_no (K ad9 g3 hE t3 t4)
  refine v_if_ne (tgt := 617) (C.wa ad9) dL_law_602 (by decide) (fun _ => fin) (fun h => ?_)
  obtain ⟨t5, t6⟩ := t2 (nI_z3 (Nat.le_trans (le_line (xs (4 * n + 1)) (xs (4 * n + 2)) g) (by decide)) (hr1.symm.trans h))
  refine v_aload_n (C.wa ad9) dL_law_605 rfl rfl ?_
  refine v_iconst (v := 0) (C.wa ad9) dL_law_606 (by decide) ?_
  refine v_lald0 (C.wa ad9) dL_law_607 ?_
  refine v_iload (C.wa ad9) dL_law_608 rfl ?_
  refine v_i2l (C.wa ad9) dL_law_610 ?_
  refine v_lcmp (C.wa ad9) dL_law_611 ?_
  refine v_if_eq (tgt := 617) (C.wa ad9) dL_law_612 (by decide) (fun _ => fin) (fun h => absurd (by rw [t6, t5]; exact lcmp_eq _) h)
set_option maxRecDepth 100000 in
theorem case_7 {P : Pm} {Z : Zc} {b L n cs sl : Nat} {xs : Nat → Int32} {g : MG} (hl9 : P.2.1.stackTraces = false) (C : Cx P Z cL_law "PosterTypesLaw") (hA : CxS P) (hX : CxX P b L xs) (hz : b < Z.z) (hn : 4 * n + 4 ≤ L) (hL : L ≤ 2048) (hI : LI n g) (hR : Rl g g) (hc : cs + 6 ≤ 601024 ∧ sl + 60 ≤ 7293034)
    (K : ∀ (ad9 : Nat → Nat) (g2 : MG), adE Z ad9 → LI (n + 1) g2 → Rl g2 g2 → V P room_1 (Z.wa ad9) (loL (Z.wa ad9) b n none none none none) 1332 [] g2 (cs + 6) (sl + 60)) : V P room_1 Z (loL Z b n none none none none) 620 [] g cs sl := by
  refine v_aload_n C dL_law_620 rfl rfl ?_
  refine v_aload_n C dL_law_621 rfl rfl ?_
  refine v_iload C dL_law_622 rfl ?_
  refine v_iconst (v := 1) C dL_law_624 (by decide) ?_
  refine v_iadd C dL_law_625 ?_
  refine v_topi (ixL n 1) ?_
  refine v_sld C hX hz ⟨by omega, by omega⟩ dL_law_626 ?_
  refine v_aload_n C dL_law_627 rfl rfl ?_
  refine v_callW (n := 3) (as := [.ref (Z.ad 30), .int (xs (4 * n + 1)), .ref (Z.ad 500)]) C hA (w_set _ hl9 Z (xs (4 * n + 1)) n g g hI hR) (gsw (tg3 96 rfl rfl) (tg3 97 rfl rfl) (tg1 0 rfl rfl) (tg3 98 rfl rfl)) (by decide +kernel) ⟨(Nat.le_of_ble_eq_true rfl), (Nat.le_of_ble_eq_true rfl)⟩ rfl rfl (Nat.le_of_ble_eq_true rfl) dL_law_628 ⟨(show cs + 1 ≤ 601024 by omega), (show sl + 6 ≤ 7293034 by omega)⟩ (fun r1 ad9 gu hp => ?_)
  obtain ⟨hr1, hE, g1, hR1, hF1, hu⟩ := hp
  have e26 : E26 gu g := by rw [show gu = _ from hu]; exact e26_law hF1
  refine v_lo (loL_wa hE b n none none none none) ?_
  have hz9 : b < (Z.wa ad9).z := hz
  refine v_istore (lo' := loL (Z.wa ad9) b n (some (.int r1)) none none none) (C.wa ad9) dL_law_631 (Nat.le_of_ble_eq_true rfl) rfl rfl ?_
  refine v_aload_n (C.wa ad9) dL_law_633 rfl rfl ?_
  refine v_aload_n (C.wa ad9) dL_law_634 rfl rfl ?_
  refine v_iload (C.wa ad9) dL_law_635 rfl ?_
  refine v_iconst (v := 1) (C.wa ad9) dL_law_637 (by decide) ?_
  refine v_iadd (C.wa ad9) dL_law_638 ?_
  refine v_topi (ixL n 1) ?_
  refine v_sld (C.wa ad9) hX hz ⟨by omega, by omega⟩ dL_law_639 ?_
  refine v_callVi (n := 1) (k := 0) (as := [.int (xs (4 * n + 1))]) (C.wa ad9) (c_set _ (Z.wa ad9) (xs (4 * n + 1)) gu (hI.1.e26 e26)) (gv (tg4 92 rfl rfl) (tg4 93 rfl rfl) (tg4 94 rfl rfl) (tg1 6 rfl rfl) (tg4 95 rfl rfl)) (by decide +kernel) ⟨(Nat.le_of_ble_eq_true rfl), (Nat.le_of_ble_eq_true rfl)⟩ rfl cx_M rfl rfl (Nat.le_of_ble_eq_true rfl) dL_law_640 ⟨(show cs + 1 ≤ 601024 by omega), (show sl + 6 ≤ 7293034 by omega)⟩ (fun r2 g2 hp2 => ?_)
  obtain ⟨t1, t2, t3, t4⟩ := turn (LI_set hI (by omega) (xs (4 * n + 1))) hR1 hu (cong_set e26 (xs (4 * n + 1))) hp2
  refine v_istore (lo' := loL (Z.wa ad9) b n (some (.int r1)) (some (.int r2)) none none) (C.wa ad9) dL_law_643 (Nat.le_of_ble_eq_true rfl) rfl rfl ?_
  refine v_aload_n (C.wa ad9) dL_law_645 rfl rfl ?_
  refine v_callVi (n := 0) (k := 0) (as := []) (C.wa ad9) (c_thrown _ (Z.wa ad9) g2) (gv (tg4 37 rfl rfl) (tg4 38 rfl rfl) (tg4 39 rfl rfl) (tg1 6 rfl rfl) (tg4 40 rfl rfl)) (by decide +kernel) ⟨(Nat.le_of_ble_eq_true rfl), (Nat.le_of_ble_eq_true rfl)⟩ rfl cx_M rfl rfl (Nat.le_of_ble_eq_true rfl) dL_law_646 ⟨(show cs + 1 ≤ 601024 by omega), (show sl + 6 ≤ 7293034 by omega)⟩ (fun r3 g3 hp3 => ?_)
  obtain ⟨hr3, hg3⟩ := hp3
  subst hg3
  refine v_iload (C.wa ad9) dL_law_649 rfl ?_
  refine v_icmp_eq (tgt := 656) (C.wa ad9) dL_law_651 (by decide) (fun _ => ?_) (fun h => absurd (hr3.trans (t1.trans hr1.symm)) h)
  refine v_iload (C.wa ad9) dL_law_656 rfl ?_
  have fin : V P room_1 (Z.wa ad9) (loL (Z.wa ad9) b n (some (.int r1)) (some (.int r2)) none none) 673 [] g3 (cs + 1) (sl + 6) := by
    refine v_goto (tgt := 1332) (C.wa ad9) dL_law_673 (by decide) ?_
    refine v_wide (k := cs + 6) (n := sl + 60) (by omega) (by omega) ?_
    exact v_lw (lo' := loL (Z.wa ad9) b n none none none none) (Nat.le_of_ble_eq_true rfl) loL_no (K ad9 g3 hE t3 t4)
  refine v_if_ne (tgt := 673) (C.wa ad9) dL_law_658 (by decide) (fun _ => fin) (fun h => ?_)
  obtain ⟨t5, t6⟩ := t2 (nI_z3 (Nat.le_trans (le_set (xs (4 * n + 1)) g) (by decide)) (hr1.symm.trans h))
  refine v_aload_n (C.wa ad9) dL_law_661 rfl rfl ?_
  refine v_iconst (v := 0) (C.wa ad9) dL_law_662 (by decide) ?_
  refine v_lald0 (C.wa ad9) dL_law_663 ?_
  refine v_iload (C.wa ad9) dL_law_664 rfl ?_
  refine v_i2l (C.wa ad9) dL_law_666 ?_
  refine v_lcmp (C.wa ad9) dL_law_667 ?_
  refine v_if_eq (tgt := 673) (C.wa ad9) dL_law_668 (by decide) (fun _ => fin) (fun h => absurd (by rw [t6, t5]; exact lcmp_eq _) h)
set_option maxRecDepth 100000 in
theorem case_8 {P : Pm} {Z : Zc} {b L n cs sl : Nat} {xs : Nat → Int32} {g : MG} (hl9 : P.2.1.stackTraces = false) (C : Cx P Z cL_law "PosterTypesLaw") (hA : CxS P) (hX : CxX P b L xs) (hz : b < Z.z) (hn : 4 * n + 4 ≤ L) (hL : L ≤ 2048) (hI : LI n g) (hR : Rl g g) (hc : cs + 6 ≤ 601024 ∧ sl + 60 ≤ 7293034)
    (K : ∀ (ad9 : Nat → Nat) (g2 : MG), adE Z ad9 → LI (n + 1) g2 → Rl g2 g2 → V P room_1 (Z.wa ad9) (loL (Z.wa ad9) b n none none none none) 1332 [] g2 (cs + 6) (sl + 60)) : V P room_1 Z (loL Z b n none none none none) 676 [] g cs sl := by
  refine v_aload_n C dL_law_676 rfl rfl ?_
  refine v_aload_n C dL_law_677 rfl rfl ?_
  refine v_iload C dL_law_678 rfl ?_
  refine v_iconst (v := 1) C dL_law_680 (by decide) ?_
  refine v_iadd C dL_law_681 ?_
  refine v_topi (ixL n 1) ?_
  refine v_sld C hX hz ⟨by omega, by omega⟩ dL_law_682 ?_
  refine v_aload_n C dL_law_683 rfl rfl ?_
  refine v_iload C dL_law_684 rfl ?_
  refine v_iconst (v := 2) C dL_law_686 (by decide) ?_
  refine v_iadd C dL_law_687 ?_
  refine v_topi (ixL n 2) ?_
  refine v_sld C hX hz ⟨by omega, by omega⟩ dL_law_688 ?_
  refine v_aload_n C dL_law_689 rfl rfl ?_
  refine v_callW (n := 4) (as := [.ref (Z.ad 30), .int (xs (4 * n + 1)), .int (xs (4 * n + 2)), .ref (Z.ad 500)]) C hA (w_print _ hl9 Z (xs (4 * n + 1)) (xs (4 * n + 2)) n g g hI hR) (gsw (tg3 108 rfl rfl) (tg3 109 rfl rfl) (tg1 0 rfl rfl) (tg3 110 rfl rfl)) (by decide +kernel) ⟨(Nat.le_of_ble_eq_true rfl), (Nat.le_of_ble_eq_true rfl)⟩ rfl rfl (Nat.le_of_ble_eq_true rfl) dL_law_690 ⟨(show cs + 1 ≤ 601024 by omega), (show sl + 6 ≤ 7293034 by omega)⟩ (fun r1 ad9 gu hp => ?_)
  obtain ⟨hr1, hE, g1, hR1, hF1, hu⟩ := hp
  have e26 : E26 gu g := by rw [show gu = _ from hu]; exact e26_law hF1
  refine v_lo (loL_wa hE b n none none none none) ?_
  have hz9 : b < (Z.wa ad9).z := hz
  refine v_istore (lo' := loL (Z.wa ad9) b n (some (.int r1)) none none none) (C.wa ad9) dL_law_693 (Nat.le_of_ble_eq_true rfl) rfl rfl ?_
  refine v_aload_n (C.wa ad9) dL_law_695 rfl rfl ?_
  refine v_aload_n (C.wa ad9) dL_law_696 rfl rfl ?_
  refine v_iload (C.wa ad9) dL_law_697 rfl ?_
  refine v_iconst (v := 1) (C.wa ad9) dL_law_699 (by decide) ?_
  refine v_iadd (C.wa ad9) dL_law_700 ?_
  refine v_topi (ixL n 1) ?_
  refine v_sld (C.wa ad9) hX hz ⟨by omega, by omega⟩ dL_law_701 ?_
  refine v_aload_n (C.wa ad9) dL_law_702 rfl rfl ?_
  refine v_iload (C.wa ad9) dL_law_703 rfl ?_
  refine v_iconst (v := 2) (C.wa ad9) dL_law_705 (by decide) ?_
  refine v_iadd (C.wa ad9) dL_law_706 ?_
  refine v_topi (ixL n 2) ?_
  refine v_sld (C.wa ad9) hX hz ⟨by omega, by omega⟩ dL_law_707 ?_
  refine v_callVi (n := 2) (k := 0) (as := [.int (xs (4 * n + 1)), .int (xs (4 * n + 2))]) (C.wa ad9) (c_print _ (Z.wa ad9) (xs (4 * n + 1)) (xs (4 * n + 2)) gu (hI.1.e26 e26)) (gv (tg4 123 rfl rfl) (tg4 124 rfl rfl) (tg4 125 rfl rfl) (tg1 6 rfl rfl) (tg4 126 rfl rfl)) (by decide +kernel) ⟨(Nat.le_of_ble_eq_true rfl), (Nat.le_of_ble_eq_true rfl)⟩ rfl cx_M rfl rfl (Nat.le_of_ble_eq_true rfl) dL_law_708 ⟨(show cs + 1 ≤ 601024 by omega), (show sl + 6 ≤ 7293034 by omega)⟩ (fun r2 g2 hp2 => ?_)
  obtain ⟨t1, t2, t3, t4⟩ := turn (LI_print hI (by omega) (xs (4 * n + 1)) (xs (4 * n + 2))) hR1 hu (cong_print e26 (xs (4 * n + 1)) (xs (4 * n + 2))) hp2
  refine v_istore (lo' := loL (Z.wa ad9) b n (some (.int r1)) (some (.int r2)) none none) (C.wa ad9) dL_law_711 (Nat.le_of_ble_eq_true rfl) rfl rfl ?_
  refine v_aload_n (C.wa ad9) dL_law_713 rfl rfl ?_
  refine v_callVi (n := 0) (k := 0) (as := []) (C.wa ad9) (c_thrown _ (Z.wa ad9) g2) (gv (tg4 37 rfl rfl) (tg4 38 rfl rfl) (tg4 39 rfl rfl) (tg1 6 rfl rfl) (tg4 40 rfl rfl)) (by decide +kernel) ⟨(Nat.le_of_ble_eq_true rfl), (Nat.le_of_ble_eq_true rfl)⟩ rfl cx_M rfl rfl (Nat.le_of_ble_eq_true rfl) dL_law_714 ⟨(show cs + 1 ≤ 601024 by omega), (show sl + 6 ≤ 7293034 by omega)⟩ (fun r3 g3 hp3 => ?_)
  obtain ⟨hr3, hg3⟩ := hp3
  subst hg3
  refine v_iload (C.wa ad9) dL_law_717 rfl ?_
  refine v_icmp_eq (tgt := 724) (C.wa ad9) dL_law_719 (by decide) (fun _ => ?_) (fun h => absurd (hr3.trans (t1.trans hr1.symm)) h)
  refine v_iload (C.wa ad9) dL_law_724 rfl ?_
  have fin : V P room_1 (Z.wa ad9) (loL (Z.wa ad9) b n (some (.int r1)) (some (.int r2)) none none) 741 [] g3 (cs + 1) (sl + 6) := by
    refine v_goto (tgt := 1332) (C.wa ad9) dL_law_741 (by decide) ?_
    refine v_wide (k := cs + 6) (n := sl + 60) (by omega) (by omega) ?_
    exact v_lw (lo' := loL (Z.wa ad9) b n none none none none) (Nat.le_of_ble_eq_true rfl) loL_no (K ad9 g3 hE t3 t4)
  refine v_if_ne (tgt := 741) (C.wa ad9) dL_law_726 (by decide) (fun _ => fin) (fun h => ?_)
  obtain ⟨t5, t6⟩ := t2 (nI_z3 (Nat.le_trans (le_print (xs (4 * n + 1)) (xs (4 * n + 2)) g) (by decide)) (hr1.symm.trans h))
  refine v_aload_n (C.wa ad9) dL_law_729 rfl rfl ?_
  refine v_iconst (v := 0) (C.wa ad9) dL_law_730 (by decide) ?_
  refine v_lald0 (C.wa ad9) dL_law_731 ?_
  refine v_iload (C.wa ad9) dL_law_732 rfl ?_
  refine v_i2l (C.wa ad9) dL_law_734 ?_
  refine v_lcmp (C.wa ad9) dL_law_735 ?_
  refine v_if_eq (tgt := 741) (C.wa ad9) dL_law_736 (by decide) (fun _ => fin) (fun h => absurd (by rw [t6, t5]; exact lcmp_eq _) h)
