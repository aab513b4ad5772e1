/-! THE LAW: a poster's lines -/
def hgS (s : MG) (p i : Nat) : Int32 := if s 15 p = 1 then sumI (fun k => s 5 (iz (s 18 (4 * p + k))) * nI (szw (wdO s (4 * p + k)))) i else 0
def ouS (s : MG) (p i x : Nat) : Int32 := if s 15 p = 1 then nI (outN (s 18) (tkO s) (wdO s) p (x / 10) (x % 10) i) else 0
def mnS (s : MG) (p i : Nat) : Int32 := sumI (fun k => nI (szw (wdO s (4 * p + k)))) i
def vL (s : MG) (base : Nat → Int32) (p i : Nat) : Nat → Int32 := fun x => base x + ouS s p i x
theorem set_1 {s : MG} {p i : Nat} (h : s 15 p = 1) : hgS s p (i + 1) = hgS s p i + s 5 (iz (s 18 (4 * p + i))) * nI (szw (wdO s (4 * p + i))) ∧ flO s p (i + 1) = flO s p i + s 19 (4 * p + i) := by
  unfold hgS flO
  rw [if_pos h, if_pos h, if_pos h, if_pos h]
  exact ⟨rfl, rfl⟩
theorem set_0 {s : MG} {p i : Nat} (h : ¬ s 15 p = 1) : hgS s p (i + 1) = hgS s p i ∧ flO s p (i + 1) = flO s p i ∧ ∀ base, vL s base p (i + 1) = vL s base p i := by
  unfold hgS flO vL ouS
  rw [if_neg h, if_neg h, if_neg h, if_neg h]
  exact ⟨rfl, rfl, fun base => by funext x; rw [if_neg h, if_neg h]⟩
theorem vL_1 {s m m1 : MG} {p i f nf : Nat} {base : Nat → Int32} (h : s 15 p = 1) (hf5 : nf ≤ 5) (hf : s 18 (4 * p + i) = nI f) (hfn : f < nf) (hO : OutI m m1 nf (vD (vL s base p i) f (tkO s (4 * p + i)) (szw (wdO s (4 * p + i))))) : OutI m m1 nf (vL s base p (i + 1)) := by
  refine hO.c (fun x hx => ?_)
  unfold vD vL ouS
  rw [if_pos h, if_pos h, outN, hf]
  by_cases hxf : x / 10 = f
  · rw [if_pos hxf, if_pos (congrArg nI hxf.symm), ← nI_add]
    exact Int32.add_assoc _ _ _
  · rw [if_neg hxf, if_neg (fun z => hxf ((nI_eq (by omega) (by omega)).mp z).symm), Nat.add_zero]
    exact Int32.add_zero _
set_option maxRecDepth 100000 in
theorem law_ln {P : Pm} {Z : Zc} {S : Sc} {ad : Nat → Nat} {s m : MG} {N : Nat} {co br x6 : Int32} {time : Nat} {v7 v8 : Option Value} (hP9 : P.2.1.stackTraces = false) (C : Cx P Z cL_law "PosterTypesLaw") (hW9 : CxW P Z) (hE : LE N s) (hR0 : SimR s m) {p c s0 : Nat} {fw lt : Int32} {base : Nat → Int32} (hp : p < npO s) (hc : c + 30 ≤ 600130 ∧ s0 + 180 ≤ 7301080)
    (K : ∀ (m1 g : MG) (v19 v20 v21 v22 v23 : Option Value), OutI m m1 (nfO s) (vL s base p (nlO s p)) → Rl s g → V P room_1 (Z.wl ad m1) [some (.ref S.1), some (.ref (ad 30)), some (.ref (ad 600)), some (.int co), some (.int br), some (.int (nI time)), some (.int x6), v7, v8, some (.int (nI (nfO s))), some (.ref (ad (900 + nfO s))), some (.int fw), some (.int lt), some (.int (nI p)), some (.int (s 15 p)), some (.int (hgS s p (nlO s p))), some (.int (flO s p (nlO s p))), some (.int (mnS s p (nlO s p))), some (.int (nI (nlO s p))), v19, v20, v21, v22, v23] 435 [] g (c + 25) (s0 + 150))
    : ∀ (q i : Nat) (m1 g : MG) (v19 v20 v21 v22 v23 : Option Value), nlO s p - i < q → i ≤ nlO s p → OutI m m1 (nfO s) (vL s base p i) → Rl s g → V P room_1 (Z.wl ad m1) [some (.ref S.1), some (.ref (ad 30)), some (.ref (ad 600)), some (.int co), some (.int br), some (.int (nI time)), some (.int x6), v7, v8, some (.int (nI (nfO s))), some (.ref (ad (900 + nfO s))), some (.int fw), some (.int lt), some (.int (nI p)), some (.int (s 15 p)), some (.int (hgS s p i)), some (.int (flO s p i)), some (.int (mnS s p i)), some (.int (nI i)), v19, v20, v21, v22, v23] 195 [] g (c + 6 * i) (s0 + 36 * i) := by
  have hI := hE.1.1
  have hf5 := (IvM_nf hI).1
  have hp6 := (IvM_np hI).1
  have h4 := (IvM_nl hI (show p < 6 by omega)).2
  intro q
  induction q with
  | zero => intro i m1 g v19 v20 v21 v22 v23 hq; exact absurd hq (Nat.not_lt_zero _)
  | succ q ih =>
    intro i m1 g v19 v20 v21 v22 v23 hq hi hO hRl
    have hR := hR0.low hI (fun k k1 k2 => hO.1 k k1 k2)
    obtain ⟨hPF, hPL, hPX⟩ := hR.L hp
    refine v_iload (C.wl _ _) dL_law_195 rfl ?_
    refine v_aload_n (C.wl _ _) dL_law_197 rfl rfl ?_
    refine v_iload (C.wl _ _) dL_law_198 rfl ?_
    refine v_iconst (v := 2) (C.wl _ _) dL_law_200 (by decide) ?_
    refine v_callX (n := 2) (k := 30) (as := [.int (nI p), .int 2]) (C.wl _ _) hW9.S (x_told _ hP9 (Z.wl ad m1) (nI p) 2 s g hE.1.1 hE.1.2.1 hRl) (gv (tg2 47 rfl rfl) (tg2 48 rfl rfl) (tg2 49 rfl rfl) (tg1 1 rfl rfl) (tg2 50 rfl rfl)) (by decide +kernel) ⟨Nat.le_of_ble_eq_true rfl, Nat.le_of_ble_eq_true rfl⟩ rfl cx_T rfl rfl (Nat.le_of_ble_eq_true rfl) dL_law_201 ⟨(by show c + 6 * i + 1 ≤ 600130; omega), (by show s0 + 36 * i + 6 ≤ 7301080; omega)⟩ (fun E q g201 hp201 => absurd (cdT_0 hI hp (v := 2) (by decide)) hp201.1) (fun r201 g201 hp201 => ?_)
    obtain ⟨-, hr201, hRl201, hK201⟩ := hp201
    refine v_topi (y := nI (nlO s p)) (hr201.trans (by rw [iz_nI (show p < 2147483648 by omega)]; exact (told_n hI (show p < 6 by omega)).symm)) ?_
    refine v_icmp_ge (tgt := 435) (C.wl _ _) dL_law_204 (by decide) (fun h204 => ?_) (fun h204 => ?_)
    · refine v_wide (k := c + 25) (n := s0 + 150) (by show c + 6 * i + 1 ≤ c + 25; omega) (by show s0 + 36 * i + 6 ≤ s0 + 150; omega) ?_
      have hie : i = nlO s p := Nat.le_antisymm hi ((nI_leI (by omega) (by omega)).mp h204)
      rw [hie] at hO ⊢
      exact K m1 g201 v19 v20 v21 v22 v23 hO hRl201
    · have hii : i < nlO s p := Nat.lt_of_not_le fun q => h204 ((nI_leI (by omega) (by omega)).mpr q)
      refine v_aload_n (C.wl _ _) dL_law_207 rfl rfl ?_
      refine v_iload (C.wl _ _) dL_law_208 rfl ?_
      refine v_iload (C.wl _ _) dL_law_210 rfl ?_
      refine v_iconst (v := 0) (C.wl _ _) dL_law_212 (by decide) ?_
      refine v_callX (n := 3) (k := 30) (as := [.int (nI p), .int (nI i), .int 0]) (C.wl _ _) hW9.S (x_about _ hP9 (Z.wl ad m1) (nI p) (nI i) 0 s g201 hE.1.1 hE.1.2.1 hRl201) (gv (tg2 78 rfl rfl) (tg2 79 rfl rfl) (tg2 80 rfl rfl) (tg1 1 rfl rfl) (tg2 81 rfl rfl)) (by decide +kernel) ⟨Nat.le_of_ble_eq_true rfl, Nat.le_of_ble_eq_true rfl⟩ rfl cx_T rfl rfl (Nat.le_of_ble_eq_true rfl) dL_law_213 ⟨(by show c + 6 * i + 1 + 1 ≤ 600130; omega), (by show s0 + 36 * i + 6 + 6 ≤ 7301080; omega)⟩ (fun E q g213 hp213 => absurd (cdA_0 hI hp hii (v := 0) (by decide)) hp213.1) (fun r213 g213 hp213 => ?_)
      obtain ⟨-, hr213, hRl213, hK213⟩ := hp213
      refine v_topi (y := nI (szw (wdO s (4 * p + i)))) (hr213.trans (by rw [iz_nI (show p < 2147483648 by omega), iz_nI (show i < 2147483648 by omega)]; exact lto_0.symm)) ?_
      refine v_istore (lo' := [some (.ref S.1), some (.ref (ad 30)), some (.ref (ad 600)), some (.int co), some (.int br), some (.int (nI time)), some (.int x6), v7, v8, some (.int (nI (nfO s))), some (.ref (ad (900 + nfO s))), some (.int fw), some (.int lt), some (.int (nI p)), some (.int (s 15 p)), some (.int (hgS s p i)), some (.int (flO s p i)), some (.int (mnS s p i)), some (.int (nI i)), some (.int (nI (szw (wdO s (4 * p + i))))), v20, v21, v22, v23]) (C.wl _ _) dL_law_216 (Nat.le_of_ble_eq_true rfl) rfl rfl ?_
      refine v_iload (C.wl _ _) dL_law_218 rfl ?_
      refine v_iload (C.wl _ _) dL_law_220 rfl ?_
      refine v_iadd (C.wl _ _) dL_law_222 ?_
      refine v_topi (y := mnS s p (i + 1)) rfl ?_
      refine v_istore (lo' := [some (.ref S.1), some (.ref (ad 30)), some (.ref (ad 600)), some (.int co), some (.int br), some (.int (nI time)), some (.int x6), v7, v8, some (.int (nI (nfO s))), some (.ref (ad (900 + nfO s))), some (.int fw), some (.int lt), some (.int (nI p)), some (.int (s 15 p)), some (.int (hgS s p i)), some (.int (flO s p i)), some (.int (mnS s p (i + 1))), some (.int (nI i)), some (.int (nI (szw (wdO s (4 * p + i))))), v20, v21, v22, v23]) (C.wl _ _) dL_law_223 (Nat.le_of_ble_eq_true rfl) rfl rfl ?_
      refine v_iload (C.wl _ _) dL_law_225 rfl ?_
      refine v_if_ne (tgt := 271) (C.wl _ _) dL_law_227 (by decide) (fun h227 => ?_) (fun h227 => ?_)
      · have h15 : s 15 p = 1 := (IvM_01 hI (show p < 6 by omega)).resolve_left h227
        obtain ⟨f, hff, hfe⟩ := hE.1.2.1 p i hp h15 hii
        obtain ⟨hL1, hL2, hL3⟩ := hE.2.1.1 p i hp h15 hii
        have h0 : ¬ s 15 p = 0 := h227
        refine v_aload_n (C.wl _ _) dL_law_271 rfl rfl ?_
        refine v_iload (C.wl _ _) dL_law_272 rfl ?_
        refine v_iload (C.wl _ _) dL_law_274 rfl ?_
        refine v_iconst (v := 1) (C.wl _ _) dL_law_276 (by decide) ?_
        refine v_callX (n := 3) (k := 30) (as := [.int (nI p), .int (nI i), .int 1]) (C.wl _ _) hW9.S (x_about _ hP9 (Z.wl ad m1) (nI p) (nI i) 1 s g213 hE.1.1 hE.1.2.1 hRl213) (gv (tg2 78 rfl rfl) (tg2 79 rfl rfl) (tg2 80 rfl rfl) (tg1 1 rfl rfl) (tg2 81 rfl rfl)) (by decide +kernel) ⟨Nat.le_of_ble_eq_true rfl, Nat.le_of_ble_eq_true rfl⟩ rfl cx_T rfl rfl (Nat.le_of_ble_eq_true rfl) dL_law_277 ⟨(by show c + 6 * i + 1 + 1 + 1 ≤ 600130; omega), (by show s0 + 36 * i + 6 + 6 + 6 ≤ 7301080; omega)⟩ (fun E q g277 hp277 => absurd (cdA_0 hI hp hii (v := 1) (by decide)) hp277.1) (fun r277 g277 hp277 => ?_)
        obtain ⟨-, hr277, hRl277, hK277⟩ := hp277
        refine v_topi (y := nI f) (hr277.trans (by rw [iz_nI (show p < 2147483648 by omega), iz_nI (show i < 2147483648 by omega)]; exact (by unfold ltoO; rw [if_neg (by decide), if_neg h0]; exact (if_pos rfl).trans hfe))) ?_
        refine v_istore (lo' := [some (.ref S.1), some (.ref (ad 30)), some (.ref (ad 600)), some (.int co), some (.int br), some (.int (nI time)), some (.int x6), v7, v8, some (.int (nI (nfO s))), some (.ref (ad (900 + nfO s))), some (.int fw), some (.int lt), some (.int (nI p)), some (.int (s 15 p)), some (.int (hgS s p i)), some (.int (flO s p i)), some (.int (mnS s p (i + 1))), some (.int (nI i)), some (.int (nI (szw (wdO s (4 * p + i))))), some (.int (nI f)), v21, v22, v23]) (C.wl _ _) dL_law_280 (Nat.le_of_ble_eq_true rfl) rfl rfl ?_
        refine v_aload_n (C.wl _ _) dL_law_282 rfl rfl ?_
        refine v_iload (C.wl _ _) dL_law_283 rfl ?_
        refine v_iload (C.wl _ _) dL_law_285 rfl ?_
        refine v_iconst (v := 3) (C.wl _ _) dL_law_287 (by decide) ?_
        refine v_callX (n := 3) (k := 30) (as := [.int (nI p), .int (nI i), .int 3]) (C.wl _ _) hW9.S (x_about _ hP9 (Z.wl ad m1) (nI p) (nI i) 3 s g277 hE.1.1 hE.1.2.1 hRl277) (gv (tg2 78 rfl rfl) (tg2 79 rfl rfl) (tg2 80 rfl rfl) (tg1 1 rfl rfl) (tg2 81 rfl rfl)) (by decide +kernel) ⟨Nat.le_of_ble_eq_true rfl, Nat.le_of_ble_eq_true rfl⟩ rfl cx_T rfl rfl (Nat.le_of_ble_eq_true rfl) dL_law_288 ⟨(by show c + 6 * i + 1 + 1 + 1 + 1 ≤ 600130; omega), (by show s0 + 36 * i + 6 + 6 + 6 + 6 ≤ 7301080; omega)⟩ (fun E q g288 hp288 => absurd (cdA_0 hI hp hii (v := 3) (by decide)) hp288.1) (fun r288 g288 hp288 => ?_)
        obtain ⟨-, hr288, hRl288, hK288⟩ := hp288
        refine v_topi (y := nI (tkO s (4 * p + i) / 10 ^ 0)) (hr288.trans (by rw [iz_nI (show p < 2147483648 by omega), iz_nI (show i < 2147483648 by omega)]; exact (by obtain ⟨-, t, ht, hte⟩ := hI.2.2.2.2.2.2.2 p i (by omega) h15 hii; unfold ltoO; rw [if_neg (by decide), if_neg h0, if_neg (by decide), if_neg (by decide), Nat.pow_zero, Nat.div_one]; unfold tkO; rw [hte, iz_nI (by omega)]))) ?_
        refine v_istore (lo' := [some (.ref S.1), some (.ref (ad 30)), some (.ref (ad 600)), some (.int co), some (.int br), some (.int (nI time)), some (.int x6), v7, v8, some (.int (nI (nfO s))), some (.ref (ad (900 + nfO s))), some (.int fw), some (.int lt), some (.int (nI p)), some (.int (s 15 p)), some (.int (hgS s p i)), some (.int (flO s p i)), some (.int (mnS s p (i + 1))), some (.int (nI i)), some (.int (nI (szw (wdO s (4 * p + i))))), some (.int (nI f)), some (.int (nI (tkO s (4 * p + i) / 10 ^ 0))), v22, v23]) (C.wl _ _) dL_law_291 (Nat.le_of_ble_eq_true rfl) rfl rfl ?_
        refine v_iconst (v := 0) (C.wl _ _) dL_law_293 (by decide) ?_
        refine v_istore (lo' := [some (.ref S.1), some (.ref (ad 30)), some (.ref (ad 600)), some (.int co), some (.int br), some (.int (nI time)), some (.int x6), v7, v8, some (.int (nI (nfO s))), some (.ref (ad (900 + nfO s))), some (.int fw), some (.int lt), some (.int (nI p)), some (.int (s 15 p)), some (.int (hgS s p i)), some (.int (flO s p i)), some (.int (mnS s p (i + 1))), some (.int (nI i)), some (.int (nI (szw (wdO s (4 * p + i))))), some (.int (nI f)), some (.int (nI (tkO s (4 * p + i) / 10 ^ 0))), some (.int 0), v23]) (C.wl _ _) dL_law_294 (Nat.le_of_ble_eq_true rfl) rfl rfl ?_
        refine v_iload (C.wl _ _) dL_law_296 rfl ?_
        refine v_iconst (v := 1) (C.wl _ _) dL_law_298 (by decide) ?_
        refine v_isub (C.wl _ _) dL_law_299 ?_
        refine v_istore (lo' := [some (.ref S.1), some (.ref (ad 30)), some (.ref (ad 600)), some (.int co), some (.int br), some (.int (nI time)), some (.int x6), v7, v8, some (.int (nI (nfO s))), some (.ref (ad (900 + nfO s))), some (.int fw), some (.int lt), some (.int (nI p)), some (.int (s 15 p)), some (.int (hgS s p i)), some (.int (flO s p i)), some (.int (mnS s p (i + 1))), some (.int (nI i)), some (.int (nI (szw (wdO s (4 * p + i))))), some (.int (nI f)), some (.int (nI (tkO s (4 * p + i) / 10 ^ 0))), some (.int 0), some (.int ((nI (szw (wdO s (4 * p + i)))) - 1))]) (C.wl _ _) dL_law_300 (Nat.le_of_ble_eq_true rfl) rfl rfl ?_
        refine v_lo (lo' := [some (.ref S.1), some (.ref (ad 30)), some (.ref (ad 600)), some (.int co), some (.int br), some (.int (nI time)), some (.int x6), v7, v8, some (.int (nI (nfO s))), some (.ref (ad (900 + nfO s))), some (.int fw), some (.int lt), some (.int (nI p)), some (.int (s 15 p)), some (.int (hgS s p i)), some (.int (flO s p i)), some (.int (mnS s p (i + 1))), some (.int (nI i)), some (.int (nI (szw (wdO s (4 * p + i))))), some (.int (nI f)), some (.int (nI (tkO s (4 * p + i) / 10 ^ 0))), some (.int (nI (dfD (wdO s (4 * p + i)) (tkO s (4 * p + i)) 0))), some (.int ((nI (szw (wdO s (4 * p + i)))) - 1))]) rfl ?_
        refine v_lo (lo' := [some (.ref S.1), some (.ref (ad 30)), some (.ref (ad 600)), some (.int co), some (.int br), some (.int (nI time)), some (.int x6), v7, v8, some (.int (nI (nfO s))), some (.ref (ad (900 + nfO s))), some (.int fw), some (.int lt), some (.int (nI p)), some (.int (s 15 p)), some (.int (hgS s p i)), some (.int (flO s p i)), some (.int (mnS s p (i + 1))), some (.int (nI i)), some (.int (nI (szw (wdO s (4 * p + i))))), some (.int (nI f)), some (.int (nI (tkO s (4 * p + i) / 10 ^ 0))), some (.int (nI (dfD (wdO s (4 * p + i)) (tkO s (4 * p + i)) 0))), some (.int (nI (szw (wdO s (4 * p + i)) - 0) - 1))]) rfl ?_
        refine law_dig hP9 C hW9 hE hR0 hp hii hff g288 (fun m2 hO2 => ?_) _ 0 m1 (Nat.lt_succ_self _) (Nat.zero_le _) (hO.c (fun x _ => by unfold vD; rw [cntD]; split <;> exact (Int32.add_zero _).symm))
        have hO3 := vL_1 h15 hf5 hfe hff hO2
        have hR := hR0.low hI (fun k k1 k2 => hO3.1 k k1 k2)
        obtain ⟨hPF, hPL, hPX⟩ := hR.L hp
        refine v_iload (C.wl _ _) dL_law_369 rfl ?_
        refine v_topi (y := 0) (by rw [Nat.div_eq_of_lt hL1]; rfl) ?_
        refine v_if_ne (tgt := 405) (C.wl _ _) dL_law_371 (by decide) (fun h371 => ?_) (fun h371 => ?_)
        · exact absurd rfl h371
        · refine v_iload (C.wl _ _) dL_law_374 rfl ?_
          refine v_aload_n (C.wl _ _) dL_law_376 rfl rfl ?_
          refine v_iload (C.wl _ _) dL_law_377 rfl ?_
          refine v_iload (C.wl _ _) dL_law_379 rfl ?_
          refine v_iconst (v := 2) (C.wl _ _) dL_law_381 (by decide) ?_
          refine v_callX (n := 3) (k := 30) (as := [.int (nI p), .int (nI i), .int 2]) (C.wl _ _) hW9.S (x_about _ hP9 (Z.wl ad m2) (nI p) (nI i) 2 s g288 hE.1.1 hE.1.2.1 hRl288) (gv (tg2 78 rfl rfl) (tg2 79 rfl rfl) (tg2 80 rfl rfl) (tg1 1 rfl rfl) (tg2 81 rfl rfl)) (by decide +kernel) ⟨Nat.le_of_ble_eq_true rfl, Nat.le_of_ble_eq_true rfl⟩ rfl cx_T rfl rfl (Nat.le_of_ble_eq_true rfl) dL_law_382 ⟨(by show c + 6 * i + 1 + 1 + 1 + 1 + 1 ≤ 600130; omega), (by show s0 + 36 * i + 6 + 6 + 6 + 6 + 6 ≤ 7301080; omega)⟩ (fun E q g382 hp382 => absurd (cdA_0 hI hp hii (v := 2) (by decide)) hp382.1) (fun r382 g382 hp382 => ?_)
          obtain ⟨-, hr382, hRl382, hK382⟩ := hp382
          refine v_topi (y := nI (dfD (wdO s (4 * p + i)) (tkO s (4 * p + i)) (szw (wdO s (4 * p + i))))) (hr382.trans (by rw [iz_nI (show p < 2147483648 by omega), iz_nI (show i < 2147483648 by omega)]; exact (by unfold ltoO; rw [if_neg (by decide), if_neg h0, if_neg (by decide)]; exact (if_pos rfl).trans hL2))) ?_
          refine v_icmp_ne (tgt := 405) (C.wl _ _) dL_law_385 (by decide) (fun h385 => ?_) (fun h385 => ?_)
          · exact absurd rfl h385
          · refine v_aload_n (C.wl _ _) dL_law_388 rfl rfl ?_
            refine l_get (k := 600) C inG5 (ci := 6) rfl 2 (by decide) (tg5 6 rfl rfl) rfl ⟨by decide, by decide⟩ (cW_6 hR.1.1) (sm_r (by decide) hR.1.2.2.2.1 ⟨by decide, by decide⟩) dL_law_389 ?_
            refine v_iload (C.wl _ _) dL_law_392 rfl ?_
            refine l_iald (k := 601) (n := nfO s) (a := f) C ⟨by decide, by decide⟩ hR.2.1.1.1.1 hR.2.1.1.1.2 ⟨hff, by omega⟩ dL_law_394 ?_
            refine v_topi (y := s 5 f) (hR.2.1.1.2 f hff) ?_
            refine v_aload_n (C.wl _ _) dL_law_395 rfl rfl ?_
            refine v_iload (C.wl _ _) dL_law_396 rfl ?_
            refine v_iconst (v := 1) (C.wl _ _) dL_law_398 (by decide) ?_
            refine v_callX (n := 2) (k := 30) (as := [.int (nI p), .int 1]) (C.wl _ _) hW9.S (x_told _ hP9 (Z.wl ad m2) (nI p) 1 s g382 hE.1.1 hE.1.2.1 hRl382) (gv (tg2 47 rfl rfl) (tg2 48 rfl rfl) (tg2 49 rfl rfl) (tg1 1 rfl rfl) (tg2 50 rfl rfl)) (by decide +kernel) ⟨Nat.le_of_ble_eq_true rfl, Nat.le_of_ble_eq_true rfl⟩ rfl cx_T rfl rfl (Nat.le_of_ble_eq_true rfl) dL_law_399 ⟨(by show c + 6 * i + 1 + 1 + 1 + 1 + 1 + 1 ≤ 600130; omega), (by show s0 + 36 * i + 6 + 6 + 6 + 6 + 6 + 6 ≤ 7301080; omega)⟩ (fun E q g399 hp399 => absurd (cdT_0 hI hp (v := 1) (by decide)) hp399.1) (fun r399 g399 hp399 => ?_)
            obtain ⟨-, hr399, hRl399, hK399⟩ := hp399
            refine v_topi (y := s 13 p) (hr399.trans (by rw [iz_nI (show p < 2147483648 by omega)]; rfl)) ?_
            refine v_icmp_ge (tgt := 407) (C.wl _ _) dL_law_402 (by decide) (fun h402 => ?_) (fun h402 => ?_)
            · refine v_iload (C.wl _ _) dL_law_407 rfl ?_
              refine v_iload (C.wl _ _) dL_law_409 rfl ?_
              refine v_iadd (C.wl _ _) dL_law_411 ?_
              refine v_topi (y := flO s p (i + 1)) (by rw [(set_1 h15).2, hL2]) ?_
              refine v_istore (lo' := [some (.ref S.1), some (.ref (ad 30)), some (.ref (ad 600)), some (.int co), some (.int br), some (.int (nI time)), some (.int x6), v7, v8, some (.int (nI (nfO s))), some (.ref (ad (900 + nfO s))), some (.int fw), some (.int lt), some (.int (nI p)), some (.int (s 15 p)), some (.int (hgS s p i)), some (.int (flO s p (i + 1))), some (.int (mnS s p (i + 1))), some (.int (nI i)), some (.int (nI (szw (wdO s (4 * p + i))))), some (.int (nI f)), some (.int (nI ((tkO s (4 * p + i)) / 10 ^ (szw (wdO s (4 * p + i)))))), some (.int (nI (dfD (wdO s (4 * p + i)) (tkO s (4 * p + i)) (szw (wdO s (4 * p + i)))))), some (.int (nI ((szw (wdO s (4 * p + i))) - (szw (wdO s (4 * p + i)))) - 1))]) (C.wl _ _) dL_law_412 (Nat.le_of_ble_eq_true rfl) rfl rfl ?_
              refine v_iload (C.wl _ _) dL_law_414 rfl ?_
              refine v_aload_n (C.wl _ _) dL_law_416 rfl rfl ?_
              refine l_get (k := 600) C inG5 (ci := 6) rfl 2 (by decide) (tg5 6 rfl rfl) rfl ⟨by decide, by decide⟩ (cW_6 hR.1.1) (sm_r (by decide) hR.1.2.2.2.1 ⟨by decide, by decide⟩) dL_law_417 ?_
              refine v_iload (C.wl _ _) dL_law_420 rfl ?_
              refine l_iald (k := 601) (n := nfO s) (a := f) C ⟨by decide, by decide⟩ hR.2.1.1.1.1 hR.2.1.1.1.2 ⟨hff, by omega⟩ dL_law_422 ?_
              refine v_topi (y := s 5 f) (hR.2.1.1.2 f hff) ?_
              refine v_iload (C.wl _ _) dL_law_423 rfl ?_
              refine v_imul (C.wl _ _) dL_law_425 ?_
              refine v_iadd (C.wl _ _) dL_law_426 ?_
              refine v_topi (y := hgS s p (i + 1)) (by rw [(set_1 h15).1, hfe, iz_nI (show f < 2147483648 by omega)]) ?_
              refine v_istore (lo' := [some (.ref S.1), some (.ref (ad 30)), some (.ref (ad 600)), some (.int co), some (.int br), some (.int (nI time)), some (.int x6), v7, v8, some (.int (nI (nfO s))), some (.ref (ad (900 + nfO s))), some (.int fw), some (.int lt), some (.int (nI p)), some (.int (s 15 p)), some (.int (hgS s p (i + 1))), some (.int (flO s p (i + 1))), some (.int (mnS s p (i + 1))), some (.int (nI i)), some (.int (nI (szw (wdO s (4 * p + i))))), some (.int (nI f)), some (.int (nI ((tkO s (4 * p + i)) / 10 ^ (szw (wdO s (4 * p + i)))))), some (.int (nI (dfD (wdO s (4 * p + i)) (tkO s (4 * p + i)) (szw (wdO s (4 * p + i)))))), some (.int (nI ((szw (wdO s (4 * p + i))) - (szw (wdO s (4 * p + i)))) - 1))]) (C.wl _ _) dL_law_427 (Nat.le_of_ble_eq_true rfl) rfl rfl ?_
              refine v_iinc (lo' := [some (.ref S.1), some (.ref (ad 30)), some (.ref (ad 600)), some (.int co), some (.int br), some (.int (nI time)), some (.int x6), v7, v8, some (.int (nI (nfO s))), some (.ref (ad (900 + nfO s))), some (.int fw), some (.int lt), some (.int (nI p)), some (.int (s 15 p)), some (.int (hgS s p (i + 1))), some (.int (flO s p (i + 1))), some (.int (mnS s p (i + 1))), some (.int ((nI i) + 1)), some (.int (nI (szw (wdO s (4 * p + i))))), some (.int (nI f)), some (.int (nI ((tkO s (4 * p + i)) / 10 ^ (szw (wdO s (4 * p + i)))))), some (.int (nI (dfD (wdO s (4 * p + i)) (tkO s (4 * p + i)) (szw (wdO s (4 * p + i)))))), some (.int (nI ((szw (wdO s (4 * p + i))) - (szw (wdO s (4 * p + i)))) - 1))]) (C.wl _ _) dL_law_429 rfl rfl rfl rfl ?_
              refine v_goto (tgt := 195) (C.wl _ _) dL_law_432 (by decide) ?_
              refine v_lo (lo' := [some (.ref S.1), some (.ref (ad 30)), some (.ref (ad 600)), some (.int co), some (.int br), some (.int (nI time)), some (.int x6), v7, v8, some (.int (nI (nfO s))), some (.ref (ad (900 + nfO s))), some (.int fw), some (.int lt), some (.int (nI p)), some (.int (s 15 p)), some (.int (hgS s p (i + 1))), some (.int (flO s p (i + 1))), some (.int (mnS s p (i + 1))), some (.int (nI (i + 1))), some (.int (nI (szw (wdO s (4 * p + i))))), some (.int (nI f)), some (.int (nI ((tkO s (4 * p + i)) / 10 ^ (szw (wdO s (4 * p + i)))))), some (.int (nI (dfD (wdO s (4 * p + i)) (tkO s (4 * p + i)) (szw (wdO s (4 * p + i)))))), some (.int (nI ((szw (wdO s (4 * p + i))) - (szw (wdO s (4 * p + i)))) - 1))]) (by rw [nI_succ i]) ?_
              refine v_wide (k := c + 6 * (i + 1)) (n := s0 + 36 * (i + 1)) (by show c + 6 * i + 1 + 1 + 1 + 1 + 1 + 1 ≤ c + 6 * (i + 1); omega) (by show s0 + 36 * i + 6 + 6 + 6 + 6 + 6 + 6 ≤ s0 + 36 * (i + 1); omega) ?_
              exact ih (i + 1) m2 g399 _ _ _ _ _ (by omega) (by omega) hO3 hRl399
            · exact absurd (by rw [i_lt]; rw [i_le] at h402; omega) (show ¬ s 5 f < s 13 p by rw [hfe, iz_nI (show f < 2147483648 by omega)] at hL3; exact hL3)
      · have h15 : ¬ s 15 p = 1 := fun z => absurd (h227.symm.trans z) (by decide)
        obtain ⟨e1, e2, e3⟩ := set_0 (i := i) h15
        refine v_aload_n (C.wl _ _) dL_law_230 rfl rfl ?_
        refine v_iload (C.wl _ _) dL_law_231 rfl ?_
        refine v_iload (C.wl _ _) dL_law_233 rfl ?_
        refine v_iconst (v := 1) (C.wl _ _) dL_law_235 (by decide) ?_
        refine v_callX (n := 3) (k := 30) (as := [.int (nI p), .int (nI i), .int 1]) (C.wl _ _) hW9.S (x_about _ hP9 (Z.wl ad m1) (nI p) (nI i) 1 s g213 hE.1.1 hE.1.2.1 hRl213) (gv (tg2 78 rfl rfl) (tg2 79 rfl rfl) (tg2 80 rfl rfl) (tg1 1 rfl rfl) (tg2 81 rfl rfl)) (by decide +kernel) ⟨Nat.le_of_ble_eq_true rfl, Nat.le_of_ble_eq_true rfl⟩ rfl cx_T rfl rfl (Nat.le_of_ble_eq_true rfl) dL_law_236 ⟨(by show c + 6 * i + 1 + 1 + 1 ≤ 600130; omega), (by show s0 + 36 * i + 6 + 6 + 6 ≤ 7301080; omega)⟩ (fun E q g236 hp236 => absurd (cdA_0 hI hp hii (v := 1) (by decide)) hp236.1) (fun r236 g236 hp236 => ?_)
        obtain ⟨-, hr236, hRl236, hK236⟩ := hp236
        refine v_topi (y := -1) (hr236.trans (by rw [iz_nI (show p < 2147483648 by omega), iz_nI (show i < 2147483648 by omega)]; exact ((lto_n (v := 1) h227 (by decide)).symm))) ?_
        refine v_iconst (v := (-1)) (C.wl _ _) dL_law_239 (by decide) ?_
        refine v_icmp_ne (tgt := 269) (C.wl _ _) dL_law_240 (by decide) (fun h240 => ?_) (fun h240 => ?_)
        · exact absurd rfl h240
        · refine v_aload_n (C.wl _ _) dL_law_243 rfl rfl ?_
          refine v_iload (C.wl _ _) dL_law_244 rfl ?_
          refine v_iload (C.wl _ _) dL_law_246 rfl ?_
          refine v_iconst (v := 2) (C.wl _ _) dL_law_248 (by decide) ?_
          refine v_callX (n := 3) (k := 30) (as := [.int (nI p), .int (nI i), .int 2]) (C.wl _ _) hW9.S (x_about _ hP9 (Z.wl ad m1) (nI p) (nI i) 2 s g236 hE.1.1 hE.1.2.1 hRl236) (gv (tg2 78 rfl rfl) (tg2 79 rfl rfl) (tg2 80 rfl rfl) (tg1 1 rfl rfl) (tg2 81 rfl rfl)) (by decide +kernel) ⟨Nat.le_of_ble_eq_true rfl, Nat.le_of_ble_eq_true rfl⟩ rfl cx_T rfl rfl (Nat.le_of_ble_eq_true rfl) dL_law_249 ⟨(by show c + 6 * i + 1 + 1 + 1 + 1 ≤ 600130; omega), (by show s0 + 36 * i + 6 + 6 + 6 + 6 ≤ 7301080; omega)⟩ (fun E q g249 hp249 => absurd (cdA_0 hI hp hii (v := 2) (by decide)) hp249.1) (fun r249 g249 hp249 => ?_)
          obtain ⟨-, hr249, hRl249, hK249⟩ := hp249
          refine v_topi (y := -1) (hr249.trans (by rw [iz_nI (show p < 2147483648 by omega), iz_nI (show i < 2147483648 by omega)]; exact ((lto_n (v := 2) h227 (by decide)).symm))) ?_
          refine v_iconst (v := (-1)) (C.wl _ _) dL_law_252 (by decide) ?_
          refine v_icmp_ne (tgt := 269) (C.wl _ _) dL_law_253 (by decide) (fun h253 => ?_) (fun h253 => ?_)
          · exact absurd rfl h253
          · refine v_aload_n (C.wl _ _) dL_law_256 rfl rfl ?_
            refine v_iload (C.wl _ _) dL_law_257 rfl ?_
            refine v_iload (C.wl _ _) dL_law_259 rfl ?_
            refine v_iconst (v := 3) (C.wl _ _) dL_law_261 (by decide) ?_
            refine v_callX (n := 3) (k := 30) (as := [.int (nI p), .int (nI i), .int 3]) (C.wl _ _) hW9.S (x_about _ hP9 (Z.wl ad m1) (nI p) (nI i) 3 s g249 hE.1.1 hE.1.2.1 hRl249) (gv (tg2 78 rfl rfl) (tg2 79 rfl rfl) (tg2 80 rfl rfl) (tg1 1 rfl rfl) (tg2 81 rfl rfl)) (by decide +kernel) ⟨Nat.le_of_ble_eq_true rfl, Nat.le_of_ble_eq_true rfl⟩ rfl cx_T rfl rfl (Nat.le_of_ble_eq_true rfl) dL_law_262 ⟨(by show c + 6 * i + 1 + 1 + 1 + 1 + 1 ≤ 600130; omega), (by show s0 + 36 * i + 6 + 6 + 6 + 6 + 6 ≤ 7301080; omega)⟩ (fun E q g262 hp262 => absurd (cdA_0 hI hp hii (v := 3) (by decide)) hp262.1) (fun r262 g262 hp262 => ?_)
            obtain ⟨-, hr262, hRl262, hK262⟩ := hp262
            refine v_topi (y := -1) (hr262.trans (by rw [iz_nI (show p < 2147483648 by omega), iz_nI (show i < 2147483648 by omega)]; exact ((lto_n (v := 3) h227 (by decide)).symm))) ?_
            refine v_iconst (v := (-1)) (C.wl _ _) dL_law_265 (by decide) ?_
            refine v_icmp_eq (tgt := 429) (C.wl _ _) dL_law_266 (by decide) (fun h266 => ?_) (fun h266 => ?_)
            · refine v_iinc (lo' := [some (.ref S.1), some (.ref (ad 30)), some (.ref (ad 600)), some (.int co), some (.int br), some (.int (nI time)), some (.int x6), v7, v8, some (.int (nI (nfO s))), some (.ref (ad (900 + nfO s))), some (.int fw), some (.int lt), some (.int (nI p)), some (.int (s 15 p)), some (.int (hgS s p i)), some (.int (flO s p i)), some (.int (mnS s p (i + 1))), some (.int ((nI i) + 1)), some (.int (nI (szw (wdO s (4 * p + i))))), v20, v21, v22, v23]) (C.wl _ _) dL_law_429 rfl rfl rfl rfl ?_
              refine v_goto (tgt := 195) (C.wl _ _) dL_law_432 (by decide) ?_
              refine v_lo (lo' := [some (.ref S.1), some (.ref (ad 30)), some (.ref (ad 600)), some (.int co), some (.int br), some (.int (nI time)), some (.int x6), v7, v8, some (.int (nI (nfO s))), some (.ref (ad (900 + nfO s))), some (.int fw), some (.int lt), some (.int (nI p)), some (.int (s 15 p)), some (.int (hgS s p i)), some (.int (flO s p i)), some (.int (mnS s p (i + 1))), some (.int (nI (i + 1))), some (.int (nI (szw (wdO s (4 * p + i))))), v20, v21, v22, v23]) (by rw [nI_succ i]) ?_
              refine v_lo (lo' := [some (.ref S.1), some (.ref (ad 30)), some (.ref (ad 600)), some (.int co), some (.int br), some (.int (nI time)), some (.int x6), v7, v8, some (.int (nI (nfO s))), some (.ref (ad (900 + nfO s))), some (.int fw), some (.int lt), some (.int (nI p)), some (.int (s 15 p)), some (.int (hgS s p (i + 1))), some (.int (flO s p i)), some (.int (mnS s p (i + 1))), some (.int (nI (i + 1))), some (.int (nI (szw (wdO s (4 * p + i))))), v20, v21, v22, v23]) (by rw [e1]) ?_
              refine v_lo (lo' := [some (.ref S.1), some (.ref (ad 30)), some (.ref (ad 600)), some (.int co), some (.int br), some (.int (nI time)), some (.int x6), v7, v8, some (.int (nI (nfO s))), some (.ref (ad (900 + nfO s))), some (.int fw), some (.int lt), some (.int (nI p)), some (.int (s 15 p)), some (.int (hgS s p (i + 1))), some (.int (flO s p (i + 1))), some (.int (mnS s p (i + 1))), some (.int (nI (i + 1))), some (.int (nI (szw (wdO s (4 * p + i))))), v20, v21, v22, v23]) (by rw [e2]) ?_
              refine v_wide (k := c + 6 * (i + 1)) (n := s0 + 36 * (i + 1)) (by show c + 6 * i + 1 + 1 + 1 + 1 + 1 ≤ c + 6 * (i + 1); omega) (by show s0 + 36 * i + 6 + 6 + 6 + 6 + 6 ≤ s0 + 36 * (i + 1); omega) ?_
              exact ih (i + 1) m1 g262 _ _ _ _ _ (by omega) (by omega) (by rw [e3]; exact hO) hRl262
            · exact absurd rfl h266
