/-! THE LAW: a line's letters, as taken -/
/-- the law's own row of rows: what is out, fount by fount -/
def OutI (m m1 : MG) (nf : Nat) (v : Nat → Int32) : Prop := (∀ k, 600 ≤ k → k < 900 → m1 k = m k) ∧ (isQ m1 2 (900 + nf) nf ∧ ∀ f, f < nf → m1 (900 + nf) f = nI (900 + f)) ∧ ∀ f, f < nf → isA m1 (900 + f) 10 ∧ ∀ k, k < 10 → m1 (900 + f) k = v (10 * f + k)
theorem OutI.c {m m1 : MG} {nf : Nat} {v v' : Nat → Int32} (h : OutI m m1 nf v) (hv : ∀ x, x < 10 * nf → v x = v' x) : OutI m m1 nf v' := ⟨h.1, h.2.1, fun f hf => ⟨(h.2.2 f hf).1, fun k hk => ((h.2.2 f hf).2 k hk).trans (hv _ (by omega))⟩⟩
theorem OutI.w {m m1 : MG} {nf f d : Nat} {v : Nat → Int32} {y : Int32} (h : OutI m m1 nf v) (hf : f < nf) (hd : d < 10) : OutI m (wr m1 (900 + f) d y) nf (upd v (10 * f + d) y) := by
  refine ⟨fun k k1 k2 => (wr_row _ _ _ _ (by omega)).trans (h.1 k k1 k2), ⟨?_, fun f2 hf2 => ?_⟩, fun f2 hf2 => ⟨?_, fun k hk => ?_⟩⟩
  · unfold isQ; rw [wr_row _ _ _ _ (by omega)]; exact h.2.1.1
  · rw [wr_row _ _ _ _ (by omega)]; exact h.2.1.2 f2 hf2
  · unfold isA; rw [wr_ne _ _ _ _ (Or.inr (by omega)), wr_ne _ _ _ _ (Or.inr (by omega))]; exact (h.2.2 f2 hf2).1
  · unfold upd
    by_cases hff : f2 = f
    · subst hff
      by_cases hkd : k = d
      · rw [if_pos (by omega), hkd, wr_same]
      · rw [if_neg (by omega), wr_ne _ _ _ _ (Or.inr hkd)]; exact (h.2.2 f2 hf2).2 k hk
    · rw [if_neg (by omega), wr_row _ _ _ _ (by omega)]; exact (h.2.2 f2 hf2).2 k hk
/-- so many letters of a line, counted -/
def vD (base : Nat → Int32) (f t j : Nat) : Nat → Int32 := fun x => base x + (if x / 10 = f then nI (cntD t (x % 10) j) else 0)
theorem vD_w {m m1 : MG} {nf f t j d : Nat} {base : Nat → Int32} (h : OutI m m1 nf (vD base f t j)) (hf : f < nf) (hd : d = t / 10 ^ j % 10) : OutI m (wr m1 (900 + f) d (vD base f t j (10 * f + d) + 1)) nf (vD base f t (j + 1)) := by
  have hd10 : d < 10 := by omega
  refine (h.w hf hd10).c (fun x hx => ?_)
  unfold upd vD
  by_cases hxd : x = 10 * f + d
  · rw [if_pos hxd, hxd, show (10 * f + d) / 10 = f by omega, show (10 * f + d) % 10 = d by omega, if_pos rfl, if_pos rfl, cntD, if_pos hd.symm, ← nI_add]
    exact Int32.add_assoc _ _ _
  · rw [if_neg hxd]
    by_cases hxf : x / 10 = f
    · rw [if_pos hxf, if_pos hxf, cntD, if_neg (by omega), Nat.add_zero]
    · rw [if_neg hxf, if_neg hxf]
theorem m1_lt {n : Nat} (hn : n < 100) (h : nI n - 1 < 0) : n = 0 := by
  cases n with
  | zero => rfl
  | succ n => rw [show (1 : Int32) = nI 1 from rfl, nI_sub (by omega)] at h; exact absurd h (nI_0le (by omega))
theorem m1_step {a j : Nat} (h : j < a) : nI (a - j) - 1 + (-1) = nI (a - (j + 1)) - 1 := by
  rw [show a - j = (a - (j + 1)) + 1 by omega, nI_succ (a - (j + 1))]
  grind
theorem m1_ge {n : Nat} (h : ¬ nI n - 1 < 0) : 0 < n := by
  cases n with
  | zero => exact absurd (by decide) h
  | succ n => exact Nat.succ_pos n
set_option maxRecDepth 100000 in
theorem law_dig {P : Pm} {Z : Zc} {S : Sc} {ad : Nat → Nat} {s m : MG} {N : Nat} {co br x6 : Int32} {time : Nat} {v7 v8 : Option Value} (hP9 : P.2.1.stackTraces = false) (C : Cx P Z cL_law "PosterTypesLaw") (hW9 : CxW P Z) (hE : LE N s) (hR0 : SimR s m) {p i f c s0 : Nat} {fw lt hi wg mm : Int32} {base : Nat → Int32} (hp : p < npO s) (hi9 : i < nlO s p) (hf : f < nfO s) (g : MG)
    (K : ∀ m1 : MG, OutI m m1 (nfO s) (vD base f (tkO s (4 * p + i)) (szw (wdO s (4 * p + i)))) → V P room_1 (Z.wl ad m1) [some (.ref S.1), some (.ref (ad 30)), some (.ref (ad 600)), some (.int co), some (.int br), some (.int (nI time)), some (.int x6), v7, v8, some (.int (nI (nfO s))), some (.ref (ad (900 + nfO s))), some (.int fw), some (.int lt), some (.int (nI p)), some (.int (s 15 p)), some (.int hi), some (.int wg), some (.int mm), some (.int (nI i)), some (.int (nI (szw (wdO s (4 * p + i))))), some (.int (nI f)), some (.int (nI ((tkO s (4 * p + i)) / 10 ^ (szw (wdO s (4 * p + i)))))), some (.int (nI (dfD (wdO s (4 * p + i)) (tkO s (4 * p + i)) (szw (wdO s (4 * p + i)))))), some (.int (nI ((szw (wdO s (4 * p + i))) - (szw (wdO s (4 * p + i)))) - 1))] 369 [] g (c) (s0))
    : ∀ (q j : Nat) (m1 : MG), (szw (wdO s (4 * p + i))) - j < q → j ≤ (szw (wdO s (4 * p + i))) → OutI m m1 (nfO s) (vD base f (tkO s (4 * p + i)) j) → V P room_1 (Z.wl ad m1) [some (.ref S.1), some (.ref (ad 30)), some (.ref (ad 600)), some (.int co), some (.int br), some (.int (nI time)), some (.int x6), v7, v8, some (.int (nI (nfO s))), some (.ref (ad (900 + nfO s))), some (.int fw), some (.int lt), some (.int (nI p)), some (.int (s 15 p)), some (.int hi), some (.int wg), some (.int mm), some (.int (nI i)), some (.int (nI (szw (wdO s (4 * p + i))))), some (.int (nI f)), some (.int (nI ((tkO s (4 * p + i)) / 10 ^ j))), some (.int (nI (dfD (wdO s (4 * p + i)) (tkO s (4 * p + i)) j))), some (.int (nI ((szw (wdO s (4 * p + i))) - j) - 1))] 302 [] g (c) (s0) := by
  have hI := hE.1.1
  have hf5 := (IvM_nf hI).1
  have hp6 := (IvM_np hI).1
  have h4 := (IvM_nl hI (show p < 6 by omega)).2
  have hs8 : (szw (wdO s (4 * p + i))) ≤ 8 := wd_8 hI (by omega)
  intro q
  induction q with
  | zero => intro j m1 hq; exact absurd hq (Nat.not_lt_zero _)
  | succ q ih =>
    intro j m1 hq hj hO
    have hR := hR0.low hI (fun k k1 k2 => hO.1 k k1 k2)
    obtain ⟨hPF, hPL, hPX⟩ := hR.L hp
    have htl : (tkO s (4 * p + i)) < 2 ^ 31 := by unfold tkO iz; have := Int32.toInt_lt (s 20 (4 * p + i)); show (s 20 (4 * p + i)).toInt.toNat < 2 ^ 31; omega
    have htj : (tkO s (4 * p + i)) / 10 ^ j < 2 ^ 31 := Nat.lt_of_le_of_lt (Nat.div_le_self _ _) htl
    refine v_iload (C.wl _ _) dL_law_302 rfl ?_
    refine v_if_lt (tgt := 369) (C.wl _ _) dL_law_304 (by decide) (fun h304 => ?_) (fun h304 => ?_)
    · have hz := m1_lt (by omega) h304
      have hie : j = (szw (wdO s (4 * p + i))) := by omega
      subst hie
      exact K m1 hO
    · have hz := m1_ge h304
      obtain ⟨dd, hdd⟩ : ∃ d, d = (tkO s (4 * p + i)) / 10 ^ j % 10 := ⟨_, rfl⟩
      have hd10 : dd < 10 := by omega
      obtain ⟨kk, hkk⟩ : ∃ k, k = (szw (wdO s (4 * p + i))) - j - 1 := ⟨_, rfl⟩
      have hks : kk < (szw (wdO s (4 * p + i))) := by omega
      refine v_aload (C.wl _ _) dL_law_307 rfl ?_
      refine v_iload (C.wl _ _) dL_law_309 rfl ?_
      refine l_aald (k := 900 + nfO s) (n := nfO s) (a := f) (k2 := 900 + f) C ⟨by omega, by omega⟩ (Or.inl hO.2.1.1.1) hO.2.1.1.2 ⟨hf, by omega⟩ (hO.2.1.2 _ hf) ⟨by omega, by omega⟩ dL_law_311 ?_
      refine v_iload (C.wl _ _) dL_law_312 rfl ?_
      refine v_bipush (v := 10) (C.wl _ _) dL_law_314 (by decide) ?_
      refine v_irem (C.wl _ _) dL_law_316 (by decide) ?_
      refine v_topi (y := nI dd) ((nI_mod10 htj).trans (congrArg nI hdd.symm)) ?_
      refine v_dup2 (C.wl _ _) dL_law_317 rfl rfl ?_
      refine l_iald (k := 900 + f) (n := 10) (a := dd) C ⟨by omega, by omega⟩ (hO.2.2 _ hf).1.1 (hO.2.2 _ hf).1.2 ⟨hd10, by decide⟩ dL_law_318 ?_
      refine v_topi (y := vD base f (tkO s (4 * p + i)) j (10 * f + dd)) ((hO.2.2 f hf).2 dd hd10) ?_
      refine v_iconst (v := 1) (C.wl _ _) dL_law_319 (by decide) ?_
      refine v_iadd (C.wl _ _) dL_law_320 ?_
      refine l_iast (k := 900 + f) (n := 10) (a := dd) C ⟨by omega, by omega⟩ (hO.2.2 _ hf).1.1 (hO.2.2 _ hf).1.2 ⟨hd10, by decide⟩ dL_law_321 ?_
      refine v_iload (C.wl _ _) dL_law_322 rfl ?_
      refine v_iload (C.wl _ _) dL_law_324 rfl ?_
      refine v_bipush (v := 10) (C.wl _ _) dL_law_326 (by decide) ?_
      refine v_irem (C.wl _ _) dL_law_328 (by decide) ?_
      refine v_topi (y := nI dd) ((nI_mod10 htj).trans (congrArg nI hdd.symm)) ?_
      refine v_aload_n (C.wl _ _) dL_law_329 rfl rfl ?_
      refine l_get (k := 600) C inG5 (ci := 6) rfl 6 (by decide) (tg5 14 rfl rfl) rfl ⟨by decide, by decide⟩ (cW_6 ((wr_ne _ _ _ _ (by omega)).trans hR.1.1)) (sm_r (by decide) ((wr_ne _ _ _ _ (by omega)).trans hR.1.2.2.2.2.2.2.2) ⟨by decide, by decide⟩) dL_law_330 ?_
      refine v_iload (C.wl _ _) dL_law_333 rfl ?_
      refine l_aald (k := 605) (n := npO s) (a := p) (k2 := 700 + 20 * p) C ⟨by decide, by decide⟩ (Or.inr (Or.inr ((wr_ne _ _ _ _ (by omega)).trans hR.2.2.2.2.2.1.1.1))) ((wr_ne _ _ _ _ (by omega)).trans hR.2.2.2.2.2.1.1.2) ⟨hp, by omega⟩ ((wr_ne _ _ _ _ (by omega)).trans (hR.2.2.2.2.2.1.2 _ hp)) ⟨by omega, by omega⟩ dL_law_335 ?_
      refine l_get (k := 700 + 20 * p) C inG4 (ci := 5) rfl 2 (by decide) (tg2 182 rfl rfl) rfl ⟨by omega, by omega⟩ (cW_5 ((wr_ne _ _ _ _ (by omega)).trans hPF.1)) (ps_r (by decide) ((wr_ne _ _ _ _ (by omega)).trans hPF.2.2.2.1) ⟨by omega, by omega⟩) dL_law_336 ?_
      refine v_iload (C.wl _ _) dL_law_339 rfl ?_
      refine l_aald (k := 701 + 20 * p) (n := nlO s p) (a := i) (k2 := 705 + 20 * p + i) C ⟨by omega, by omega⟩ (Or.inl ((wr_ne _ _ _ _ (by omega)).trans hPL.1.1)) ((wr_ne _ _ _ _ (by omega)).trans hPL.1.2) ⟨hi9, by omega⟩ ((wr_ne _ _ _ _ (by omega)).trans (hPL.2 _ hi9).1) ⟨by omega, by omega⟩ dL_law_341 ?_
      refine v_iload (C.wl _ _) dL_law_342 rfl ?_
      refine v_topi (y := nI kk) (by rw [show (1 : Int32) = nI 1 from rfl, nI_sub (by omega)]; exact congrArg nI hkk.symm) ?_
      refine l_iald (k := 705 + 20 * p + i) (n := szw (wdO s (4 * p + i))) (a := kk) C ⟨by omega, by omega⟩ ((wr_ne _ _ _ _ (by omega)).trans (hPL.2 _ hi9).2.1.1) ((wr_ne _ _ _ _ (by omega)).trans (hPL.2 _ hi9).2.1.2) ⟨hks, by omega⟩ dL_law_344 ?_
      refine v_topi (y := nI ((wdO s (4 * p + i)) / 10 ^ j % 10)) ((congrFun (wr_row _ _ _ _ (by omega)) _).trans (((hPL.2 _ hi9).2.2 kk hks).trans (congrArg (fun q => nI ((wdO s (4 * p + i)) / 10 ^ q % 10)) (show (szw (wdO s (4 * p + i))) - 1 - kk = j by omega)))) ?_
      have J345 : V P room_1 (Z.wl ad (wr m1 (900 + f) dd ((vD base f (tkO s (4 * p + i)) j (10 * f + dd)) + 1))) [some (.ref S.1), some (.ref (ad 30)), some (.ref (ad 600)), some (.int co), some (.int br), some (.int (nI time)), some (.int x6), v7, v8, some (.int (nI (nfO s))), some (.ref (ad (900 + nfO s))), some (.int fw), some (.int lt), some (.int (nI p)), some (.int (s 15 p)), some (.int hi), some (.int wg), some (.int mm), some (.int (nI i)), some (.int (nI (szw (wdO s (4 * p + i))))), some (.int (nI f)), some (.int (nI ((tkO s (4 * p + i)) / 10 ^ j))), some (.int (nI (dfD (wdO s (4 * p + i)) (tkO s (4 * p + i)) j))), some (.int (nI ((szw (wdO s (4 * p + i))) - j) - 1))] 353 [.int (nI (if (wdO s (4 * p + i)) / 10 ^ j % 10 = (tkO s (4 * p + i)) / 10 ^ j % 10 then 0 else 1)), .int (nI (dfD (wdO s (4 * p + i)) (tkO s (4 * p + i)) j))] g (c) (s0) := by
        refine v_iadd (C.wl _ _) dL_law_353 ?_
        refine v_topi (y := nI (dfD (wdO s (4 * p + i)) (tkO s (4 * p + i)) (j + 1))) (nI_add _ _) ?_
        refine v_istore (lo' := [some (.ref S.1), some (.ref (ad 30)), some (.ref (ad 600)), some (.int co), some (.int br), some (.int (nI time)), some (.int x6), v7, v8, some (.int (nI (nfO s))), some (.ref (ad (900 + nfO s))), some (.int fw), some (.int lt), some (.int (nI p)), some (.int (s 15 p)), some (.int hi), some (.int wg), some (.int mm), some (.int (nI i)), some (.int (nI (szw (wdO s (4 * p + i))))), some (.int (nI f)), some (.int (nI ((tkO s (4 * p + i)) / 10 ^ j))), some (.int (nI (dfD (wdO s (4 * p + i)) (tkO s (4 * p + i)) (j + 1)))), some (.int (nI ((szw (wdO s (4 * p + i))) - j) - 1))]) (C.wl _ _) dL_law_354 (Nat.le_of_ble_eq_true rfl) rfl rfl ?_
        refine v_iload (C.wl _ _) dL_law_356 rfl ?_
        refine v_bipush (v := 10) (C.wl _ _) dL_law_358 (by decide) ?_
        refine v_idiv (C.wl _ _) dL_law_360 (by decide) ?_
        refine v_topi (y := nI ((tkO s (4 * p + i)) / 10 ^ (j + 1))) (by rw [show (10 : Int32) = nI 10 from rfl, nI_div htj (by decide), Nat.div_div_eq_div_mul, ← Nat.pow_succ]) ?_
        refine v_istore (lo' := [some (.ref S.1), some (.ref (ad 30)), some (.ref (ad 600)), some (.int co), some (.int br), some (.int (nI time)), some (.int x6), v7, v8, some (.int (nI (nfO s))), some (.ref (ad (900 + nfO s))), some (.int fw), some (.int lt), some (.int (nI p)), some (.int (s 15 p)), some (.int hi), some (.int wg), some (.int mm), some (.int (nI i)), some (.int (nI (szw (wdO s (4 * p + i))))), some (.int (nI f)), some (.int (nI ((tkO s (4 * p + i)) / 10 ^ (j + 1)))), some (.int (nI (dfD (wdO s (4 * p + i)) (tkO s (4 * p + i)) (j + 1)))), some (.int (nI ((szw (wdO s (4 * p + i))) - j) - 1))]) (C.wl _ _) dL_law_361 (Nat.le_of_ble_eq_true rfl) rfl rfl ?_
        refine v_iinc (lo' := [some (.ref S.1), some (.ref (ad 30)), some (.ref (ad 600)), some (.int co), some (.int br), some (.int (nI time)), some (.int x6), v7, v8, some (.int (nI (nfO s))), some (.ref (ad (900 + nfO s))), some (.int fw), some (.int lt), some (.int (nI p)), some (.int (s 15 p)), some (.int hi), some (.int wg), some (.int mm), some (.int (nI i)), some (.int (nI (szw (wdO s (4 * p + i))))), some (.int (nI f)), some (.int (nI ((tkO s (4 * p + i)) / 10 ^ (j + 1)))), some (.int (nI (dfD (wdO s (4 * p + i)) (tkO s (4 * p + i)) (j + 1)))), some (.int ((nI ((szw (wdO s (4 * p + i))) - j) - 1) + (-1)))]) (C.wl _ _) dL_law_363 rfl rfl rfl rfl ?_
        refine v_goto (tgt := 302) (C.wl _ _) dL_law_366 (by decide) ?_
        refine v_lo (lo' := [some (.ref S.1), some (.ref (ad 30)), some (.ref (ad 600)), some (.int co), some (.int br), some (.int (nI time)), some (.int x6), v7, v8, some (.int (nI (nfO s))), some (.ref (ad (900 + nfO s))), some (.int fw), some (.int lt), some (.int (nI p)), some (.int (s 15 p)), some (.int hi), some (.int wg), some (.int mm), some (.int (nI i)), some (.int (nI (szw (wdO s (4 * p + i))))), some (.int (nI f)), some (.int (nI ((tkO s (4 * p + i)) / 10 ^ (j + 1)))), some (.int (nI (dfD (wdO s (4 * p + i)) (tkO s (4 * p + i)) (j + 1)))), some (.int (nI ((szw (wdO s (4 * p + i))) - (j + 1)) - 1))]) (by rw [m1_step (show j < (szw (wdO s (4 * p + i))) by omega)]) ?_
        exact ih (j + 1) _ (by omega) (by omega) (vD_w hO hf hdd)
      refine v_icmp_ne (tgt := 352) (C.wl _ _) dL_law_345 (by decide) (fun h345 => ?_) (fun h345 => ?_)
      · exact v_iconst (v := nI 1) (C.wl _ _) dL_law_352 rfl (v_topi (congrArg nI (if_neg (fun z => h345 (congrArg nI (hdd.trans z.symm)))).symm) J345)
      · refine v_iconst (v := nI 0) (C.wl _ _) dL_law_348 rfl ?_
        exact v_goto (tgt := 353) (C.wl _ _) dL_law_349 (by decide) (v_topi (congrArg nI (if_pos (((nI_eq (by omega) (by omega)).mp h345).symm.trans hdd)).symm) J345)
