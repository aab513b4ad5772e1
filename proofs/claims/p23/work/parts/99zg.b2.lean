/-! THE LAW'S build: a poster's lines -/
/-- the poster that is being built, its object at 900 -/
def PoW (m m1 : MG) (ta tl : Int32) (z : Nat) : Prop := (∀ q, 600 ≤ q → q < 900 → m1 q = m q) ∧ (m1 900 100000 = 5 ∧ m1 900 0 = ta ∧ m1 900 1 = tl ∧ m1 900 2 = nI 905 ∧ m1 900 3 = 0 ∧ m1 900 4 = 0 ∧ m1 900 5 = nI 902 ∧ m1 900 6 = nI 903 ∧ m1 900 7 = nI 904) ∧ isA m1 902 0 ∧ isA m1 903 0 ∧ isQ m1 2 905 z
/-- the class' rows with the poster and so many lines more -/
def PoC (t t1 : MG) (p : Nat) (ta tl : Int32) (i : Nat) : Prop := (∀ k, k ≠ 0 → k ≠ 12 → k ≠ 13 → k ≠ 14 → k ≠ 17 → t1 k = t k) ∧ (∀ j, j ≠ 2 → t1 0 j = t 0 j) ∧ npO t1 = p + 1 ∧ (∀ q, q < p → t1 12 q = t 12 q ∧ t1 13 q = t 13 q ∧ t1 14 q = t 14 q) ∧ (∀ j, j < 4 * p → t1 17 j = t 17 j) ∧ t1 12 p = ta ∧ t1 13 p = tl ∧ nlO t1 p = i
def PoL (m1 t1 : MG) (p i : Nat) : Prop := ∀ q, q < i → m1 905 q = nI (906 + q) ∧ LtR m1 (906 + q) (szw (wdO t1 (4 * p + q))) (wdO t1 (4 * p + q))
theorem PoW.k {m m1 m2 : MG} {ta tl : Int32} {z : Nat} (h : PoW m m1 ta tl z) (hk : ∀ q, 600 ≤ q → q < 905 → m2 q = m1 q) (h5 : m2 905 100000 = m1 905 100000 ∧ m2 905 100001 = m1 905 100001) : PoW m m2 ta tl z := by
  obtain ⟨a, b, c, d, e⟩ := h
  refine ⟨fun q q1 q2 => (hk q q1 (by omega)).trans (a q q1 q2), by rw [hk 900 (by decide) (by decide)]; exact b, by unfold isA; rw [hk 902 (by decide) (by decide)]; exact c, by unfold isA; rw [hk 903 (by decide) (by decide)]; exact d, ?_⟩
  unfold isQ; rw [h5.1, h5.2]; exact e
theorem PoC_0 {t : MG} {ta tl : Int32} (h : cdPoster t ta tl = 0) (hy : IvY t) (h6 : npO t < 6) : PoC t (stPoster t ta tl) (npO t) ta tl 0 := by
  have e : stPoster t ta tl = wr (wr (wr t 12 (npO t) ta) 13 (npO t) tl) 0 2 (nI (npO t + 1)) := by unfold stPoster; rw [if_pos h]
  rw [e]
  refine ⟨fun k h0 h1 h2 h3 h4 => by rw [wr_row _ _ _ _ h0, wr_row _ _ _ _ h2, wr_row _ _ _ _ h1], fun j hj => by rw [wr_ne _ _ _ _ (Or.inr hj), wr_row _ _ _ _ (by decide), wr_row _ _ _ _ (by decide)], ?_, fun q hq => ⟨?_, ?_, ?_⟩, fun j hj => by rw [wr_row _ _ _ _ (by decide), wr_row _ _ _ _ (by decide), wr_row _ _ _ _ (by decide)], ?_, ?_, ?_⟩
  · show iz (wr (wr (wr t 12 (npO t) ta) 13 (npO t) tl) 0 2 (nI (npO t + 1)) 0 2) = _
    rw [wr_same]; exact iz_nI (by omega)
  · rw [wr_row _ _ _ _ (by decide), wr_row _ _ _ _ (by decide), wr_ne _ _ _ _ (Or.inr (by omega))]
  · rw [wr_row _ _ _ _ (by decide), wr_ne _ _ _ _ (Or.inr (by omega)), wr_row _ _ _ _ (by decide)]
  · rw [wr_row _ _ _ _ (by decide), wr_row _ _ _ _ (by decide), wr_row _ _ _ _ (by decide)]
  · rw [wr_row _ _ _ _ (by decide), wr_row _ _ _ _ (by decide), wr_same]
  · rw [wr_row _ _ _ _ (by decide), wr_same]
  · show iz (wr (wr (wr t 12 (npO t) ta) 13 (npO t) tl) 0 2 (nI (npO t + 1)) 14 (npO t)) = 0
    rw [wr_row _ _ _ _ (by decide), wr_row _ _ _ _ (by decide), wr_row _ _ _ _ (by decide), (hy (npO t) (Nat.le_refl _) h6).1]
    rfl
theorem PoC_s {t t1 : MG} {p i w : Nat} {ta tl : Int32} (h : PoC t t1 p ta tl i) (hp : p < 6) (hi : i < 4) (hw : w ≤ 99999999) (hcd : cdLine t1 (nI p) (nI w) = 0) : PoC t (stLine t1 (nI p) (nI w)) p ta tl (i + 1) ∧ wdO (stLine t1 (nI p) (nI w)) (4 * p + i) = w ∧ ∀ q, q < i → wdO (stLine t1 (nI p) (nI w)) (4 * p + q) = wdO t1 (4 * p + q) := by
  obtain ⟨a, b, c, d, e, f, g, k⟩ := h
  have e1 : stLine t1 (nI p) (nI w) = wr (wr t1 17 (4 * p + i) (nI w)) 14 p (nI (i + 1)) := by
    unfold stLine; rw [if_pos hcd, show iz (nI p) = p from iz_nI (by omega), k]
  rw [e1]
  refine ⟨⟨fun q h0 h1 h2 h3 h4 => by rw [wr_row _ _ _ _ h3, wr_row _ _ _ _ h4]; exact a q h0 h1 h2 h3 h4, fun j hj => by rw [wr_row _ _ _ _ (by decide), wr_row _ _ _ _ (by decide)]; exact b j hj, ?_, fun q hq => ⟨?_, ?_, ?_⟩, fun j hj => ?_, ?_, ?_, ?_⟩, ?_, fun q hq => ?_⟩
  · show iz (wr (wr t1 17 (4 * p + i) (nI w)) 14 p (nI (i + 1)) 0 2) = _
    rw [wr_row _ _ _ _ (by decide), wr_row _ _ _ _ (by decide)]; exact c
  · rw [wr_row _ _ _ _ (by decide), wr_row _ _ _ _ (by decide)]; exact (d q hq).1
  · rw [wr_row _ _ _ _ (by decide), wr_row _ _ _ _ (by decide)]; exact (d q hq).2.1
  · rw [wr_ne _ _ _ _ (Or.inr (by omega)), wr_row _ _ _ _ (by decide)]; exact (d q hq).2.2
  · rw [wr_row _ _ _ _ (by decide), wr_ne _ _ _ _ (Or.inr (by omega))]; exact e j hj
  · rw [wr_row _ _ _ _ (by decide), wr_row _ _ _ _ (by decide)]; exact f
  · rw [wr_row _ _ _ _ (by decide), wr_row _ _ _ _ (by decide)]; exact g
  · show iz (wr (wr t1 17 (4 * p + i) (nI w)) 14 p (nI (i + 1)) 14 p) = _
    rw [wr_same]; exact iz_nI (by omega)
  · show iz (wr (wr t1 17 (4 * p + i) (nI w)) 14 p (nI (i + 1)) 17 (4 * p + i)) = _
    rw [wr_row _ _ _ _ (by decide), wr_same]; exact iz_nI (by omega)
  · show iz (wr (wr t1 17 (4 * p + i) (nI w)) 14 p (nI (i + 1)) 17 (4 * p + q)) = iz (t1 17 (4 * p + q))
    rw [wr_row _ _ _ _ (by decide), wr_ne _ _ _ _ (Or.inr (by omega))]
set_option maxRecDepth 100000 in
theorem build_L {P : Pm} {Z : Zc} {S : Sc} {ad0 : Nat → Nat} (hP9 : P.2.1.stackTraces = false) (C : Cx P Z cL_build "PosterTypesLaw") (hW9 : CxW P Z) (hC : CxP P S Z.z) {n np p z M c s0 : Nat} {x6 ta tl : Int32} {m t : MG} (hp : p < 6) (hz : z ≤ 3) (hM : M + 4 ≤ 2048) (hc : c + 11 * z ≤ 600) (hs : s0 + 120 * z ≤ 6000) (h15 : t 15 p = 0)
    (K : ∀ (ad : Nat → Nat) (m1 t1 g : MG) (N : Nat) (v9 v10 v11 : Option Value), (∀ k, k < 36 → ad k = ad0 k) → ad 600 = ad0 600 → N ≤ M + z → LE N t1 → PoW m m1 ta tl z → PoC t t1 p ta tl z → PoL m1 t1 p z → Fr m1 (906 + z) → Rl t1 g → V P RB (Z.wl ad m1) [some (.ref (ad 30)), some (.ref S.1), some (.ref (ad 600)), some (.int (nI n)), some (.int (nI np)), some (.int (nI p)), some (.int x6), some (.ref (ad 900)), some (.int (nI z)), v9, v10, v11] 362 [] g (c + 11 * z) (s0 + 120 * z))
    : ∀ (q i : Nat) (ad : Nat → Nat) (m1 t1 g : MG) (N : Nat) (v9 v10 v11 : Option Value), z - i < q → i ≤ z → (∀ k, k < 36 → ad k = ad0 k) → ad 600 = ad0 600 → N ≤ M + i → LE N t1 → PoW m m1 ta tl z → PoC t t1 p ta tl i → PoL m1 t1 p i → Fr m1 (906 + i) → Rl t1 g → V P RB (Z.wl ad m1) [some (.ref (ad 30)), some (.ref S.1), some (.ref (ad 600)), some (.int (nI n)), some (.int (nI np)), some (.int (nI p)), some (.int x6), some (.ref (ad 900)), some (.int (nI i)), v9, v10, v11] 301 [] g (c + 11 * i) (s0 + 120 * i) := by
  intro q
  induction q with
  | zero => intro i ad m1 t1 g N v9 v10 v11 hq; exact absurd hq (Nat.not_lt_zero _)
  | succ q ih =>
    intro i ad m1 t1 g N v9 v10 v11 hq hi hA hA6 hN hE hW hPC hPL hF hRl
    refine v_iload (C.wl _ _) dL_build_301 rfl ?_
    refine v_aload (C.wl _ _) dL_build_303 rfl ?_
    refine l_get (k := 900) C inG4 (ci := 5) rfl 2 (by decide) (tg2 182 rfl rfl) rfl ⟨by decide, by decide⟩ (cW_5 hW.2.1.1) (ps_r (by decide) hW.2.1.2.2.2.1 ⟨by decide, by decide⟩) dL_build_305 ?_
    refine l_len (k := 905) (n := z) C ⟨by decide, by decide⟩ (Or.inr (Or.inl hW.2.2.2.2.1)) hW.2.2.2.2.2 (by omega) dL_build_308 ?_
    refine v_icmp_ge (tgt := 362) (C.wl _ _) dL_build_309 (by decide) (fun h309 => ?_) (fun h309 => ?_)
    · have hie : i = z := Nat.le_antisymm hi ((nI_leI (by omega) (by omega)).mp h309)
      subst hie
      exact K ad m1 t1 g N v9 v10 v11 hA hA6 hN hE hW hPC hPL hF hRl
    · have hiz : i < z := Nat.lt_of_not_le fun q => h309 ((nI_leI (by omega) (by omega)).mpr q)
      refine v_iload (C.wl _ _) dL_build_312 rfl ?_
      refine v_iload (C.wl _ _) dL_build_314 rfl ?_
      refine v_ishr (C.wl _ _) dL_build_316 ?_
      refine v_bipush (v := 97) (C.wl _ _) dL_build_317 (by decide) ?_
      refine v_iload (C.wl _ _) dL_build_319 rfl ?_
      refine v_imul (C.wl _ _) dL_build_321 ?_
      refine v_iadd (C.wl _ _) dL_build_322 ?_
      refine v_callSi (n := 1) (as := [.int ((x6 >>> ((nI i) &&& 31)) + (97 * (nI i)))]) (C.wl _ _) (l_word _ Z ad m1 ((x6 >>> ((nI i) &&& 31)) + (97 * (nI i))) g) (gs (tg3 162 rfl rfl) (tg3 163 rfl rfl) (tg1 0 rfl rfl) (tg3 164 rfl rfl)) (by decide +kernel) ⟨Nat.le_of_ble_eq_true rfl, Nat.le_of_ble_eq_true rfl⟩ rfl rfl (Nat.le_of_ble_eq_true rfl) dL_build_323 ⟨(by show c + 11 * i + 0 ≤ 600; omega), (by show s0 + 120 * i + 0 ≤ 6000; omega)⟩ (fun r323 gg323 hp323 => ?_)
      obtain ⟨⟨wd, hwd, hr323⟩, hgg323⟩ := hp323
      rw [hr323, hgg323]
      have hcd : cdLine t1 (nI p) (nI wd) = 0 := by
        rw [cdLi_v hE.1.1 (by rw [hPC.2.2.1]; omega) hwd, if_neg]
        intro h
        rcases h with h | h
        · rw [hPC.1 15 (by decide) (by decide) (by decide) (by decide) (by decide), h15] at h; exact absurd h (by decide)
        · rw [hPC.2.2.2.2.2.2.2] at h; omega
      refine v_istore (lo' := [some (.ref (ad 30)), some (.ref S.1), some (.ref (ad 600)), some (.int (nI n)), some (.int (nI np)), some (.int (nI p)), some (.int x6), some (.ref (ad 900)), some (.int (nI i)), some (.int (nI wd)), v10, v11]) (C.wl _ _) dL_build_326 (Nat.le_of_ble_eq_true rfl) rfl rfl ?_
      refine v_aload (C.wl _ _) dL_build_328 rfl ?_
      refine l_get (k := 900) C inG4 (ci := 5) rfl 2 (by decide) (tg2 182 rfl rfl) rfl ⟨by decide, by decide⟩ (cW_5 hW.2.1.1) (ps_r (by decide) hW.2.1.2.2.2.1 ⟨by decide, by decide⟩) dL_build_330 ?_
      refine v_iload (C.wl _ _) dL_build_333 rfl ?_
      refine v_iload (C.wl _ _) dL_build_335 rfl ?_
      refine l_callSq (n := 1) (as := [.int (nI wd)]) C hW9 (l_letters _ Z ad m1 g wd (906 + i) hwd hF (by omega)) (gs2 (tg3 165 rfl rfl) (tg3 166 rfl rfl) (tg1 6 rfl rfl) (tg3 167 rfl rfl)) (by decide +kernel) ⟨Nat.le_of_ble_eq_true rfl, Nat.le_of_ble_eq_true rfl⟩ rfl rfl (Nat.le_of_ble_eq_true rfl) dL_build_337 ⟨(by show c + 11 * i + 5 ≤ 600; omega), (by show s0 + 120 * i + 60 ≤ 6000; omega)⟩ (fun v337 ad337 mL g337 hp337 => ?_)
      obtain ⟨hv337, hA337, hmo, hLt, hF337, hg337⟩ := hp337
      rw [hv337, hg337]
      have hW2 : PoW m mL ta tl z := hW.k (fun q _ q2 => hmo q (by omega)) ⟨by rw [hmo 905 (by omega)], by rw [hmo 905 (by omega)]⟩
      have hW := hW2
      refine v_lo (lo' := [some (.ref (ad337 30)), some (.ref S.1), some (.ref (ad337 600)), some (.int (nI n)), some (.int (nI np)), some (.int (nI p)), some (.int x6), some (.ref (ad337 900)), some (.int (nI i)), some (.int (nI wd)), v10, v11]) (by rw [hA337 30 (by omega), hA337 600 (by omega), hA337 900 (by omega)]) ?_
      refine v_st (st' := [.ref (ad337 (906 + i)), .int (nI i), .ref (ad337 905)]) (by rw [hA337 905 (by omega)]; rfl) ?_
      refine l_aast (k := 905) (n := z) (a := i) (k2 := 906 + i) (n2 := szw wd) C hW9.L ⟨by decide, by decide⟩ hW.2.2.2.2.1 hW.2.2.2.2.2 ⟨hiz, by omega⟩ ⟨by omega, by omega⟩ hLt.1.1 hLt.1.2 (by have := @szw_le wd; omega) dL_build_340 ?_
      have hW3 : PoW m (wr mL 905 i (nI (906 + i))) ta tl z := hW.k (fun q _ q2 => wr_row _ _ _ _ (by omega)) ⟨wr_ne _ _ _ _ (Or.inr (by omega)), wr_ne _ _ _ _ (Or.inr (by omega))⟩
      have hF3 : Fr (wr mL 905 i (nI (906 + i))) (906 + i + 1) := hF337.wn (by omega) (by omega) (by omega)
      have hP2 := PoC_s hPC hp (by omega) hwd hcd
      have hP3 : PoL (wr mL 905 i (nI (906 + i))) (stLine t1 (nI p) (nI wd)) p (i + 1) := fun q hq => by
        by_cases hqi : q = i
        · subst hqi
          rw [hP2.2.1]
          exact ⟨wr_same _ _ _ _, LtR.c hLt (wr_row _ _ _ _ (by omega))⟩
        · rw [hP2.2.2 q (by omega)]
          obtain ⟨b1, b2⟩ := hPL q (by omega)
          exact ⟨by rw [wr_ne _ _ _ _ (Or.inr hqi), hmo 905 (by omega)]; exact b1, LtR.c b2 (by rw [wr_row _ _ _ _ (by omega), hmo _ (by omega)])⟩
      have hL2 := (LE_line hE (by omega) (nI p) (nI wd)).1
      generalize wr mL 905 i (nI (906 + i)) = mZ at hW3 hF3 hP3 ⊢
      refine v_aload_n (C.wl _ _) dL_build_341 rfl rfl ?_
      refine v_iload (C.wl _ _) dL_build_342 rfl ?_
      refine v_iload (C.wl _ _) dL_build_344 rfl ?_
      refine v_callM (n := 2) (k := 30) (as := [.int (nI p), .int (nI wd)]) (C.wl _ _) hW9.S (x_line _ hP9 (Z.wl ad337 mZ) (nI p) (nI wd) t1 g hE.1.1 hRl) (gv (tg4 174 rfl rfl) (tg4 175 rfl rfl) (tg4 176 rfl rfl) (tg1 1 rfl rfl) (tg4 177 rfl rfl)) (by decide +kernel) ⟨Nat.le_of_ble_eq_true rfl, Nat.le_of_ble_eq_true rfl⟩ rfl cx_T rfl rfl (Nat.le_of_ble_eq_true rfl) dL_build_346 ⟨(by show c + 11 * i + 5 + 6 ≤ 600; omega), (by show s0 + 120 * i + 60 + 60 ≤ 6000; omega)⟩ (fun E q g346 hp346 => absurd hcd hp346.1) (fun r346 ad346 g346 hp346 => ?_)
      obtain ⟨-, hr346, hRl346, -, hA346⟩ := hp346
      have hA346 : (∀ k, k < 36 → ad346 k = ad337 k) ∧ ∀ k, 600 ≤ k → ad346 k = ad337 k := hA346
      rw [hr346, ((congrArg (fun q => nI (nlO t1 q)) (iz_nI (show p < 2147483648 by omega))).trans (congrArg nI hPC.2.2.2.2.2.2.2))]
      show V P RB (Z.wl ad346 mZ) [some (.ref (ad337 30)), some (.ref S.1), some (.ref (ad337 600)), some (.int (nI n)), some (.int (nI np)), some (.int (nI p)), some (.int x6), some (.ref (ad337 900)), some (.int (nI i)), some (.int (nI wd)), v10, v11] 349 [.int (nI i)] g346 (c + 11 * i + 5 + 6) (s0 + 120 * i + 60 + 60)
      refine v_lo (lo' := [some (.ref (ad346 30)), some (.ref S.1), some (.ref (ad346 600)), some (.int (nI n)), some (.int (nI np)), some (.int (nI p)), some (.int x6), some (.ref (ad346 900)), some (.int (nI i)), some (.int (nI wd)), v10, v11]) (by rw [hA346.1 30 (by decide), hA346.2 600 (by omega), hA346.2 900 (by omega)]) ?_
      refine v_iload (C.wl _ _) dL_build_349 rfl ?_
      refine v_icmp_eq (tgt := 356) (C.wl _ _) dL_build_351 (by decide) (fun h351 => ?_) (fun h351 => ?_)
      · refine v_iinc (lo' := [some (.ref (ad346 30)), some (.ref S.1), some (.ref (ad346 600)), some (.int (nI n)), some (.int (nI np)), some (.int (nI p)), some (.int x6), some (.ref (ad346 900)), some (.int ((nI i) + 1)), some (.int (nI wd)), v10, v11]) (C.wl _ _) dL_build_356 rfl rfl rfl rfl ?_
        refine v_goto (tgt := 301) (C.wl _ _) dL_build_359 (by decide) ?_
        refine v_lo (lo' := [some (.ref (ad346 30)), some (.ref S.1), some (.ref (ad346 600)), some (.int (nI n)), some (.int (nI np)), some (.int (nI p)), some (.int x6), some (.ref (ad346 900)), some (.int (nI (i + 1))), some (.int (nI wd)), v10, v11]) (by rw [nI_succ i]) ?_
        refine v_wide (k := c + 11 * (i + 1)) (n := s0 + 120 * (i + 1)) (by show c + 11 * i + 5 + 6 ≤ c + 11 * (i + 1); omega) (by show s0 + 120 * i + 60 + 60 ≤ s0 + 120 * (i + 1); omega) ?_
        exact ih (i + 1) ad346 mZ _ g346 (N + 1) _ _ _ (by omega) (by omega) (fun k hk => (hA346.1 k hk).trans ((hA337 k (by omega)).trans (hA k hk))) ((hA346.2 600 (by decide)).trans ((hA337 600 (by omega)).trans hA6)) (by omega) hL2 hW3 hP2.1 hP3 hF3 hRl346
      · exact absurd rfl h351
