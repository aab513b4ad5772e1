/-! THE LAW'S build: posters -/
set_option maxRecDepth 100000 in
theorem build_P {P : Pm} {Z : Zc} {S : Sc} {ad0 : Nat → Nat} (hP9 : P.2.1.stackTraces = false) (C : Cx P Z cL_build "PosterTypesLaw") (hW9 : CxW P Z) (hC : CxP P S Z.z) {n np : Nat} (hn : np ≤ 4)
    (K : ∀ (ad : Nat → Nat) (m t g : MG) (N : Nat) (v6 v7 v8 v9 v10 v11 : Option Value), (∀ k, k < 36 → ad k = ad0 k) → N ≤ 8 + 4 * np → LE N t → SimR t m → Fr m 900 → Rl t g → 1 ≤ nfO t → npO t = np → (∀ k, k < 10 → t 9 k = -1) → V P RB (Z.wl ad m) [some (.ref (ad 30)), some (.ref S.1), some (.ref (ad 600)), some (.int (nI n)), some (.int (nI np)), some (.int (nI np)), v6, v7, v8, v9, v10, v11] 381 [] g (110 + 50 * np) (1000 + 700 * np))
    : ∀ (q p : Nat) (ad : Nat → Nat) (m t g : MG) (N : Nat) (v6 v7 v8 v9 v10 v11 : Option Value), np - p < q → p ≤ np → (∀ k, k < 36 → ad k = ad0 k) → N ≤ 8 + 4 * p → LE N t → SimR t m → Fr m 900 → Rl t g → 1 ≤ nfO t → npO t = p → (∀ k, k < 10 → t 9 k = -1) → V P RB (Z.wl ad m) [some (.ref (ad 30)), some (.ref S.1), some (.ref (ad 600)), some (.int (nI n)), some (.int (nI np)), some (.int (nI p)), v6, v7, v8, v9, v10, v11] 204 [] g (110 + 50 * p) (1000 + 700 * p) := by
  intro q
  induction q with
  | zero => intro p ad m t g N v6 v7 v8 v9 v10 v11 hq; exact absurd hq (Nat.not_lt_zero _)
  | succ q ih =>
    intro p ad m t g N v6 v7 v8 v9 v10 v11 hq hi hA hN hE hR hF hRl hnf hpt h9t
    refine v_iload (C.wl _ _) dL_build_204 rfl ?_
    refine v_iload (C.wl _ _) dL_build_206 rfl ?_
    refine v_icmp_ge (tgt := 381) (C.wl _ _) dL_build_208 (by decide) (fun h208 => ?_) (fun h208 => ?_)
    · have hie : p = np := Nat.le_antisymm hi ((nI_leI (by omega) (by omega)).mp h208)
      subst hie
      exact K ad m t g N v6 v7 v8 v9 v10 v11 hA hN hE hR hF hRl hnf hpt h9t
    · have hpn : p < np := Nat.lt_of_not_le fun q => h208 ((nI_leI (by omega) (by omega)).mpr q)
      refine v_aload_n (C.wl _ _) dL_build_211 rfl rfl ?_
      refine v_iconst (v := 2) (C.wl _ _) dL_build_212 (by decide) ?_
      refine v_iload (C.wl _ _) dL_build_213 rfl ?_
      refine v_iadd (C.wl _ _) dL_build_215 ?_
      refine v_topi (y := nI (2 + p)) (by rw [show (2 : Int32) = nI 2 from rfl, nI_add]) ?_
      refine s_call (n := 2) (S := S) (as := [.ref S.1, .int (nI (2 + p))]) (C.wl _ _) hC (l_cell _ (Z.wl ad m) S (2 + p) (by omega) g) (gs (tg3 21 rfl rfl) (tg3 22 rfl rfl) (tg1 0 rfl rfl) (tg3 23 rfl rfl)) (by decide +kernel) ⟨Nat.le_of_ble_eq_true rfl, Nat.le_of_ble_eq_true rfl⟩ rfl rfl (Nat.le_of_ble_eq_true rfl) dL_build_216 ⟨(by show 110 + 50 * p + 0 ≤ 600; omega), (by show 1000 + 700 * p + 0 ≤ 6000; omega)⟩ (fun r216 gg216 hp216 => ?_)
      rw [show gg216 = g from hp216]
      refine v_iconst (v := 1) (C.wl _ _) dL_build_219 (by decide) ?_
      refine v_ishr (C.wl _ _) dL_build_220 ?_
      refine v_istore (lo' := [some (.ref (ad 30)), some (.ref S.1), some (.ref (ad 600)), some (.int (nI n)), some (.int (nI np)), some (.int (nI p)), some (.int (r216 >>> (1 &&& 31))), v7, v8, v9, v10, v11]) (C.wl _ _) dL_build_221 (Nat.le_of_ble_eq_true rfl) rfl rfl ?_
      refine l_newo (T := 900) (ci := 5) (kd := 5) (fs := [.int 0, .int 0, .null, .int 0, .int 0, .null, .null, .null]) C hF (by omega) inG4 tyX4 tyX4_ok (tg3 29 rfl rfl) (tg2 168 rfl rfl) (tg1 19 rfl rfl) rfl (fun _ => rfl) (by decide) (by show 110 + 50 * p + 1 ≤ 600; omega) (by show 1000 + 700 * p + 8 ≤ 6000; omega) dL_build_223 (fun ad223 hA223 => ?_)
      have hF223 := hF.new (by omega) (rN_R (kd := 5) (n := 0) (by omega) (by decide) (by omega))
      refine v_lo (lo' := [some (.ref (ad223 30)), some (.ref S.1), some (.ref (ad223 600)), some (.int (nI n)), some (.int (nI np)), some (.int (nI p)), some (.int (r216 >>> (1 &&& 31))), v7, v8, v9, v10, v11]) (by rw [hA223 30 (by omega), hA223 600 (by omega)]) ?_
      refine v_dup (C.wl _ _) dL_build_226 rfl ?_
      refine l_callIN (n := 0) (as := []) (host := "PosterTypesLaw") C hW9 (l_pinit _ Z ad223 (rwr m 900 (rN 5 0)) g 901 hF223 900 (by decide) (by decide) (by rw [rwr_same]; rfl)) (List.mem_of_getElem? (i := 0) rfl) (tg2 170 rfl rfl) (tg1 19 rfl rfl) (tg2 171 rfl rfl) rfl (by decide +kernel) ⟨Nat.le_of_ble_eq_true rfl, Nat.le_of_ble_eq_true rfl⟩ rfl rfl (Nat.le_of_ble_eq_true rfl) dL_build_227 ⟨(by show 110 + 50 * p + 1 + 4 ≤ 600; omega), (by show 1000 + 700 * p + 8 + 10 ≤ 6000; omega)⟩ (fun ad227 mP g227 hp227 => ?_)
      obtain ⟨hA227, hmP, hF227, hg227⟩ := hp227
      rw [hg227]
      have hmo : ∀ q, q < 900 → mP q = m q := fun q hq => by rw [hmP]; unfold pinM; rw [if_neg (by omega), if_neg (by omega), if_neg (by omega), if_neg (by omega), if_neg (by omega), rwr_ne _ _ _ (by omega)]
      have h9 : mP 900 = fun j => if j = 2 then nI 901 else if j = 5 then nI 902 else if j = 6 then nI 903 else if j = 7 then nI 904 else rN 5 0 j := by rw [hmP]; unfold pinM; rw [if_neg (by decide), if_neg (by decide), if_neg (by decide), if_neg (by decide), if_pos rfl, rwr_same]
      have h92 : mP 902 = rN 1 0 := by rw [hmP]; unfold pinM; rw [if_neg (by decide), if_pos rfl]
      have h93 : mP 903 = rN 1 0 := by rw [hmP]; unfold pinM; rw [if_neg (by decide), if_neg (by decide), if_pos rfl]
      have hAq : ∀ q, q < 900 → ad227 q = ad q := fun q hq => by rw [hA227 q (by omega), hA223 q (by omega)]
      have hF9 : Fr mP 905 := hF227
      have k5 : mP 900 100000 = 5 := (congrFun h9 100000).trans rfl
      refine v_lo (lo' := [some (.ref (ad227 30)), some (.ref S.1), some (.ref (ad227 600)), some (.int (nI n)), some (.int (nI np)), some (.int (nI p)), some (.int (r216 >>> (1 &&& 31))), v7, v8, v9, v10, v11]) (by rw [hAq 30 (by decide), hAq 600 (by decide), hA223 30 (by decide), hA223 600 (by decide)]) ?_
      refine v_st (st' := [.ref (ad227 900)]) (by rw [hA227 900 (by decide)]) ?_
      refine v_astore (lo' := [some (.ref (ad227 30)), some (.ref S.1), some (.ref (ad227 600)), some (.int (nI n)), some (.int (nI np)), some (.int (nI p)), some (.int (r216 >>> (1 &&& 31))), some (.ref (ad227 900)), v8, v9, v10, v11]) (C.wl _ _) dL_build_230 (Nat.le_of_ble_eq_true rfl) rfl rfl ?_
      refine v_aload (C.wl _ _) dL_build_232 rfl ?_
      refine v_iload (C.wl _ _) dL_build_234 rfl ?_
      refine v_iconst (v := 4) (C.wl _ _) dL_build_236 (by decide) ?_
      refine v_callSi (n := 2) (as := [.int (r216 >>> (1 &&& 31)), .int (nI 4)]) (C.wl _ _) (l_below _ Z ad227 mP (r216 >>> (1 &&& 31)) 4 ⟨by omega, by omega⟩ g) (gs (tg3 17 rfl rfl) (tg3 18 rfl rfl) (tg1 0 rfl rfl) (tg3 19 rfl rfl)) (by decide +kernel) ⟨Nat.le_of_ble_eq_true rfl, Nat.le_of_ble_eq_true rfl⟩ rfl rfl (Nat.le_of_ble_eq_true rfl) dL_build_237 ⟨(by show 110 + 50 * p + 1 + 4 + 0 ≤ 600; omega), (by show 1000 + 700 * p + 8 + 10 + 0 ≤ 6000; omega)⟩ (fun r237 gg237 hp237 => ?_)
      obtain ⟨hr237, hgg237⟩ := hp237
      rw [hr237, hgg237]
      have bta : bwN (r216 >>> (1 &&& 31)) 4 < 4 := bwN_lt _ (by omega)
      generalize bwN (r216 >>> (1 &&& 31)) 4 = ta at bta ⊢
      refine l_put (k := 900) (x := nI ta) C inG4 (ci := 5) rfl tyX4 tyX4_ok nmX4 0 (by decide) (tg2 176 rfl rfl) rfl rfl rfl rfl rfl ⟨by decide, by decide⟩ (cW_5 k5) (Nat.le_of_ble_eq_true rfl) ((cW_5 (show upd (mP 900) 0 (nI ta) 100000 = 5 from (if_neg (by decide : ¬ (100000 : Nat) = 0)).trans k5)).trans rfl) dL_build_240 ?_
      have hF240w := hF9.put (k := 900) (j := 0) (x := nI ta) (by omega) (by omega) (fun z => by rw [k5] at z; exact absurd z (by decide))
      refine v_aload (C.wl _ _) dL_build_243 rfl ?_
      refine v_iconst (v := 1) (C.wl _ _) dL_build_245 (by decide) ?_
      refine v_iload (C.wl _ _) dL_build_246 rfl ?_
      refine v_iconst (v := 2) (C.wl _ _) dL_build_248 (by decide) ?_
      refine v_ishr (C.wl _ _) dL_build_249 ?_
      refine v_bipush (v := 7) (C.wl _ _) dL_build_250 (by decide) ?_
      refine v_callSi (n := 2) (as := [.int ((r216 >>> (1 &&& 31)) >>> (2 &&& 31)), .int (nI 7)]) (C.wl _ _) (l_below _ Z ad227 (wr mP 900 0 (nI ta)) ((r216 >>> (1 &&& 31)) >>> (2 &&& 31)) 7 ⟨by omega, by omega⟩ g) (gs (tg3 17 rfl rfl) (tg3 18 rfl rfl) (tg1 0 rfl rfl) (tg3 19 rfl rfl)) (by decide +kernel) ⟨Nat.le_of_ble_eq_true rfl, Nat.le_of_ble_eq_true rfl⟩ rfl rfl (Nat.le_of_ble_eq_true rfl) dL_build_252 ⟨(by show 110 + 50 * p + 1 + 4 + 0 ≤ 600; omega), (by show 1000 + 700 * p + 8 + 10 + 0 ≤ 6000; omega)⟩ (fun r252 gg252 hp252 => ?_)
      obtain ⟨hr252, hgg252⟩ := hp252
      rw [hr252, hgg252]
      have btb : bwN ((r216 >>> (1 &&& 31)) >>> (2 &&& 31)) 7 < 7 := bwN_lt _ (by omega)
      generalize bwN ((r216 >>> (1 &&& 31)) >>> (2 &&& 31)) 7 = tb at btb ⊢
      refine v_iadd (C.wl _ _) dL_build_255 ?_
      refine v_topi (y := nI (1 + tb)) (by rw [show (1 : Int32) = nI 1 from rfl, nI_add]) ?_
      refine l_put (k := 900) (x := nI (1 + tb)) C inG4 (ci := 5) rfl tyX4 tyX4_ok nmX4 1 (by decide) (tg2 179 rfl rfl) rfl rfl rfl rfl rfl ⟨by decide, by decide⟩ (cW_5 ((wr_ne _ _ _ _ (by omega)).trans k5)) (Nat.le_of_ble_eq_true rfl) ((cW_5 (show upd (wr mP 900 0 (nI ta) 900) 1 (nI (1 + tb)) 100000 = 5 from (if_neg (by decide : ¬ (100000 : Nat) = 1)).trans ((wr_ne _ _ _ _ (by omega)).trans k5))).trans rfl) dL_build_256 ?_
      have hF256w := hF240w.put (k := 900) (j := 1) (x := nI (1 + tb)) (by omega) (by omega) (fun z => by rw [((wr_ne _ _ _ _ (by omega)).trans k5)] at z; exact absurd z (by decide))
      refine v_aload (C.wl _ _) dL_build_259 rfl ?_
      refine v_iconst (v := 1) (C.wl _ _) dL_build_261 (by decide) ?_
      refine v_iload (C.wl _ _) dL_build_262 rfl ?_
      refine v_iconst (v := 4) (C.wl _ _) dL_build_264 (by decide) ?_
      refine v_ishr (C.wl _ _) dL_build_265 ?_
      refine v_iconst (v := 3) (C.wl _ _) dL_build_266 (by decide) ?_
      refine v_callSi (n := 2) (as := [.int ((r216 >>> (1 &&& 31)) >>> (4 &&& 31)), .int (nI 3)]) (C.wl _ _) (l_below _ Z ad227 (wr (wr mP 900 0 (nI ta)) 900 1 (nI (1 + tb))) ((r216 >>> (1 &&& 31)) >>> (4 &&& 31)) 3 ⟨by omega, by omega⟩ g) (gs (tg3 17 rfl rfl) (tg3 18 rfl rfl) (tg1 0 rfl rfl) (tg3 19 rfl rfl)) (by decide +kernel) ⟨Nat.le_of_ble_eq_true rfl, Nat.le_of_ble_eq_true rfl⟩ rfl rfl (Nat.le_of_ble_eq_true rfl) dL_build_267 ⟨(by show 110 + 50 * p + 1 + 4 + 0 ≤ 600; omega), (by show 1000 + 700 * p + 8 + 10 + 0 ≤ 6000; omega)⟩ (fun r267 gg267 hp267 => ?_)
      obtain ⟨hr267, hgg267⟩ := hp267
      rw [hr267, hgg267]
      have bzb : bwN ((r216 >>> (1 &&& 31)) >>> (4 &&& 31)) 3 < 3 := bwN_lt _ (by omega)
      generalize bwN ((r216 >>> (1 &&& 31)) >>> (4 &&& 31)) 3 = zb at bzb ⊢
      refine v_iadd (C.wl _ _) dL_build_270 ?_
      refine v_topi (y := nI (1 + zb)) (by rw [show (1 : Int32) = nI 1 from rfl, nI_add]) ?_
      have k9 : (wr (wr mP 900 0 (nI ta)) 900 1 (nI (1 + tb))) 900 100000 = 5 ∧ (wr (wr mP 900 0 (nI ta)) 900 1 (nI (1 + tb))) 900 0 = nI ta ∧ (wr (wr mP 900 0 (nI ta)) 900 1 (nI (1 + tb))) 900 1 = nI (1 + tb) ∧ (wr (wr mP 900 0 (nI ta)) 900 1 (nI (1 + tb))) 900 3 = 0 ∧ (wr (wr mP 900 0 (nI ta)) 900 1 (nI (1 + tb))) 900 4 = 0 ∧ (wr (wr mP 900 0 (nI ta)) 900 1 (nI (1 + tb))) 900 5 = nI 902 ∧ (wr (wr mP 900 0 (nI ta)) 900 1 (nI (1 + tb))) 900 6 = nI 903 ∧ (wr (wr mP 900 0 (nI ta)) 900 1 (nI (1 + tb))) 900 7 = nI 904 := by
        refine ⟨?_, ?_, ?_, ?_, ?_, ?_, ?_, ?_⟩ <;> simp [wr, h9, rN]
      have kmo : ∀ q, q ≠ 900 → (wr (wr mP 900 0 (nI ta)) 900 1 (nI (1 + tb))) q = mP q := fun q hq => by rw [wr_row _ _ _ _ hq, wr_row _ _ _ _ hq]
      have kF : Fr (wr (wr mP 900 0 (nI ta)) 900 1 (nI (1 + tb))) 905 := hF256w
      generalize wr (wr mP 900 0 (nI ta)) 900 1 (nI (1 + tb)) = mQ at k9 kmo kF ⊢
      refine l_newA (T := 905) (N := (1 + zb)) C hW9.L kF (by omega) (by omega) (tg5 70 rfl rfl) dL_build_271 (by show 110 + 50 * p + 1 + 4 + 1 ≤ 600; omega) (by show 1000 + 700 * p + 8 + 10 + (1 + zb) ≤ 6000; omega) (fun ad271 hA271 => ?_)
      have hF271 := kF.new (by omega) (rN_R (kd := 2) (n := (1 + zb)) (by omega) (by decide) (by omega))
      refine v_lo (lo' := [some (.ref (ad271 30)), some (.ref S.1), some (.ref (ad271 600)), some (.int (nI n)), some (.int (nI np)), some (.int (nI p)), some (.int (r216 >>> (1 &&& 31))), some (.ref (ad271 900)), v8, v9, v10, v11]) (by rw [hA271 30 (by omega), hA271 600 (by omega), hA271 900 (by omega)]) ?_
      refine v_st (st' := [.ref (ad271 905), .ref (ad271 900)]) (by rw [hA271 900 (by omega)]) ?_
      refine l_put (k := 900) (x := nI 905) C inG4 (ci := 5) rfl tyX4 tyX4_ok nmX4 2 (by decide) (tg2 182 rfl rfl) rfl rfl rfl rfl rfl ⟨by decide, by decide⟩ (cW_5 ((congrFun (rwr_ne _ _ _ (by omega)) _).trans k9.1)) (Nat.le_of_ble_eq_true rfl) ((cW_5 (show upd (rwr mQ 905 (rN 2 (1 + zb)) 900) 2 (nI 905) 100000 = 5 from (if_neg (by decide : ¬ (100000 : Nat) = 2)).trans ((congrFun (rwr_ne _ _ _ (by omega)) _).trans k9.1))).trans (congrArg (fun q => some (Sum.inr (5, q))) (ps_put (by decide) ⟨by omega, by omega⟩))) dL_build_274 ?_
      have hF274w := hF271.wn (k := 900) (j := 2) (k2 := 905) (by omega) (by omega) (by omega)
      have hmw : ∀ q, q ≠ 900 → q ≠ 905 → (wr (rwr mQ 905 (rN 2 (1 + zb))) 900 2 (nI 905)) q = mP q := fun q q1 q2 => by rw [wr_row _ _ _ _ q1, rwr_ne _ _ _ q2]; exact kmo q q1
      have hW : PoW m (wr (rwr mQ 905 (rN 2 (1 + zb))) 900 2 (nI 905)) (nI ta) (nI (1 + tb)) (1 + zb) := by
        obtain ⟨b1, b2, b3, b4, b5, b6, b7, b8⟩ := k9
        have e9 : ∀ j, j ≠ 2 → (wr (rwr mQ 905 (rN 2 (1 + zb))) 900 2 (nI 905)) 900 j = mQ 900 j := fun j hj => by rw [wr_ne _ _ _ _ (Or.inr hj), rwr_ne _ _ _ (by decide)]
        refine ⟨fun q q1 q2 => (hmw q (by omega) (by omega)).trans (hmo q q2), ⟨(e9 _ (by decide)).trans b1, (e9 _ (by decide)).trans b2, (e9 _ (by decide)).trans b3, wr_same _ _ _ _, (e9 _ (by decide)).trans b4, (e9 _ (by decide)).trans b5, (e9 _ (by decide)).trans b6, (e9 _ (by decide)).trans b7, (e9 _ (by decide)).trans b8⟩, ?_, ?_, ?_⟩
        · unfold isA; rw [hmw 902 (by decide) (by decide), h92]; exact ⟨rfl, rfl⟩
        · unfold isA; rw [hmw 903 (by decide) (by decide), h93]; exact ⟨rfl, rfl⟩
        · unfold isQ; rw [wr_row _ _ _ _ (by decide), rwr_same]; exact ⟨rfl, rfl⟩
      have hFw : Fr (wr (rwr mQ 905 (rN 2 (1 + zb))) 900 2 (nI 905)) 906 := hF274w
      generalize wr (rwr mQ 905 (rN 2 (1 + zb))) 900 2 (nI 905) = mW at hW hFw ⊢
      have h6 : npO t < 6 := by omega
      have hcd : cdPoster t (nI ta) (nI (1 + tb)) = 0 := by rw [cdPo_v hE.1.1 bta (h := 1 + tb) ⟨by omega, by omega⟩, if_neg (by omega)]
      refine v_aload_n (C.wl _ _) dL_build_277 rfl rfl ?_
      refine v_aload (C.wl _ _) dL_build_278 rfl ?_
      refine l_get (k := 900) C inG4 (ci := 5) rfl 0 (by decide) (tg2 176 rfl rfl) rfl ⟨by decide, by decide⟩ (cW_5 hW.2.1.1) rfl dL_build_280 ?_
      refine v_topi (y := nI ta) hW.2.1.2.1 ?_
      refine v_aload (C.wl _ _) dL_build_283 rfl ?_
      refine l_get (k := 900) C inG4 (ci := 5) rfl 1 (by decide) (tg2 179 rfl rfl) rfl ⟨by decide, by decide⟩ (cW_5 hW.2.1.1) rfl dL_build_285 ?_
      refine v_topi (y := nI (1 + tb)) hW.2.1.2.2.1 ?_
      have hL2 := (LE_poster hE (by omega) (nI ta) (nI (1 + tb))).1
      have hPC := PoC_0 hcd hE.1.2.2.2.1 h6
      rw [hpt] at hPC
      refine v_callM (n := 2) (k := 30) (as := [.int (nI ta), .int (nI (1 + tb))]) (C.wl _ _) hW9.S (x_poster _ hP9 (Z.wl ad271 mW) (nI ta) (nI (1 + tb)) t g hE.1.1 hE.1.2.2.2.1 hRl) (gv (tg3 76 rfl rfl) (tg3 77 rfl rfl) (tg3 78 rfl rfl) (tg1 1 rfl rfl) (tg3 79 rfl rfl)) (by decide +kernel) ⟨Nat.le_of_ble_eq_true rfl, Nat.le_of_ble_eq_true rfl⟩ rfl cx_T rfl rfl (Nat.le_of_ble_eq_true rfl) dL_build_288 ⟨(by show 110 + 50 * p + 1 + 4 + 1 + 6 ≤ 600; omega), (by show 1000 + 700 * p + 8 + 10 + (1 + zb) + 60 ≤ 6000; omega)⟩ (fun E q g288 hp288 => absurd hcd hp288.1) (fun r288 ad288 g288 hp288 => ?_)
      obtain ⟨-, hr288, hRl288, -, hA288⟩ := hp288
      have hA288 : (∀ k, k < 36 → ad288 k = ad271 k) ∧ ∀ k, 600 ≤ k → ad288 k = ad271 k := hA288
      rw [hr288, congrArg nI hpt]
      show V P RB (Z.wl ad288 mW) [some (.ref (ad271 30)), some (.ref S.1), some (.ref (ad271 600)), some (.int (nI n)), some (.int (nI np)), some (.int (nI p)), some (.int (r216 >>> (1 &&& 31))), some (.ref (ad271 900)), v8, v9, v10, v11] 291 [.int (nI p)] g288 (110 + 50 * p + 1 + 4 + 1 + 6) (1000 + 700 * p + 8 + 10 + (1 + zb) + 60)
      refine v_lo (lo' := [some (.ref (ad288 30)), some (.ref S.1), some (.ref (ad288 600)), some (.int (nI n)), some (.int (nI np)), some (.int (nI p)), some (.int (r216 >>> (1 &&& 31))), some (.ref (ad288 900)), v8, v9, v10, v11]) (by rw [hA288.1 30 (by decide), hA288.2 600 (by omega), hA288.2 900 (by omega)]) ?_
      refine v_iload (C.wl _ _) dL_build_291 rfl ?_
      refine v_icmp_eq (tgt := 298) (C.wl _ _) dL_build_293 (by decide) (fun h293 => ?_) (fun h293 => ?_)
      · refine v_iconst (v := 0) (C.wl _ _) dL_build_298 (by decide) ?_
        refine v_istore (lo' := [some (.ref (ad288 30)), some (.ref S.1), some (.ref (ad288 600)), some (.int (nI n)), some (.int (nI np)), some (.int (nI p)), some (.int (r216 >>> (1 &&& 31))), some (.ref (ad288 900)), some (.int 0), v9, v10, v11]) (C.wl _ _) dL_build_299 (Nat.le_of_ble_eq_true rfl) rfl rfl ?_
        refine v_lo (lo' := [some (.ref (ad288 30)), some (.ref S.1), some (.ref (ad288 600)), some (.int (nI n)), some (.int (nI np)), some (.int (nI p)), some (.int (r216 >>> (1 &&& 31))), some (.ref (ad288 900)), some (.int (nI 0)), v9, v10, v11]) rfl ?_
        generalize r216 >>> (1 &&& 31) = x6
        refine v_wide (k := 122 + 50 * p + 11 * 0) (n := 1082 + 700 * p + 120 * 0) (by show 110 + 50 * p + 1 + 4 + 1 + 6 ≤ 122 + 50 * p + 11 * 0; omega) (by show 1000 + 700 * p + 8 + 10 + (1 + zb) + 60 ≤ 1082 + 700 * p + 120 * 0; omega) ?_
        have hAA : ∀ k, k < 36 → ad288 k = ad0 k := fun k hk => (hA288.1 k hk).trans ((hA271 k (by omega)).trans ((hAq k (by omega)).trans (hA k hk)))
        refine build_L (ad0 := fun k => if k = 600 then ad288 600 else ad0 k) hP9 C hW9 hC (M := N + 1) (z := 1 + zb) (m := m) (t := t) (ta := nI ta) (tl := nI (1 + tb)) (by omega) (by omega) (by omega) (by omega) (by omega) ((hE.1.2.2.2.1 p (by omega) (by omega)).2.1) (fun ad1 m1 t1 g1 N1 v9 v10 v11 hA1 hA6 hN1 hE1 hW1 hPC1 hPL1 hF1 hRl1 => ?_) _ 0 ad288 mW _ g288 (N + 1) _ _ _ (Nat.lt_succ_self _) (Nat.zero_le _) (fun k hk => by show _ = if k = 600 then _ else _; rw [if_neg (by omega)]; exact hAA k hk) rfl (Nat.le_refl _) hL2 hW hPC (fun q hq => absurd hq (Nat.not_lt_zero _)) hFw hRl288
        have hA2 : ∀ k, k < 36 → ad1 k = ad0 k := fun k hk => (hA1 k hk).trans (if_neg (by omega))
        refine v_aload_n (C.wl _ _) dL_build_362 rfl rfl ?_
        refine v_aload_n (C.wl _ _) dL_build_363 rfl rfl ?_
        refine l_get (k := 600) C inG5 (ci := 6) rfl 6 (by decide) (tg5 14 rfl rfl) rfl ⟨by decide, by decide⟩ (cW_6 ((congrFun (hW1.1 600 (by decide) (by decide)) _).trans hR.1.1)) (sm_r (by decide) ((congrFun (hW1.1 600 (by decide) (by decide)) _).trans hR.1.2.2.2.2.2.2.2) ⟨by decide, by decide⟩) dL_build_364 ?_
        refine v_aload (C.wl _ _) dL_build_367 rfl ?_
        refine l_callSq (n := 2) (as := [.ref (ad1 605), .ref (ad1 900)]) C hW9 (l_moreP _ Z ad1 m1 g1 (906 + (1 + zb)) hF1 605 900 (npO t) (fun i => 700 + 20 * i) (by omega) (by omega) (by unfold isQ; rw [hW1.1 605 (by decide) (by decide)]; exact hR.2.2.2.2.2.1.1) (by omega) (fun i hi => ⟨by rw [hW1.1 605 (by decide) (by decide)]; exact hR.2.2.2.2.2.1.2 i hi, by omega, by omega, by rw [hW1.1 _ (by omega) (by omega)]; exact (hR.L hi).1.1⟩) (by omega) hW1.2.1.1) (gs2 (tg3 71 rfl rfl) (tg3 72 rfl rfl) (tg1 6 rfl rfl) (tg3 73 rfl rfl)) (by decide +kernel) ⟨Nat.le_of_ble_eq_true rfl, Nat.le_of_ble_eq_true rfl⟩ rfl rfl (Nat.le_of_ble_eq_true rfl) dL_build_369 ⟨(by show 122 + 50 * p + 11 * (1 + zb) + 1 ≤ 600; omega), (by show 1082 + 700 * p + 120 * (1 + zb) + 100 ≤ 6000; omega)⟩ (fun v369 ad369 m369 g369 hp369 => ?_)
        obtain ⟨r9, hv369, hA369, hm369, hr1, hr2, hr3, hr4, hF369, hg369⟩ := hp369
        rw [hv369, hg369]
        have jmo : ∀ q, q ≠ 906 + (1 + zb) → m369 q = m1 q := fun q hq => by rw [hm369]; exact rwr_ne _ _ _ hq
        have j5 : m369 (906 + (1 + zb)) = r9 := by rw [hm369]; exact rwr_same _ _ _
        refine v_lo (lo' := [some (.ref (ad369 30)), some (.ref S.1), some (.ref (ad369 600)), some (.int (nI n)), some (.int (nI np)), some (.int (nI p)), some (.int x6), some (.ref (ad369 900)), some (.int (nI (1 + zb))), v9, v10, v11]) (by rw [hA369 30 (by omega), hA369 600 (by omega), hA369 900 (by omega)]) ?_
        refine v_st (st' := [.ref (ad369 (906 + (1 + zb))), .ref (ad369 600)]) (by rw [hA369 600 (by omega)]; rfl) ?_
        refine l_put (k := 600) (x := nI (906 + (1 + zb))) C inG5 (ci := 6) rfl tyX5 tyX5_ok nmX5 6 (by decide) (tg5 14 rfl rfl) rfl rfl rfl rfl rfl ⟨by decide, by decide⟩ (cW_6 ((congrFun ((jmo _ (by omega)).trans (hW1.1 600 (by decide) (by decide))) _).trans hR.1.1)) (Nat.le_of_ble_eq_true rfl) ((cW_6 (show upd (m369 600) 6 (nI (906 + (1 + zb))) 100000 = 6 from (if_neg (by decide : ¬ (100000 : Nat) = 6)).trans ((congrFun ((jmo _ (by omega)).trans (hW1.1 600 (by decide) (by decide))) _).trans hR.1.1))).trans (congrArg (fun q => some (Sum.inr (6, q))) (sm_put (by decide) ⟨by omega, by omega⟩))) dL_build_372 ?_
        have imo : ∀ q, q ≠ 600 → (wr m369 600 6 (nI (906 + (1 + zb)))) q = m369 q := fun q hq => wr_row _ _ _ _ hq
        have i6 : ∀ j, (wr m369 600 6 (nI (906 + (1 + zb)))) 600 j = if j = 6 then nI (906 + (1 + zb)) else m 600 j := fun j => by rw [wr_own]; unfold upd; rw [jmo _ (by omega), hW1.1 600 (by decide) (by decide)]
        generalize wr m369 600 6 (nI (906 + (1 + zb))) = mZ at imo i6 ⊢
        obtain ⟨w0, w9, wf, wa, wq⟩ := hW1
        obtain ⟨q1, q2, q3, q4, q5, q6, q7, q8⟩ := hPC1
        have ij : ∀ q, q ≠ 600 → q ≠ 906 + (1 + zb) → mZ q = m1 q := fun q z1 z2 => (imo q z1).trans (jmo q z2)
        have hC2 : Cn t1 mZ (sgB p (1 + zb)) := by
          rw [← hpt] at q3 q4 q5 q6 q7 q8 hPL1 ⊢
          refine Cn_add hE.1.1 hR h6 q1 q2 q3 q4 q5 ⟨(hE.1.2.2.2.1 _ (Nat.le_refl _) h6).2.1, (hE.1.2.2.2.1 _ (Nat.le_refl _) h6).2.2⟩ q8 (fun q z1 z2 => (ij q (by omega) (by omega)).trans (w0 q (by omega) z2)) ⟨fun j hj => (i6 j).trans (if_neg hj), (i6 6).trans (if_pos rfl)⟩ ?_ ⟨?_, fun q hq => ?_⟩ ?_ ?_ ⟨⟨?_, ?_⟩, fun i hi => ?_, ?_⟩
          · rw [ij 900 (by decide) (by omega), q6, q7]; exact w9
          · unfold isQ; rw [ij 905 (by decide) (by omega)]; exact wq
          · rw [ij 905 (by decide) (by omega)]; exact ⟨(hPL1 q hq).1, LtR.c (hPL1 q hq).2 (ij _ (by omega) (by omega))⟩
          · unfold isA; rw [ij 902 (by decide) (by omega)]; exact wf
          · unfold isA; rw [ij 903 (by decide) (by omega)]; exact wa
          · rw [imo _ (by omega), j5]; exact hr1
          · rw [imo _ (by omega), j5]; exact hr2
          · rw [imo _ (by omega), j5, hr3 i hi, w0 605 (by decide) (by decide)]
          · rw [imo _ (by omega), j5]; exact hr4
        have g5 := (IvM_nf hE1.1.1).1
        have g6 := (IvM_np hE1.1.1).1
        have g4 : ∀ q, q < npO t1 → nlO t1 q ≤ 4 := fun q hq => (IvM_nl hE1.1.1 (by omega)).2
        have hsr : ∀ q, 600 ≤ q → q < 900 → 600 ≤ sgB p (1 + zb) q ∧ sgB p (1 + zb) q < 1200 := fun q z1 z2 => sgB_r (by omega) (by omega) q z1 z2
        refine l_canon hC2 g5 g6 g4 hsr (fun a b _ a2 _ b2 _ _ h => sgB_inj (by omega) a b a2 b2 h) ?_
        have hS9 := Cn_Sim hC2 g5 g6 g4
        have hF9 := Cn_Fr hC2 g5 g6 g4 hsr
        have a9 : ∀ k, k < 600 → (fun k => if k < 600 then ad369 k else ad369 (sgB p (1 + zb) k)) k = ad369 k := fun k hk => if_pos hk
        have a96 : (fun k => if k < 600 then ad369 k else ad369 (sgB p (1 + zb) k)) 600 = ad369 600 := by show (if (600 : Nat) < 600 then _ else ad369 (sgB p (1 + zb) 600)) = _; rw [if_neg (by decide), show sgB p (1 + zb) 600 = 600 by unfold sgB; rw [if_neg (by omega), if_neg (by omega), if_neg (by omega), if_neg (by omega)]]
        generalize (fun k => if k < 600 then ad369 k else ad369 (sgB p (1 + zb) k)) = ad9 at a9 a96 ⊢
        generalize cnM t1 mZ (sgB p (1 + zb)) = m9 at hS9 hF9 ⊢
        refine v_lo (lo' := [some (.ref (ad9 30)), some (.ref S.1), some (.ref (ad9 600)), some (.int (nI n)), some (.int (nI np)), some (.int (nI p)), some (.int x6), some (.ref (ad369 900)), some (.int (nI (1 + zb))), v9, v10, v11]) (by rw [a9 30 (by decide), a96]) ?_
        refine v_iinc (lo' := [some (.ref (ad9 30)), some (.ref S.1), some (.ref (ad9 600)), some (.int (nI n)), some (.int (nI np)), some (.int ((nI p) + 1)), some (.int x6), some (.ref (ad369 900)), some (.int (nI (1 + zb))), v9, v10, v11]) (C.wl _ _) dL_build_375 rfl rfl rfl rfl ?_
        refine v_goto (tgt := 204) (C.wl _ _) dL_build_378 (by decide) ?_
        refine v_lo (lo' := [some (.ref (ad9 30)), some (.ref S.1), some (.ref (ad9 600)), some (.int (nI n)), some (.int (nI np)), some (.int (nI (p + 1))), some (.int x6), some (.ref (ad369 900)), some (.int (nI (1 + zb))), v9, v10, v11]) (by rw [nI_succ p]) ?_
        refine v_wide (k := 110 + 50 * (p + 1)) (n := 1000 + 700 * (p + 1)) (by show 122 + 50 * p + 11 * (1 + zb) + 1 ≤ 110 + 50 * (p + 1); omega) (by show 1082 + 700 * p + 120 * (1 + zb) + 100 ≤ 1000 + 700 * (p + 1); omega) ?_
        exact ih (p + 1) ad9 m9 t1 g1 N1 _ _ _ _ _ _ (by omega) (by omega) (fun k hk => (a9 k (by omega)).trans ((hA369 k (by omega)).trans (hA2 k hk))) (by omega) hE1 hS9 hF9 hRl1 (by unfold nfO; rw [q2 1 (by decide)]; exact hnf) q3 (fun k hk => by rw [q1 9 (by decide) (by decide) (by decide) (by decide) (by decide)]; exact h9t k hk)
      · exact absurd rfl h293
