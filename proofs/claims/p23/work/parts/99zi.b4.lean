/-! THE LAW'S build: others; the whole of it -/
set_option maxRecDepth 100000 in
theorem build_O {P : Pm} {Z : Zc} {S : Sc} {ad0 : Nat → Nat} (hP9 : P.2.1.stackTraces = false) (C : Cx P Z cL_build "PosterTypesLaw") (hW9 : CxW P Z) (hC : CxP P S Z.z) {n np : Nat}
    (ret : RetB P Z ad0)
    : ∀ (q k : Nat) (ad : Nat → Nat) (m t g : MG) (N : Nat) (v6 v7 v8 v9 v10 v11 : Option Value), 4 - k < q → k ≤ 4 → (∀ q, q < 36 → ad q = ad0 q) → N ≤ 24 + k → LE N t → SimR t m → Fr m 900 → Rl t g → 1 ≤ nfO t → 1 ≤ npO t → (∀ q, k ≤ q → q < 10 → t 9 q = -1) → V P RB (Z.wl ad m) [some (.ref (ad 30)), some (.ref S.1), some (.ref (ad 600)), some (.int (nI n)), some (.int (nI np)), some (.int (nI k)), v6, v7, v8, v9, v10, v11] 384 [] g (310 + k) (3800 + 6 * k) := by
  intro q
  induction q with
  | zero => intro k ad m t g N v6 v7 v8 v9 v10 v11 hq; exact absurd hq (Nat.not_lt_zero _)
  | succ q ih =>
    intro k ad m t g N v6 v7 v8 v9 v10 v11 hq hi hA hN hE hR hF hRl hnf hnp h9t
    refine v_iload (C.wl _ _) dL_build_384 rfl ?_
    refine v_iconst (v := 4) (C.wl _ _) dL_build_386 (by decide) ?_
    refine v_icmp_ge (tgt := 448) (C.wl _ _) dL_build_387 (by decide) (fun h387 => ?_) (fun h387 => ?_)
    · refine v_aload_n (C.wl _ _) dL_build_448 rfl rfl ?_
      refine v_wide (k := 600) (n := 6000) (by show 310 + k ≤ 600; omega) (by show 3800 + 6 * k ≤ 6000; omega) ?_
      exact ret _ _ _ _ _ dL_build_449 ⟨hA, N, t, by omega, hE, hR, hF, hRl, hnf, hnp⟩
    · have hk4 : k < 4 := Nat.lt_of_not_le fun q => h387 ((nI_leI (a := 4) (by decide) (by omega)).mpr q)
      refine v_aload_n (C.wl _ _) dL_build_390 rfl rfl ?_
      refine v_bipush (v := 6) (C.wl _ _) dL_build_391 (by decide) ?_
      refine s_call (n := 2) (S := S) (as := [.ref S.1, .int (nI 6)]) (C.wl _ _) hC (l_cell _ (Z.wl ad m) S 6 (by omega) g) (gs (tg3 21 rfl rfl) (tg3 22 rfl rfl) (tg1 0 rfl rfl) (tg3 23 rfl rfl)) (by decide +kernel) ⟨Nat.le_of_ble_eq_true rfl, Nat.le_of_ble_eq_true rfl⟩ rfl rfl (Nat.le_of_ble_eq_true rfl) dL_build_393 ⟨(by show 310 + k + 0 ≤ 600; omega), (by show 3800 + 6 * k + 0 ≤ 6000; omega)⟩ (fun r393 gg393 hp393 => ?_)
      rw [show gg393 = g from hp393]
      refine v_iconst (v := 3) (C.wl _ _) dL_build_396 (by decide) ?_
      refine v_iload (C.wl _ _) dL_build_397 rfl ?_
      refine v_imul (C.wl _ _) dL_build_399 ?_
      refine v_ishr (C.wl _ _) dL_build_400 ?_
      refine v_iconst (v := 5) (C.wl _ _) dL_build_401 (by decide) ?_
      refine v_callSi (n := 2) (as := [.int (r393 >>> ((3 * (nI k)) &&& 31)), .int (nI 5)]) (C.wl _ _) (l_below _ Z ad m (r393 >>> ((3 * (nI k)) &&& 31)) 5 ⟨by omega, by omega⟩ g) (gs (tg3 17 rfl rfl) (tg3 18 rfl rfl) (tg1 0 rfl rfl) (tg3 19 rfl rfl)) (by decide +kernel) ⟨Nat.le_of_ble_eq_true rfl, Nat.le_of_ble_eq_true rfl⟩ rfl rfl (Nat.le_of_ble_eq_true rfl) dL_build_402 ⟨(by show 310 + k + 0 ≤ 600; omega), (by show 3800 + 6 * k + 0 ≤ 6000; omega)⟩ (fun r402 gg402 hp402 => ?_)
      obtain ⟨hr402, hgg402⟩ := hp402
      rw [hr402, hgg402]
      have bo : bwN (r393 >>> ((3 * (nI k)) &&& 31)) 5 < 5 := bwN_lt _ (by omega)
      generalize bwN (r393 >>> ((3 * (nI k)) &&& 31)) 5 = o at bo ⊢
      refine v_iconst (v := 1) (C.wl _ _) dL_build_405 (by decide) ?_
      refine v_isub (C.wl _ _) dL_build_406 ?_
      refine v_istore (lo' := [some (.ref (ad 30)), some (.ref S.1), some (.ref (ad 600)), some (.int (nI n)), some (.int (nI np)), some (.int (nI k)), some (.int ((nI o) - 1)), v7, v8, v9, v10, v11]) (C.wl _ _) dL_build_407 (Nat.le_of_ble_eq_true rfl) rfl rfl ?_
      refine v_iload (C.wl _ _) dL_build_409 rfl ?_
      refine v_iload (C.wl _ _) dL_build_411 rfl ?_
      refine v_icmp_ne (tgt := 419) (C.wl _ _) dL_build_413 (by decide) (fun h413 => ?_) (fun h413 => ?_)
      · have hcd := cdOth_0 (k := k) (o := o) (by omega) (by omega) h413
        refine v_aload_n (C.wl _ _) dL_build_419 rfl rfl ?_
        refine l_get (k := 600) C inG5 (ci := 6) rfl 4 (by decide) (tg5 10 rfl rfl) rfl ⟨by decide, by decide⟩ (cW_6 hR.1.1) (sm_r (by decide) hR.1.2.2.2.2.2.1 ⟨by decide, by decide⟩) dL_build_420 ?_
        refine v_iload (C.wl _ _) dL_build_423 rfl ?_
        refine v_iload (C.wl _ _) dL_build_425 rfl ?_
        refine l_iast (k := 603) (n := 10) (a := k) C ⟨by decide, by decide⟩ hR.2.2.2.1.1.1 hR.2.2.2.1.1.2 ⟨by omega, by decide⟩ dL_build_427 ?_
        have hs1 : stSetOther t (nI k) (nI o - 1) = wr t 9 k (nI o - 1) := by unfold stSetOther; rw [if_pos hcd, iz_nI (by omega)]
        have hR1 := Sim_oth (o := nI o - 1) hE.1.1 hR (show k < 10 by omega)
        have hF1 : Fr (wr m 603 k ((nI o) - 1)) 900 := hF.wi (k := 603) (j := k) (x := nI o - 1) (by omega) (by omega) hR.2.2.2.1.1.1
        rw [← hs1] at hR1
        have hL1 := (LE_setOther hE (by omega) (nI k) (nI o - 1)).1
        have e0 : stSetOther t (nI k) (nI o - 1) 0 = t 0 := by rw [hs1, wr_row _ _ _ _ (by decide)]
        have e9 : ∀ j, k + 1 ≤ j → j < 10 → stSetOther t (nI k) (nI o - 1) 9 j = -1 := fun j j1 j2 => by rw [hs1, wr_ne _ _ _ _ (Or.inr (by omega))]; exact h9t j (by omega) j2
        generalize wr m 603 k ((nI o) - 1) = m1 at hR1 hF1 ⊢
        refine v_aload_n (C.wl _ _) dL_build_428 rfl rfl ?_
        refine v_iload (C.wl _ _) dL_build_429 rfl ?_
        refine v_iload (C.wl _ _) dL_build_431 rfl ?_
        refine v_callX (n := 2) (k := 30) (as := [.int (nI k), .int ((nI o) - 1)]) (C.wl _ _) hW9.S (x_setOther _ hP9 (Z.wl ad m1) (nI k) ((nI o) - 1) t g hE.1.1 hRl) (gv (tg3 56 rfl rfl) (tg3 57 rfl rfl) (tg3 58 rfl rfl) (tg1 1 rfl rfl) (tg3 59 rfl rfl)) (by decide +kernel) ⟨Nat.le_of_ble_eq_true rfl, Nat.le_of_ble_eq_true rfl⟩ rfl cx_T rfl rfl (Nat.le_of_ble_eq_true rfl) dL_build_433 ⟨(by show 310 + k + 1 ≤ 600; omega), (by show 3800 + 6 * k + 6 ≤ 6000; omega)⟩ (fun E q g433 hp433 => absurd hcd hp433.1) (fun r433 g433 hp433 => ?_)
        obtain ⟨-, hr433, hRl433, hK433⟩ := hp433
        refine v_topi (y := -1) (hr433.trans ((congrArg (t 9) (iz_nI (show k < 2147483648 by omega))).trans (h9t k (Nat.le_refl _) (by omega)))) ?_
        refine v_iconst (v := (-1)) (C.wl _ _) dL_build_436 (by decide) ?_
        refine v_icmp_eq (tgt := 442) (C.wl _ _) dL_build_437 (by decide) (fun h437 => ?_) (fun h437 => ?_)
        · refine v_iinc (lo' := [some (.ref (ad 30)), some (.ref S.1), some (.ref (ad 600)), some (.int (nI n)), some (.int (nI np)), some (.int ((nI k) + 1)), some (.int ((nI o) - 1)), v7, v8, v9, v10, v11]) (C.wl _ _) dL_build_442 rfl rfl rfl rfl ?_
          refine v_goto (tgt := 384) (C.wl _ _) dL_build_445 (by decide) ?_
          refine v_lo (lo' := [some (.ref (ad 30)), some (.ref S.1), some (.ref (ad 600)), some (.int (nI n)), some (.int (nI np)), some (.int (nI (k + 1))), some (.int ((nI o) - 1)), v7, v8, v9, v10, v11]) (by rw [nI_succ k]) ?_
          refine v_wide (k := 310 + (k + 1)) (n := 3800 + 6 * (k + 1)) (by show 310 + k + 1 ≤ 310 + (k + 1); omega) (by show 3800 + 6 * k + 6 ≤ 3800 + 6 * (k + 1); omega) ?_
          exact ih (k + 1) ad m1 _ g433 (N + 1) _ _ _ _ _ _ (by omega) (by omega) hA (by omega) hL1 hR1 hF1 hRl433 (by unfold nfO; rw [e0]; exact hnf) (by unfold npO; rw [e0]; exact hnp) e9
        · exact absurd rfl h437
      · refine v_goto (tgt := 442) (C.wl _ _) dL_build_416 (by decide) ?_
        refine v_iinc (lo' := [some (.ref (ad 30)), some (.ref S.1), some (.ref (ad 600)), some (.int (nI n)), some (.int (nI np)), some (.int ((nI k) + 1)), some (.int ((nI o) - 1)), v7, v8, v9, v10, v11]) (C.wl _ _) dL_build_442 rfl rfl rfl rfl ?_
        refine v_goto (tgt := 384) (C.wl _ _) dL_build_445 (by decide) ?_
        refine v_lo (lo' := [some (.ref (ad 30)), some (.ref S.1), some (.ref (ad 600)), some (.int (nI n)), some (.int (nI np)), some (.int (nI (k + 1))), some (.int ((nI o) - 1)), v7, v8, v9, v10, v11]) (by rw [nI_succ k]) ?_
        refine v_wide (k := 310 + (k + 1)) (n := 3800 + 6 * (k + 1)) (by show 310 + k ≤ 310 + (k + 1); omega) (by show 3800 + 6 * k ≤ 3800 + 6 * (k + 1); omega) ?_
        exact ih (k + 1) ad m t g N _ _ _ _ _ _ (by omega) (by omega) hA (by omega) hE hR hF hRl hnf hnp (fun j j1 j2 => h9t j (by omega) j2)
set_option maxRecDepth 100000 in
theorem l_build (l : Launch) (hl9 : l.stackTraces = false) (Z : Zc) (S : Sc) (ad : Nat → Nat) (t m g : MG) (hE : LE 0 t) (h0 : nfO t = 0) (hp0 : npO t = 0) (t34 : t 0 3 = 0 ∧ t 0 4 = 0) (t5 : ∀ f, f < 5 → t 5 f = 0) (t9 : ∀ k, k < 10 → t 9 k = -1) (t10 : ∀ u, u < 4 → t 10 u = 3 ∧ t 11 u = 5) (hF : Fr m 600) (hRl : Rl t g) : LMqs l yL_build cL_build 12 (some (.object "PosterTypesLaw$Sim")) RB Z S [.ref (ad 30), .ref S.1] ad m g (fun r ad' m' g' => r = some (ad' 600) ∧ BuiP ad ad' m' g') := by
  refine ent_lqs (own := "PosterTypesLaw") (lo := [some (.ref (ad 30)), some (.ref S.1), none, none, none, none, none, none, none, none, none, none]) (Or.inl ⟨_, rfl⟩) (by decide) rfl (by simp [lg_sl, Value.category]) rfl (fun P hl C hW9 hC ret => ?_)
  have hP9 : P.2.1.stackTraces = false := by rw [hl]; exact hl9
  have ret9 : RetB P Z ad := fun pc lo' ad' m' g' hd hA => ret pc lo' (some (ad' 600)) ad' m' g' hd ⟨rfl, hA⟩
  refine l_newo (T := 600) (ci := 6) (kd := 6) (fs := [.int 0, .int 0, .null, .null, .null, .null, .null]) C hF (by omega) inG5 tyX5 tyX5_ok (tg4 237 rfl rfl) (tg2 217 rfl rfl) (tg1 6 rfl rfl) rfl (fun _ => rfl) (by decide) (Nat.le_of_ble_eq_true rfl) (Nat.le_of_ble_eq_true rfl) dL_build_0 (fun ad0 hA0 => ?_)
  have hF0 := hF.new (by omega) (rN_R (kd := 6) (n := 0) (by omega) (by decide) (by omega))
  refine v_lo (lo' := [some (.ref (ad0 30)), some (.ref S.1), none, none, none, none, none, none, none, none, none, none]) (by rw [hA0 30 (by omega)]) ?_
  refine v_dup (C.wl _ _) dL_build_3 rfl ?_
  refine l_callIN (n := 0) (as := []) (host := "PosterTypesLaw") C hW9 (l_sinit _ Z ad0 (rwr m 600 (rN 6 0)) g hF0 (by rw [rwr_same]; rfl)) (List.mem_of_getElem? (i := 1) rfl) (tg4 239 rfl rfl) (tg1 6 rfl rfl) (tg5 0 rfl rfl) rfl (by decide +kernel) ⟨Nat.le_of_ble_eq_true rfl, Nat.le_of_ble_eq_true rfl⟩ rfl rfl (Nat.le_of_ble_eq_true rfl) dL_build_4 ⟨(by show 1 + 9 ≤ 600; omega), (by show 7 + 40 ≤ 6000; omega)⟩ (fun ad4 m4 g4 hp4 => ?_)
  obtain ⟨hA4, hS4, hF4, hg4⟩ := hp4
  rw [hg4]
  refine v_lo (lo' := [some (.ref (ad4 30)), some (.ref S.1), none, none, none, none, none, none, none, none, none, none]) (by rw [hA4 30 (by decide), hA0 30 (by decide)]) ?_
  refine v_st (st' := [.ref (ad4 600)]) (by rw [hA4 600 (by decide)]) ?_
  refine v_astore_n (lo' := [some (.ref (ad4 30)), some (.ref S.1), some (.ref (ad4 600)), none, none, none, none, none, none, none, none, none]) (C.wl _ _) dL_build_7 rfl (Nat.le_of_ble_eq_true rfl) rfl rfl ?_
  refine v_iconst (v := 1) (C.wl _ _) dL_build_8 (by decide) ?_
  refine v_aload_n (C.wl _ _) dL_build_9 rfl rfl ?_
  refine v_iconst (v := 0) (C.wl _ _) dL_build_10 (by decide) ?_
  refine s_call (n := 2) (S := S) (as := [.ref S.1, .int (nI 0)]) (C.wl _ _) hC (l_cell _ (Z.wl ad4 m4) S 0 (by omega) g) (gs (tg3 21 rfl rfl) (tg3 22 rfl rfl) (tg1 0 rfl rfl) (tg3 23 rfl rfl)) (by decide +kernel) ⟨Nat.le_of_ble_eq_true rfl, Nat.le_of_ble_eq_true rfl⟩ rfl rfl (Nat.le_of_ble_eq_true rfl) dL_build_11 ⟨(by show 1 + 9 + 0 ≤ 600; omega), (by show 7 + 40 + 0 ≤ 6000; omega)⟩ (fun r11 gg11 hp11 => ?_)
  rw [show gg11 = g from hp11]
  refine v_iconst (v := 4) (C.wl _ _) dL_build_14 (by decide) ?_
  refine v_callSi (n := 2) (as := [.int r11, .int (nI 4)]) (C.wl _ _) (l_below _ Z ad4 m4 r11 4 ⟨by omega, by omega⟩ g) (gs (tg3 17 rfl rfl) (tg3 18 rfl rfl) (tg1 0 rfl rfl) (tg3 19 rfl rfl)) (by decide +kernel) ⟨Nat.le_of_ble_eq_true rfl, Nat.le_of_ble_eq_true rfl⟩ rfl rfl (Nat.le_of_ble_eq_true rfl) dL_build_15 ⟨(by show 1 + 9 + 0 ≤ 600; omega), (by show 7 + 40 + 0 ≤ 6000; omega)⟩ (fun r15 gg15 hp15 => ?_)
  obtain ⟨hr15, hgg15⟩ := hp15
  rw [hr15, hgg15]
  have bnb : bwN r11 4 < 4 := bwN_lt _ (by omega)
  generalize bwN r11 4 = nb at bnb ⊢
  refine v_iadd (C.wl _ _) dL_build_18 ?_
  refine v_topi (y := nI (1 + nb)) (by rw [show (1 : Int32) = nI 1 from rfl, nI_add]) ?_
  refine v_istore_n (lo' := [some (.ref (ad4 30)), some (.ref S.1), some (.ref (ad4 600)), some (.int (nI (1 + nb))), none, none, none, none, none, none, none, none]) (C.wl _ _) dL_build_19 rfl (Nat.le_of_ble_eq_true rfl) rfl rfl ?_
  refine v_aload_n (C.wl _ _) dL_build_20 rfl rfl ?_
  refine v_iload_n (C.wl _ _) dL_build_21 rfl rfl ?_
  refine l_newi (T := 610) (N := (1 + nb)) C hF4 (by omega) (by omega) dL_build_22 (by show 1 + 9 + 1 ≤ 600; omega) (by show 7 + 40 + (1 + nb) ≤ 6000; omega) (fun ad22 hA22 => ?_)
  have hF22 := hF4.new (by omega) (rN_R (kd := 1) (n := (1 + nb)) (by omega) (by decide) (by omega))
  refine v_lo (lo' := [some (.ref (ad22 30)), some (.ref S.1), some (.ref (ad22 600)), some (.int (nI (1 + nb))), none, none, none, none, none, none, none, none]) (by rw [hA22 30 (by omega), hA22 600 (by omega)]) ?_
  refine v_st (st' := [.ref (ad22 610), .ref (ad22 600)]) (by rw [hA22 600 (by omega)]) ?_
  refine l_put (k := 600) (x := nI 610) C inG5 (ci := 6) rfl tyX5 tyX5_ok nmX5 2 (by decide) (tg5 6 rfl rfl) rfl rfl rfl rfl rfl ⟨by decide, by decide⟩ (cW_6 ((congrFun (rwr_ne _ _ _ (by omega)) _).trans hS4.1.1)) (Nat.le_of_ble_eq_true rfl) ((cW_6 (show upd (rwr m4 610 (rN 1 (1 + nb)) 600) 2 (nI 610) 100000 = 6 from (if_neg (by decide : ¬ (100000 : Nat) = 2)).trans ((congrFun (rwr_ne _ _ _ (by omega)) _).trans hS4.1.1))).trans (congrArg (fun q => some (Sum.inr (6, q))) (sm_put (by decide) ⟨by omega, by omega⟩))) dL_build_24 ?_
  have hF24w := hF22.wn (k := 600) (j := 2) (k2 := 610) (by omega) (by omega) (by omega)
  refine v_aload_n (C.wl _ _) dL_build_27 rfl rfl ?_
  refine v_iload_n (C.wl _ _) dL_build_28 rfl rfl ?_
  refine v_bipush (v := 10) (C.wl _ _) dL_build_29 (by decide) ?_
  refine v_iconst (v := 3) (C.wl _ _) dL_build_31 (by decide) ?_
  refine l_multi3 (T := 611) (N := 1 + nb) C hW9.L hF24w (by omega) (by omega) (tg5 30 rfl rfl) (by show 1 + 9 + 1 + (1 + (1 + nb) * 11) ≤ 600; omega) (by show 7 + 40 + (1 + nb) + ((1 + nb) + (1 + nb) * 40) ≤ 6000; omega) dL_build_32 (fun ad32 hA32 => ?_)
  have e6 : ∀ j, (wr (rwr m4 610 (rN 1 (1 + nb))) 600 2 (nI 610)) 600 j = if j = 2 then nI 610 else m4 600 j := fun j => by rw [wr_own]; unfold upd; rw [rwr_ne _ _ _ (by decide)]
  have e61 : (wr (rwr m4 610 (rN 1 (1 + nb))) 600 2 (nI 610)) 610 = rN 1 (1 + nb) := by rw [wr_row _ _ _ _ (by decide), rwr_same]
  have eo : ∀ q, q ≠ 600 → q ≠ 610 → (wr (rwr m4 610 (rN 1 (1 + nb))) 600 2 (nI 610)) q = m4 q := fun q q1 q2 => by rw [wr_row _ _ _ _ q1, rwr_ne _ _ _ q2]
  generalize wr (rwr m4 610 (rN 1 (1 + nb))) 600 2 (nI 610) = mA at e6 e61 eo ⊢
  refine v_lo (lo' := [some (.ref (ad32 30)), some (.ref S.1), some (.ref (ad32 600)), some (.int (nI (1 + nb))), none, none, none, none, none, none, none, none]) (by rw [hA32 30 (by decide), hA32 600 (by decide)]) ?_
  refine v_st (st' := [.ref (ad32 611), .ref (ad32 600)]) (by rw [hA32 600 (by decide)]) ?_
  refine l_put (k := 600) (x := nI 611) C inG5 (ci := 6) rfl tyX5 tyX5_ok nmX5 3 (by decide) (tg5 8 rfl rfl) rfl rfl rfl rfl rfl ⟨by decide, by decide⟩ (cW_6 ((congrFun (m3M_o mA 611 (1 + nb) (k := 600) (Or.inl (by decide))) _).trans ((e6 _).trans hS4.1.1))) (Nat.le_of_ble_eq_true rfl) ((cW_6 (show upd (m3M mA 611 (1 + nb) 600) 3 (nI 611) 100000 = 6 from (if_neg (by decide : ¬ (100000 : Nat) = 3)).trans ((congrFun (m3M_o mA 611 (1 + nb) (k := 600) (Or.inl (by decide))) _).trans ((e6 _).trans hS4.1.1)))).trans (congrArg (fun q => some (Sum.inr (6, q))) (sm_put (by decide) ⟨by decide, by decide⟩))) dL_build_36 ?_
  have x6 : ∀ j, (wr (m3M mA 611 (1 + nb)) 600 3 (nI 611)) 600 j = if j = 3 then nI 611 else if j = 2 then nI 610 else m4 600 j := fun j => by rw [wr_own]; unfold upd; rw [m3M_o mA 611 (1 + nb) (Or.inl (by decide)), e6]
  have xo : ∀ q, q ≠ 600 → (wr (m3M mA 611 (1 + nb)) 600 3 (nI 611)) q = m3M mA 611 (1 + nb) q := fun q hq => wr_row _ _ _ _ hq
  generalize wr (m3M mA 611 (1 + nb)) 600 3 (nI 611) = mB at x6 xo ⊢
  have hCn : Cn (wr t 0 1 (nI (1 + nb))) mB (sgN (1 + nb)) := Cn_new (m0 := rwr m 600 (rN 6 0)) (by omega) hE.1.2.2.1 h0 hp0 t34 t5 t9 t10 hS4 ⟨by rw [rwr_same]; rfl, by rw [rwr_same]; rfl⟩ (fun q q1 q2 => by rw [xo q (by omega), m3M_o _ _ _ (Or.inl (by omega)), eo q (by omega) (by omega)]) ⟨fun j j2 j3 => by rw [x6, if_neg j3, if_neg j2], by rw [x6, if_neg (by decide), if_pos rfl], by rw [x6, if_pos rfl]⟩ (by rw [xo 610 (by decide), m3M_o _ _ _ (Or.inl (by decide)), e61]) (by rw [xo 611 (by decide), m3M_0]) (fun f hf => by rw [xo _ (by omega), show 612 + f = 611 + 1 + f by omega, m3M_1 _ _ _ hf]) (fun x hx => by rw [xo _ (by omega), show 612 + (1 + nb) + x = 611 + 1 + (1 + nb) + x by omega, m3M_2 _ _ _ hx])
  have hIn := IvM_wn (t := t) hE.1.1 (show 1 + nb ≤ 5 by omega)
  have g5 := (IvM_nf hIn).1
  have g6 := (IvM_np hIn).1
  have g4 : ∀ q, q < npO (wr t 0 1 (nI (1 + nb))) → nlO (wr t 0 1 (nI (1 + nb))) q ≤ 4 := fun q hq => (IvM_nl hIn (by omega)).2
  have hsr : ∀ q, 600 ≤ q → q < 900 → 600 ≤ sgN (1 + nb) q ∧ sgN (1 + nb) q < 1200 := fun q z1 z2 => sgN_r (by omega) q z1 z2
  refine l_canon hCn g5 g6 g4 hsr (fun a b a1 a2 b1 b2 _ _ h => sgN_inj (by omega) a b a1 a2 b1 b2 h) ?_
  have hS9 := Cn_Sim hCn g5 g6 g4
  have hF9 := Cn_Fr hCn g5 g6 g4 hsr
  have a9 : ∀ k, k < 600 → (fun k => if k < 600 then ad32 k else ad32 (sgN (1 + nb) k)) k = ad32 k := fun k hk => if_pos hk
  have a96 : (fun k => if k < 600 then ad32 k else ad32 (sgN (1 + nb) k)) 600 = ad32 600 := by show (if (600 : Nat) < 600 then _ else ad32 (sgN (1 + nb) 600)) = _; rw [if_neg (by decide), show sgN (1 + nb) 600 = 600 by unfold sgN; rw [if_neg (by omega), if_neg (by omega), if_neg (by omega), if_neg (by omega), if_neg (by omega), if_neg (by omega), if_neg (by omega)]]
  generalize (fun k => if k < 600 then ad32 k else ad32 (sgN (1 + nb) k)) = ad9 at a9 a96 ⊢
  generalize cnM (wr t 0 1 (nI (1 + nb))) mB (sgN (1 + nb)) = m9 at hS9 hF9 ⊢
  refine v_lo (lo' := [some (.ref (ad9 30)), some (.ref S.1), some (.ref (ad9 600)), some (.int (nI (1 + nb))), none, none, none, none, none, none, none, none]) (by rw [a9 30 (by decide), a96]) ?_
  have hAA : ∀ k, k < 36 → ad9 k = ad k := fun k hk => (a9 k (by omega)).trans ((hA32 k (by omega)).trans ((hA22 k (by omega)).trans ((hA4 k (by omega)).trans (hA0 k (by omega)))))
  refine v_iconst (v := 0) (C.wl _ _) dL_build_39 (by decide) ?_
  refine v_istore (lo' := [some (.ref (ad9 30)), some (.ref S.1), some (.ref (ad9 600)), some (.int (nI (1 + nb))), some (.int 0), none, none, none, none, none, none, none]) (C.wl _ _) dL_build_40 (Nat.le_of_ble_eq_true rfl) rfl rfl ?_
  refine v_lo (lo' := [some (.ref (ad9 30)), some (.ref S.1), some (.ref (ad9 600)), some (.int (nI (1 + nb))), some (.int (nI 0)), none, none, none, none, none, none, none]) rfl ?_
  refine v_wide (k := 60 + 10 * 0) (n := 500 + 100 * 0) (by show 1 + 9 + 1 + 1 + (1 + nb) * 11 ≤ 60 + 10 * 0; omega) (by show 7 + 40 + (1 + nb) + (1 + nb) + (1 + nb) * 40 ≤ 500 + 100 * 0; omega) ?_
  refine build_F (ad0 := ad) hP9 C hW9 hC (n := 1 + nb) (by omega) (fun ad1 m1 t1 g1 N1 v5 v6 v7 v8 v9 v10 v11 hA1 hN1 hE1 hR1 hF1 hRl1 hnf1 hnp1 h91 => ?_) _ 0 ad9 m9 t g 0 _ _ _ _ _ _ _ (Nat.lt_succ_self _) (Nat.zero_le _) hAA (Nat.zero_le _) hE hS9 hF9 hRl h0 hp0 t9
  refine v_iconst (v := 1) (C.wl _ _) dL_build_188 (by decide) ?_
  refine v_aload_n (C.wl _ _) dL_build_189 rfl rfl ?_
  refine v_iconst (v := 1) (C.wl _ _) dL_build_190 (by decide) ?_
  refine s_call (n := 2) (S := S) (as := [.ref S.1, .int (nI 1)]) (C.wl _ _) hC (l_cell _ (Z.wl ad1 m1) S 1 (by omega) g1) (gs (tg3 21 rfl rfl) (tg3 22 rfl rfl) (tg1 0 rfl rfl) (tg3 23 rfl rfl)) (by decide +kernel) ⟨Nat.le_of_ble_eq_true rfl, Nat.le_of_ble_eq_true rfl⟩ rfl rfl (Nat.le_of_ble_eq_true rfl) dL_build_191 ⟨(by show 60 + 10 * (1 + nb) + 0 ≤ 600; omega), (by show 500 + 100 * (1 + nb) + 0 ≤ 6000; omega)⟩ (fun r191 gg191 hp191 => ?_)
  rw [show gg191 = g1 from hp191]
  refine v_iconst (v := 4) (C.wl _ _) dL_build_194 (by decide) ?_
  refine v_callSi (n := 2) (as := [.int r191, .int (nI 4)]) (C.wl _ _) (l_below _ Z ad1 m1 r191 4 ⟨by omega, by omega⟩ g1) (gs (tg3 17 rfl rfl) (tg3 18 rfl rfl) (tg1 0 rfl rfl) (tg3 19 rfl rfl)) (by decide +kernel) ⟨Nat.le_of_ble_eq_true rfl, Nat.le_of_ble_eq_true rfl⟩ rfl rfl (Nat.le_of_ble_eq_true rfl) dL_build_195 ⟨(by show 60 + 10 * (1 + nb) + 0 ≤ 600; omega), (by show 500 + 100 * (1 + nb) + 0 ≤ 6000; omega)⟩ (fun r195 gg195 hp195 => ?_)
  obtain ⟨hr195, hgg195⟩ := hp195
  rw [hr195, hgg195]
  have bpb : bwN r191 4 < 4 := bwN_lt _ (by omega)
  generalize bwN r191 4 = pb at bpb ⊢
  refine v_iadd (C.wl _ _) dL_build_198 ?_
  refine v_topi (y := nI (1 + pb)) (by rw [show (1 : Int32) = nI 1 from rfl, nI_add]) ?_
  refine v_istore (lo' := [some (.ref (ad1 30)), some (.ref S.1), some (.ref (ad1 600)), some (.int (nI (1 + nb))), some (.int (nI (1 + pb))), v5, v6, v7, v8, v9, v10, v11]) (C.wl _ _) dL_build_199 (Nat.le_of_ble_eq_true rfl) rfl rfl ?_
  refine v_iconst (v := 0) (C.wl _ _) dL_build_201 (by decide) ?_
  refine v_istore (lo' := [some (.ref (ad1 30)), some (.ref S.1), some (.ref (ad1 600)), some (.int (nI (1 + nb))), some (.int (nI (1 + pb))), some (.int 0), v6, v7, v8, v9, v10, v11]) (C.wl _ _) dL_build_202 (Nat.le_of_ble_eq_true rfl) rfl rfl ?_
  refine v_lo (lo' := [some (.ref (ad1 30)), some (.ref S.1), some (.ref (ad1 600)), some (.int (nI (1 + nb))), some (.int (nI (1 + pb))), some (.int (nI 0)), v6, v7, v8, v9, v10, v11]) rfl ?_
  refine v_wide (k := 110 + 50 * 0) (n := 1000 + 700 * 0) (by show 60 + 10 * (1 + nb) ≤ 110 + 50 * 0; omega) (by show 500 + 100 * (1 + nb) ≤ 1000 + 700 * 0; omega) ?_
  refine build_P (ad0 := ad) hP9 C hW9 hC (n := 1 + nb) (np := 1 + pb) (by omega) (fun ad2 m2 t2 g2 N2 v6 v7 v8 v9 v10 v11 hA2 hN2 hE2 hR2 hF2 hRl2 hnf2 hnp2 h92 => ?_) _ 0 ad1 m1 t1 g1 N1 _ _ _ _ _ _ (Nat.lt_succ_self _) (Nat.zero_le _) hA1 (by omega) hE1 hR1 hF1 hRl1 (by omega) hnp1 h91
  refine v_iconst (v := 0) (C.wl _ _) dL_build_381 (by decide) ?_
  refine v_istore (lo' := [some (.ref (ad2 30)), some (.ref S.1), some (.ref (ad2 600)), some (.int (nI (1 + nb))), some (.int (nI (1 + pb))), some (.int 0), v6, v7, v8, v9, v10, v11]) (C.wl _ _) dL_build_382 (Nat.le_of_ble_eq_true rfl) rfl rfl ?_
  refine v_lo (lo' := [some (.ref (ad2 30)), some (.ref S.1), some (.ref (ad2 600)), some (.int (nI (1 + nb))), some (.int (nI (1 + pb))), some (.int (nI 0)), v6, v7, v8, v9, v10, v11]) rfl ?_
  refine v_wide (k := 310 + 0) (n := 3800 + 6 * 0) (by show 110 + 50 * (1 + pb) ≤ 310 + 0; omega) (by show 1000 + 700 * (1 + pb) ≤ 3800 + 6 * 0; omega) ?_
  exact build_O (ad0 := ad) hP9 C hW9 hC ret9 _ 0 ad2 m2 t2 g2 N2 _ _ _ _ _ _ (Nat.lt_succ_self _) (Nat.zero_le _) hA2 (by omega) hE2 hR2 hF2 hRl2 hnf2 (by omega) (fun q _ h => h92 q h)
