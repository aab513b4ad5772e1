/-! THE LAW'S SHOP against the class: isSame -/
set_option maxRecDepth 100000 in
theorem l_isSame (l : Launch) (hl9 : l.stackTraces = false) (Z : Zc) (ad : Nat → Nat) (s m g : MG) (hI : IvM s) (hF9 : IvF s) (hZ9 : IvZ s) (hE9 : IvE s) (hR0 : SimR s m) (hF0 : Fr m 900) (hRl : Rl s g) : LMi l yX5_isSame cX5_isSame 11 (some .boolean) (rmz 10 330 400 2400) Z [.ref (ad 600), .ref (ad 30)] ad m g (fun r ad' m' g' => r = 1) := by
  have hf5 := (IvM_nf hI).1
  have hp6 := (IvM_np hI).1
  refine ent_lz (own := RX5) (lo := [some (.ref (ad 600)), some (.ref (ad 30)), none, none, none, none, none, none, none, none, none]) (by decide) rfl (by simp [lg_sl, Value.category]) rfl (fun P hl C hW9 ret => ?_)
  have hP9 : P.2.1.stackTraces = false := by rw [hl]; exact hl9
  have hR2 := hR0
  have hR := hR0
  refine v_bipush (v := 7) (C.wl _ _) dX5_isSame_0 (by decide) ?_
  refine l_newi (T := 900) (N := 7) C hF0 (by omega) (by decide) dX5_isSame_2 (Nat.le_of_ble_eq_true rfl) (Nat.le_of_ble_eq_true rfl) (fun ad2 hA2 => ?_)
  have hF2 := hF0.new (by omega) (rN_R (kd := 1) (n := 7) (by omega) (by decide) (by omega))
  refine v_lo (lo' := [some (.ref (ad2 600)), some (.ref (ad2 30)), none, none, none, none, none, none, none, none, none]) (by rw [hA2 600 (by omega), hA2 30 (by omega)]) ?_
  have hD0 : RwI 900 m (rwr m 900 (rN 1 7)) 7 (fun _ => 0) := RwI.new (by decide)
  generalize rwr m 900 (rN 1 7) = w4 at hD0 ⊢
  have hR := hR2.low hI (fun k k1 k2 => hD0.1 k (by omega))
  refine v_dup (C.wl _ _) dX5_isSame_4 rfl ?_
  refine v_iconst (v := 0) (C.wl _ _) dX5_isSame_5 (by decide) ?_
  refine v_aload_n (C.wl _ _) dX5_isSame_6 rfl rfl ?_
  refine l_get (k := 600) C inG5 (ci := 6) rfl 2 (by decide) (tg5 5 rfl rfl) rfl ⟨by decide, by decide⟩ (cW_6 hR.1.1) (sm_r (by decide) hR.1.2.2.2.1 ⟨by decide, by decide⟩) dX5_isSame_7 ?_
  refine l_len (k := 601) (n := nfO s) C ⟨by decide, by decide⟩ (Or.inl hR.2.1.1.1.1) hR.2.1.1.1.2 (by omega) dX5_isSame_10 ?_
  refine l_iast (k := 900) (n := 7) (a := 0) C ⟨by decide, by decide⟩ hD0.2.1.1 hD0.2.1.2 (by decide) dX5_isSame_11 ?_
  have hDw12 := hD0.w (by decide) (a := 0) (x := nI (nfO s)) (by decide)
  generalize wr w4 900 0 (nI (nfO s)) = w12 at hDw12 ⊢
  have hR := hR2.low hI (fun k k1 k2 => hDw12.1 k (by omega))
  refine v_dup (C.wl _ _) dX5_isSame_12 rfl ?_
  refine v_iconst (v := 1) (C.wl _ _) dX5_isSame_13 (by decide) ?_
  refine v_aload_n (C.wl _ _) dX5_isSame_14 rfl rfl ?_
  refine l_get (k := 600) C inG5 (ci := 6) rfl 6 (by decide) (tg5 13 rfl rfl) rfl ⟨by decide, by decide⟩ (cW_6 hR.1.1) (sm_r (by decide) hR.1.2.2.2.2.2.2.2 ⟨by decide, by decide⟩) dX5_isSame_15 ?_
  refine l_len (k := 605) (n := npO s) C ⟨by decide, by decide⟩ (Or.inr (Or.inr (Or.inr hR.2.2.2.2.2.1.1.1))) hR.2.2.2.2.2.1.1.2 (by omega) dX5_isSame_18 ?_
  refine l_iast (k := 900) (n := 7) (a := 1) C ⟨by decide, by decide⟩ hDw12.2.1.1 hDw12.2.1.2 (by decide) dX5_isSame_19 ?_
  have hDw20 := hDw12.w (by decide) (a := 1) (x := nI (npO s)) (by decide)
  generalize wr w12 900 1 (nI (npO s)) = w20 at hDw20 ⊢
  have hR := hR2.low hI (fun k k1 k2 => hDw20.1 k (by omega))
  refine v_dup (C.wl _ _) dX5_isSame_20 rfl ?_
  refine v_iconst (v := 2) (C.wl _ _) dX5_isSame_21 (by decide) ?_
  refine v_iconst (v := 0) (C.wl _ _) dX5_isSame_22 (by decide) ?_
  refine l_iast (k := 900) (n := 7) (a := 2) C ⟨by decide, by decide⟩ hDw20.2.1.1 hDw20.2.1.2 (by decide) dX5_isSame_23 ?_
  have hDw24 := hDw20.w (by decide) (a := 2) (x := 0) (by decide)
  generalize wr w20 900 2 0 = w24 at hDw24 ⊢
  have hR := hR2.low hI (fun k k1 k2 => hDw24.1 k (by omega))
  refine v_dup (C.wl _ _) dX5_isSame_24 rfl ?_
  refine v_iconst (v := 3) (C.wl _ _) dX5_isSame_25 (by decide) ?_
  refine v_aload_n (C.wl _ _) dX5_isSame_26 rfl rfl ?_
  refine l_get (k := 600) C inG5 (ci := 6) rfl 0 (by decide) (tg5 3 rfl rfl) rfl ⟨by decide, by decide⟩ (cW_6 hR.1.1) rfl dX5_isSame_27 ?_
  refine v_topi (y := s 0 3) hR.1.2.1 ?_
  refine l_iast (k := 900) (n := 7) (a := 3) C ⟨by decide, by decide⟩ hDw24.2.1.1 hDw24.2.1.2 (by decide) dX5_isSame_30 ?_
  have hDw31 := hDw24.w (by decide) (a := 3) (x := s 0 3) (by decide)
  generalize wr w24 900 3 (s 0 3) = w31 at hDw31 ⊢
  have hR := hR2.low hI (fun k k1 k2 => hDw31.1 k (by omega))
  refine v_dup (C.wl _ _) dX5_isSame_31 rfl ?_
  refine v_iconst (v := 4) (C.wl _ _) dX5_isSame_32 (by decide) ?_
  refine v_aload_n (C.wl _ _) dX5_isSame_33 rfl rfl ?_
  refine l_get (k := 600) C inG5 (ci := 6) rfl 1 (by decide) (tg5 4 rfl rfl) rfl ⟨by decide, by decide⟩ (cW_6 hR.1.1) rfl dX5_isSame_34 ?_
  refine v_topi (y := s 0 4) hR.1.2.2.1 ?_
  refine l_iast (k := 900) (n := 7) (a := 4) C ⟨by decide, by decide⟩ hDw31.2.1.1 hDw31.2.1.2 (by decide) dX5_isSame_37 ?_
  have hDw38 := hDw31.w (by decide) (a := 4) (x := s 0 4) (by decide)
  generalize wr w31 900 4 (s 0 4) = w38 at hDw38 ⊢
  have hR := hR2.low hI (fun k k1 k2 => hDw38.1 k (by omega))
  refine v_dup (C.wl _ _) dX5_isSame_38 rfl ?_
  refine v_iconst (v := 5) (C.wl _ _) dX5_isSame_39 (by decide) ?_
  refine v_iconst (v := 0) (C.wl _ _) dX5_isSame_40 (by decide) ?_
  refine l_iast (k := 900) (n := 7) (a := 5) C ⟨by decide, by decide⟩ hDw38.2.1.1 hDw38.2.1.2 (by decide) dX5_isSame_41 ?_
  have hDw42 := hDw38.w (by decide) (a := 5) (x := 0) (by decide)
  generalize wr w38 900 5 0 = w42 at hDw42 ⊢
  have hR := hR2.low hI (fun k k1 k2 => hDw42.1 k (by omega))
  refine v_dup (C.wl _ _) dX5_isSame_42 rfl ?_
  refine v_bipush (v := 6) (C.wl _ _) dX5_isSame_43 (by decide) ?_
  refine v_iconst (v := 0) (C.wl _ _) dX5_isSame_45 (by decide) ?_
  refine l_iast (k := 900) (n := 7) (a := 6) C ⟨by decide, by decide⟩ hDw42.2.1.1 hDw42.2.1.2 (by decide) dX5_isSame_46 ?_
  have hDw47 := hDw42.w (by decide) (a := 6) (x := 0) (by decide)
  generalize wr w42 900 6 0 = w47 at hDw47 ⊢
  have hR := hR2.low hI (fun k k1 k2 => hDw47.1 k (by omega))
  refine v_astore_n (lo' := [some (.ref (ad2 600)), some (.ref (ad2 30)), some (.ref (ad2 900)), none, none, none, none, none, none, none, none]) (C.wl _ _) dX5_isSame_47 rfl (Nat.le_of_ble_eq_true rfl) rfl rfl ?_
  refine v_iconst (v := 0) (C.wl _ _) dX5_isSame_48 (by decide) ?_
  refine v_istore_n (lo' := [some (.ref (ad2 600)), some (.ref (ad2 30)), some (.ref (ad2 900)), some (.int 0), none, none, none, none, none, none, none]) (C.wl _ _) dX5_isSame_49 rfl (Nat.le_of_ble_eq_true rfl) rfl rfl ?_
  refine v_iconst (v := 0) (C.wl _ _) dX5_isSame_50 (by decide) ?_
  refine v_istore (lo' := [some (.ref (ad2 600)), some (.ref (ad2 30)), some (.ref (ad2 900)), some (.int 0), some (.int 0), none, none, none, none, none, none]) (C.wl _ _) dX5_isSame_51 (Nat.le_of_ble_eq_true rfl) rfl rfl ?_
  refine v_iconst (v := 0) (C.wl _ _) dX5_isSame_53 (by decide) ?_
  refine v_istore (lo' := [some (.ref (ad2 600)), some (.ref (ad2 30)), some (.ref (ad2 900)), some (.int 0), some (.int 0), some (.int 0), none, none, none, none, none]) (C.wl _ _) dX5_isSame_54 (Nat.le_of_ble_eq_true rfl) rfl rfl ?_
  refine v_lo (lo' := [some (.ref (ad2 600)), some (.ref (ad2 30)), some (.ref (ad2 900)), some (.int 0), some (.int 0), some (.int (nI 0)), none, none, none, none, none]) rfl ?_
  have hC : CtI m w47 7 (cT s (10 * 0) 0) := ⟨hDw47.1, hDw47.2.1, fun j hj => (hDw47.2.2 j hj).trans (by rcases j with _ | _ | _ | _ | _ | _ | _ | j <;> first | rfl | omega)⟩
  refine v_wide (k := 1 + 30 * 0) (n := 7 + 180 * 0) (Nat.le_of_ble_eq_true rfl) (Nat.le_of_ble_eq_true rfl) ?_
  refine same_B hP9 C hW9 hI hF9 hZ9 hR0 (fun m1 g1 v6 v7 hC1 hRl1 => ?_) _ 0 _ g none none (Nat.lt_succ_self _) (Nat.zero_le _) hC hRl
  refine v_wide (k := 151 + 29 * 0) (n := 907 + 168 * 0) (by show 1 + 30 * nfO s ≤ 151 + 29 * 0; omega) (by show 7 + 180 * nfO s ≤ 907 + 168 * 0; omega) ?_
  refine v_iconst (v := 0) (C.wl _ _) dX5_isSame_176 (by decide) ?_
  refine v_istore (lo' := [some (.ref (ad2 600)), some (.ref (ad2 30)), some (.ref (ad2 900)), some (.int 0), some (.int 0), some (.int 0), v6, v7, none, none, none]) (C.wl _ _) dX5_isSame_177 (Nat.le_of_ble_eq_true rfl) rfl rfl ?_
  refine v_lo (lo' := [some (.ref (ad2 600)), some (.ref (ad2 30)), some (.ref (ad2 900)), some (.int 0), some (.int 0), some (.int (nI 0)), v6, v7, none, none, none]) rfl ?_
  refine same_P hP9 C hW9 hI hF9 hE9 hR0 hF0 (10 * nfO s) (fun m2 g2 v6 v7 v8 v9 v10 hC2 hRl2 => ?_) _ 0 m1 g1 _ _ _ _ _ (Nat.lt_succ_self _) (Nat.zero_le _) hC1 hRl1
  refine v_wide (k := 330) (n := 1920) (by show 151 + 29 * npO s ≤ 330; omega) (by show 907 + 168 * npO s ≤ 1920; omega) ?_
  refine v_iconst (v := 0) (C.wl _ _) dX5_isSame_502 (by decide) ?_
  refine v_istore (lo' := [some (.ref (ad2 600)), some (.ref (ad2 30)), some (.ref (ad2 900)), some (.int (sumI (alO s) (npO s))), some (.int (sumI (fun q => flO s q (nlO s q)) (npO s))), some (.int 0), v6, v7, v8, v9, v10]) (C.wl _ _) dX5_isSame_503 (Nat.le_of_ble_eq_true rfl) rfl rfl ?_
  refine v_lo (lo' := [some (.ref (ad2 600)), some (.ref (ad2 30)), some (.ref (ad2 900)), some (.int (sumI (alO s) (npO s))), some (.int (sumI (fun q => flO s q (nlO s q)) (npO s))), some (.int (nI 0)), v6, v7, v8, v9, v10]) rfl ?_
  have inn : ∀ (n2 k : Nat) (g1 : MG), 7 - k < n2 → k ≤ 7 → Rl s g1 → V P (rmz 10 330 400 2400) (Z.wl ad2 m2) [some (.ref (ad2 600)), some (.ref (ad2 30)), some (.ref (ad2 900)), some (.int (sumI (alO s) (npO s))), some (.int (sumI (fun q => flO s q (nlO s q)) (npO s))), some (.int (nI k)), v6, v7, v8, v9, v10] 505 [] g1 (330 + k) (1920 + 6 * k) := by
    intro n2
    induction n2 with
    | zero => intro k g1 hn; exact absurd hn (Nat.not_lt_zero _)
    | succ n2 ih2 =>
      intro k g1 hn2 hk hRl
      refine v_iload (C.wl _ _) dX5_isSame_505 rfl ?_
      refine v_bipush (v := 7) (C.wl _ _) dX5_isSame_507 (by decide) ?_
      refine v_icmp_ge (tgt := 533) (C.wl _ _) dX5_isSame_509 (by decide) (fun h509 => ?_) (fun h509 => ?_)
      · have hke : k = 7 := Nat.le_antisymm hk ((nI_leI (a := 7) (by decide) (by omega)).mp h509)
        subst hke
        refine v_aload_n (C.wl _ _) dX5_isSame_533 rfl rfl ?_
        refine v_callVd (n := 0) (k := 30) (as := []) (C.wl _ _) (m_mean _ (Z.wl ad2 m2) s g1 hI hF9 hRl) (gv (tg3 16 rfl rfl) (tg2 131 rfl rfl) (tg2 132 rfl rfl) (tg1 1 rfl rfl) (tg2 133 rfl rfl)) (by decide +kernel) ⟨Nat.le_of_ble_eq_true rfl, Nat.le_of_ble_eq_true rfl⟩ rfl cx_T rfl rfl (Nat.le_of_ble_eq_true rfl) dX5_isSame_534 ⟨(by show 330 + 7 + 0 ≤ 400; omega), (by show 1920 + 6 * 7 + 0 ≤ 2400; omega)⟩ (fun r534 gg534 hp534 => ?_)
        obtain ⟨hr534, hg534⟩ := hp534
        rw [hg534, hr534]
        refine v_iload_n (C.wl _ _) dX5_isSame_537 rfl rfl ?_
        have J538 : V P (rmz 10 330 400 2400) (Z.wl ad2 m2) [some (.ref (ad2 600)), some (.ref (ad2 30)), some (.ref (ad2 900)), some (.int (sumI (alO s) (npO s))), some (.int (sumI (fun q => flO s q (nlO s q)) (npO s))), some (.int (nI 7)), v6, v7, v8, v9, v10] 551 [.double (anMean s), .double (anMean s)] g1 (330 + 7 + 0) (1920 + 6 * 7 + 0) := by
          refine v_dcmp (C.wl _ _) dX5_isSame_551 ?_
          refine v_topi (y := 0) (dcmp_self (mean_n64 hI)) ?_
          refine v_if_ne (tgt := 559) (C.wl _ _) dX5_isSame_552 (by decide) (fun h552 => absurd rfl h552) (fun h552 => ?_)
          refine v_iconst (v := 1) (C.wl _ _) dX5_isSame_555 (by decide) ?_
          refine v_goto (tgt := 560) (C.wl _ _) dX5_isSame_556 (by decide) ?_
          refine v_wide (k := 400) (n := 2400) (Nat.le_of_ble_eq_true rfl) (Nat.le_of_ble_eq_true rfl) ?_
          exact ret _ _ _ _ _ _ dX5_isSame_560 (Or.inr rfl) rfl
        refine v_if_ne (tgt := 545) (C.wl _ _) dX5_isSame_538 (by decide) (fun h538 => ?_) (fun h538 => ?_)
        · refine v_iload (C.wl _ _) dX5_isSame_545 rfl ?_
          refine v_i2d (C.wl _ _) dX5_isSame_547 ?_
          refine v_iload_n (C.wl _ _) dX5_isSame_548 rfl rfl ?_
          refine v_i2d (C.wl _ _) dX5_isSame_549 ?_
          refine v_ddiv (C.wl _ _) dX5_isSame_550 (n64_div _ _ (al_div hI h538)) ?_
          refine v_st (st' := [.double (anMean s), .double (anMean s)]) (by rw [show FP.ddiv (FP.i2d (sumI (fun q => flO s q (nlO s q)) (npO s))) (FP.i2d (sumI (alO s) (npO s))) = anMean s by unfold anMean; rw [if_neg h538]]) ?_
          exact J538
        · refine v_dconst0 (C.wl _ _) dX5_isSame_541 ?_
          refine v_goto (tgt := 551) (C.wl _ _) dX5_isSame_542 (by decide) ?_
          refine v_st (st' := [.double (anMean s), .double (anMean s)]) (by rw [show FP.dconst0 = anMean s by unfold anMean; rw [if_pos h538]]) ?_
          exact J538
      · have hkk : k < 7 := Nat.lt_of_not_le fun q => h509 ((nI_leI (a := 7) (by decide) (by omega)).mpr q)
        refine v_aload_n (C.wl _ _) dX5_isSame_512 rfl rfl ?_
        refine v_iload (C.wl _ _) dX5_isSame_513 rfl ?_
        refine v_callX (n := 1) (k := 30) (as := [.int (nI k)]) (C.wl _ _) hW9.S (x_count _ hP9 (Z.wl ad2 m2) (nI k) s g1 hI hZ9 hRl) (gv (tg3 15 rfl rfl) (tg2 89 rfl rfl) (tg2 90 rfl rfl) (tg1 1 rfl rfl) (tg2 91 rfl rfl)) (by decide +kernel) ⟨Nat.le_of_ble_eq_true rfl, Nat.le_of_ble_eq_true rfl⟩ rfl cx_T rfl rfl (Nat.le_of_ble_eq_true rfl) dX5_isSame_515 ⟨(by show 330 + k + 1 ≤ 400; omega), (by show 1920 + 6 * k + 6 ≤ 2400; omega)⟩ (fun E q g515 hp515 => absurd (cdC_0 hkk) hp515.1) (fun r515 g515 hp515 => ?_)
        obtain ⟨-, hr515, hRl515, hK515⟩ := hp515
        refine v_topi (y := cT s (10 * nfO s) (npO s) k) (hr515.trans (by rw [iz_nI (by omega)]; exact ct_eq hI hZ9 hkk)) ?_
        refine v_aload_n (C.wl _ _) dX5_isSame_518 rfl rfl ?_
        refine v_iload (C.wl _ _) dX5_isSame_519 rfl ?_
        refine l_iald (k := 900) (n := 7) (a := k) C ⟨by decide, by decide⟩ hC2.2.1.1 hC2.2.1.2 ⟨hkk, by decide⟩ dX5_isSame_521 ?_
        refine v_topi (y := cT s (10 * nfO s) (npO s) k) (hC2.2.2 k hkk) ?_
        refine v_icmp_eq (tgt := 527) (C.wl _ _) dX5_isSame_522 (by decide) (fun h522 => ?_) (fun h522 => ?_)
        · refine v_iinc (lo' := [some (.ref (ad2 600)), some (.ref (ad2 30)), some (.ref (ad2 900)), some (.int (sumI (alO s) (npO s))), some (.int (sumI (fun q => flO s q (nlO s q)) (npO s))), some (.int ((nI k) + 1)), v6, v7, v8, v9, v10]) (C.wl _ _) dX5_isSame_527 rfl rfl rfl rfl ?_
          refine v_goto (tgt := 505) (C.wl _ _) dX5_isSame_530 (by decide) ?_
          refine v_lo (lo' := [some (.ref (ad2 600)), some (.ref (ad2 30)), some (.ref (ad2 900)), some (.int (sumI (alO s) (npO s))), some (.int (sumI (fun q => flO s q (nlO s q)) (npO s))), some (.int (nI (k + 1))), v6, v7, v8, v9, v10]) (by rw [nI_succ k]) ?_
          refine v_wide (k := 330 + (k + 1)) (n := 1920 + 6 * (k + 1)) (by show 330 + k + 1 ≤ 330 + (k + 1); omega) (by show 1920 + 6 * k + 6 ≤ 1920 + 6 * (k + 1); omega) ?_
          exact ih2 (k + 1) g515 (by omega) (by omega) hRl515
        · exact absurd rfl h522
  exact inn _ 0 g2 (Nat.lt_succ_self _) (Nat.zero_le _) hRl2
