/-! THE LAW'S SHOP against the class: a poster's lines -/
set_option maxRecDepth 100000 in
theorem same_L {P : Pm} {Z : Zc} {ad : Nat → Nat} {s m2 : MG} (hP9 : P.2.1.stackTraces = false) (C : Cx P Z cX5_isSame RX5) (hW9 : CxW P Z) (hI : IvM s) (hF9 : IvF s) (hE9 : IvE s) (hR2 : SimR s m2) (hF : Fr m2 902) (p : Nat) (hp : p < npO s) (c0 s0 : Nat) (hc0 : c0 + 20 ≤ 400 ∧ s0 + 112 ≤ 2400) (v3 v4 : Int32)
    (K : ∀ (g1 : MG) (v9 v10 : Option Value), Rl s g1 → V P (rmz 10 330 400 2400) (Z.wl ad m2) [some (.ref (ad 600)), some (.ref (ad 30)), some (.ref (ad 900)), some (.int v3), some (.int v4), some (.int (nI p)), some (.ref (ad (700 + 20 * p))), some (.ref (ad 901)), some (.int (nI (nlO s p))), v9, v10] 458 [] g1 (c0 + 5 * nlO s p) (s0 + 28 * nlO s p))
    : ∀ (n i : Nat) (g1 : MG) (v9 v10 : Option Value), nlO s p - i < n → i ≤ nlO s p → Rl s g1 → V P (rmz 10 330 400 2400) (Z.wl ad m2) [some (.ref (ad 600)), some (.ref (ad 30)), some (.ref (ad 900)), some (.int v3), some (.int v4), some (.int (nI p)), some (.ref (ad (700 + 20 * p))), some (.ref (ad 901)), some (.int (nI i)), v9, v10] 317 [] g1 (c0 + 5 * i) (s0 + 28 * i) := by
  have hf5 := (IvM_nf hI).1
  have hp6 := (IvM_np hI).1
  have h4 := (IvM_nl hI (show p < 6 by omega)).2
  obtain ⟨hPF, hPL, hPX⟩ := hR2.L hp
  intro n
  induction n with
  | zero => intro i g1 v9 v10 hn; exact absurd hn (Nat.not_lt_zero _)
  | succ n ih =>
    intro i g1 v9 v10 hn hi hRl
    refine v_iload (C.wl _ _) dX5_isSame_317 rfl ?_
    refine v_aload (C.wl _ _) dX5_isSame_319 rfl ?_
    refine l_get (k := 700 + 20 * p) C inG4 (ci := 5) rfl 2 (by decide) (tg2 183 rfl rfl) rfl ⟨by omega, by omega⟩ (cW_5 hPF.1) (ps_r (by decide) hPF.2.2.2.1 ⟨by omega, by omega⟩) dX5_isSame_321 ?_
    refine l_len (k := 701 + 20 * p) (n := nlO s p) C ⟨by omega, by omega⟩ (Or.inr (Or.inl hPL.1.1)) hPL.1.2 (by omega) dX5_isSame_324 ?_
    refine v_icmp_ge (tgt := 458) (C.wl _ _) dX5_isSame_325 (by decide) (fun h325 => ?_) (fun h325 => ?_)
    · have hie : i = nlO s p := Nat.le_antisymm hi ((nI_leI (by omega) (by omega)).mp h325)
      subst hie
      exact K g1 v9 v10 hRl
    · have hii : i < nlO s p := Nat.lt_of_not_le fun q => h325 ((nI_leI (by omega) (by omega)).mpr q)
      refine v_iconst (v := 4) (C.wl _ _) dX5_isSame_328 (by decide) ?_
      refine l_newi (T := 902) (N := 4) C hF (by omega) (by decide) dX5_isSame_329 (by show c0 + 5 * i + 1 ≤ 400; omega) (by show s0 + 28 * i + 4 ≤ 2400; omega) (fun ad329 hA329 => ?_)
      have hF329 := hF.new (by omega) (rN_R (kd := 1) (n := 4) (by omega) (by decide) (by omega))
      refine v_lo (lo' := [some (.ref (ad329 600)), some (.ref (ad329 30)), some (.ref (ad329 900)), some (.int v3), some (.int v4), some (.int (nI p)), some (.ref (ad329 (700 + 20 * p))), some (.ref (ad329 901)), some (.int (nI i)), v9, v10]) (by rw [hA329 600 (by omega), hA329 30 (by omega), hA329 900 (by omega), hA329 (700 + 20 * p) (by omega), hA329 901 (by omega)]) ?_
      have hE0 : RwI 902 m2 (rwr m2 902 (rN 1 4)) 4 (fun _ => 0) := RwI.new (by decide)
      generalize rwr m2 902 (rN 1 4) = w331 at hE0 ⊢
      have hR := hR2.low hI (fun k k1 k2 => hE0.1 k (by omega))
      obtain ⟨hPF, hPL, hPX⟩ := hR.L hp
      refine v_dup (C.wl _ _) dX5_isSame_331 rfl ?_
      refine v_iconst (v := 0) (C.wl _ _) dX5_isSame_332 (by decide) ?_
      refine v_aload (C.wl _ _) dX5_isSame_333 rfl ?_
      refine l_get (k := 700 + 20 * p) C inG4 (ci := 5) rfl 2 (by decide) (tg2 183 rfl rfl) rfl ⟨by omega, by omega⟩ (cW_5 hPF.1) (ps_r (by decide) hPF.2.2.2.1 ⟨by omega, by omega⟩) dX5_isSame_335 ?_
      refine v_iload (C.wl _ _) dX5_isSame_338 rfl ?_
      refine l_aald (k := 701 + 20 * p) (n := nlO s p) (a := i) (k2 := 705 + 20 * p + i) C ⟨by omega, by omega⟩ (Or.inl hPL.1.1) hPL.1.2 ⟨hii, by omega⟩ (hPL.2 _ hii).1 ⟨by omega, by omega⟩ dX5_isSame_340 ?_
      refine l_len (k := 705 + 20 * p + i) (n := szw (wdO s (4 * p + i))) C ⟨by omega, by omega⟩ (Or.inl (hPL.2 _ hii).2.1.1) (hPL.2 _ hii).2.1.2 (by have := @szw_le (wdO s (4 * p + i)); omega) dX5_isSame_341 ?_
      refine v_topi (y := ltoO s p i (nI 0)) lto_0 ?_
      refine l_iast (k := 902) (n := 4) (a := 0) C ⟨by omega, by omega⟩ hE0.2.1.1 hE0.2.1.2 (by decide) dX5_isSame_342 ?_
      have hEw343 := hE0.w (by decide) (a := 0) (x := ltoO s p i (nI 0)) (by decide)
      generalize wr w331 902 0 (ltoO s p i (nI 0)) = w343 at hEw343 ⊢
      have hR := hR2.low hI (fun k k1 k2 => hEw343.1 k (by omega))
      obtain ⟨hPF, hPL, hPX⟩ := hR.L hp
      refine v_dup (C.wl _ _) dX5_isSame_343 rfl ?_
      refine v_iconst (v := 1) (C.wl _ _) dX5_isSame_344 (by decide) ?_
      refine v_aload (C.wl _ _) dX5_isSame_345 rfl ?_
      refine l_get (k := 700 + 20 * p) C inG4 (ci := 5) rfl 3 (by decide) (tg2 186 rfl rfl) rfl ⟨by omega, by omega⟩ (cW_5 hPF.1) rfl dX5_isSame_347 ?_
      refine v_topi (y := s 15 p) hPF.2.2.2.2.1 ?_
      have J350 : V P (rmz 10 330 400 2400) (Z.wl ad329 w343) [some (.ref (ad329 600)), some (.ref (ad329 30)), some (.ref (ad329 900)), some (.int v3), some (.int v4), some (.int (nI p)), some (.ref (ad329 (700 + 20 * p))), some (.ref (ad329 901)), some (.int (nI i)), v9, v10] 365 [.int (ltoO s p i (nI 1)), .int 1, .ref (ad329 902), .ref (ad329 902)] g1 (c0 + 5 * i + 1) (s0 + 28 * i + 4) := by
        refine l_iast (k := 902) (n := 4) (a := 1) C ⟨by omega, by omega⟩ hEw343.2.1.1 hEw343.2.1.2 (by decide) dX5_isSame_365 ?_
        have hEw366 := hEw343.w (by decide) (a := 1) (x := ltoO s p i (nI 1)) (by decide)
        generalize wr w343 902 1 (ltoO s p i (nI 1)) = w366 at hEw366 ⊢
        have hR := hR2.low hI (fun k k1 k2 => hEw366.1 k (by omega))
        obtain ⟨hPF, hPL, hPX⟩ := hR.L hp
        refine v_dup (C.wl _ _) dX5_isSame_366 rfl ?_
        refine v_iconst (v := 2) (C.wl _ _) dX5_isSame_367 (by decide) ?_
        refine v_aload (C.wl _ _) dX5_isSame_368 rfl ?_
        refine l_get (k := 700 + 20 * p) C inG4 (ci := 5) rfl 3 (by decide) (tg2 186 rfl rfl) rfl ⟨by omega, by omega⟩ (cW_5 hPF.1) rfl dX5_isSame_370 ?_
        refine v_topi (y := s 15 p) hPF.2.2.2.2.1 ?_
        have J373 : V P (rmz 10 330 400 2400) (Z.wl ad329 w366) [some (.ref (ad329 600)), some (.ref (ad329 30)), some (.ref (ad329 900)), some (.int v3), some (.int v4), some (.int (nI p)), some (.ref (ad329 (700 + 20 * p))), some (.ref (ad329 901)), some (.int (nI i)), v9, v10] 388 [.int (ltoO s p i (nI 2)), .int 2, .ref (ad329 902), .ref (ad329 902)] g1 (c0 + 5 * i + 1) (s0 + 28 * i + 4) := by
          refine l_iast (k := 902) (n := 4) (a := 2) C ⟨by omega, by omega⟩ hEw366.2.1.1 hEw366.2.1.2 (by decide) dX5_isSame_388 ?_
          have hEw389 := hEw366.w (by decide) (a := 2) (x := ltoO s p i (nI 2)) (by decide)
          generalize wr w366 902 2 (ltoO s p i (nI 2)) = w389 at hEw389 ⊢
          have hR := hR2.low hI (fun k k1 k2 => hEw389.1 k (by omega))
          obtain ⟨hPF, hPL, hPX⟩ := hR.L hp
          refine v_dup (C.wl _ _) dX5_isSame_389 rfl ?_
          refine v_iconst (v := 3) (C.wl _ _) dX5_isSame_390 (by decide) ?_
          refine v_aload (C.wl _ _) dX5_isSame_391 rfl ?_
          refine l_get (k := 700 + 20 * p) C inG4 (ci := 5) rfl 3 (by decide) (tg2 186 rfl rfl) rfl ⟨by omega, by omega⟩ (cW_5 hPF.1) rfl dX5_isSame_393 ?_
          refine v_topi (y := s 15 p) hPF.2.2.2.2.1 ?_
          have J396 : V P (rmz 10 330 400 2400) (Z.wl ad329 w389) [some (.ref (ad329 600)), some (.ref (ad329 30)), some (.ref (ad329 900)), some (.int v3), some (.int v4), some (.int (nI p)), some (.ref (ad329 (700 + 20 * p))), some (.ref (ad329 901)), some (.int (nI i)), v9, v10] 414 [.int (ltoO s p i (nI 3)), .int 3, .ref (ad329 902), .ref (ad329 902)] g1 (c0 + 5 * i + 1) (s0 + 28 * i + 4) := by
            refine l_iast (k := 902) (n := 4) (a := 3) C ⟨by omega, by omega⟩ hEw389.2.1.1 hEw389.2.1.2 (by decide) dX5_isSame_414 ?_
            have hEw415 := hEw389.w (by decide) (a := 3) (x := ltoO s p i (nI 3)) (by decide)
            generalize wr w389 902 3 (ltoO s p i (nI 3)) = w415 at hEw415 ⊢
            have hR := hR2.low hI (fun k k1 k2 => hEw415.1 k (by omega))
            obtain ⟨hPF, hPL, hPX⟩ := hR.L hp
            refine v_astore (lo' := [some (.ref (ad329 600)), some (.ref (ad329 30)), some (.ref (ad329 900)), some (.int v3), some (.int v4), some (.int (nI p)), some (.ref (ad329 (700 + 20 * p))), some (.ref (ad329 901)), some (.int (nI i)), some (.ref (ad329 902)), v10]) (C.wl _ _) dX5_isSame_415 (Nat.le_of_ble_eq_true rfl) rfl rfl ?_
            refine v_iconst (v := 0) (C.wl _ _) dX5_isSame_417 (by decide) ?_
            refine v_istore (lo' := [some (.ref (ad329 600)), some (.ref (ad329 30)), some (.ref (ad329 900)), some (.int v3), some (.int v4), some (.int (nI p)), some (.ref (ad329 (700 + 20 * p))), some (.ref (ad329 901)), some (.int (nI i)), some (.ref (ad329 902)), some (.int 0)]) (C.wl _ _) dX5_isSame_418 (Nat.le_of_ble_eq_true rfl) rfl rfl ?_
            refine v_lo (lo' := [some (.ref (ad329 600)), some (.ref (ad329 30)), some (.ref (ad329 900)), some (.int v3), some (.int v4), some (.int (nI p)), some (.ref (ad329 (700 + 20 * p))), some (.ref (ad329 901)), some (.int (nI i)), some (.ref (ad329 902)), some (.int (nI 0))]) rfl ?_
            have hQ : RwI 902 m2 w415 4 (fun j => ltoO s p i (nI j)) := hEw415.c (fun j hj => by rcases j with _ | _ | _ | _ | j <;> first | rfl | omega)
            have inn : ∀ (n2 k : Nat) (g1 : MG), 4 - k < n2 → k ≤ 4 → Rl s g1 → V P (rmz 10 330 400 2400) (Z.wl ad329 w415) [some (.ref (ad329 600)), some (.ref (ad329 30)), some (.ref (ad329 900)), some (.int v3), some (.int v4), some (.int (nI p)), some (.ref (ad329 (700 + 20 * p))), some (.ref (ad329 901)), some (.int (nI i)), some (.ref (ad329 902)), some (.int (nI k))] 420 [] g1 (c0 + 5 * i + 1 + k) (s0 + 28 * i + 4 + 6 * k) := by
              intro n2
              induction n2 with
              | zero => intro k g1 hn; exact absurd hn (Nat.not_lt_zero _)
              | succ n2 ih2 =>
                intro k g1 hn2 hk hRl
                refine v_iload (C.wl _ _) dX5_isSame_420 rfl ?_
                refine v_iconst (v := 4) (C.wl _ _) dX5_isSame_422 (by decide) ?_
                refine v_icmp_ge (tgt := 452) (C.wl _ _) dX5_isSame_423 (by decide) (fun h423 => ?_) (fun h423 => ?_)
                · have hke : k = 4 := Nat.le_antisymm hk ((nI_leI (a := 4) (by decide) (by omega)).mp h423)
                  subst hke
                  refine v_iinc (lo' := [some (.ref (ad329 600)), some (.ref (ad329 30)), some (.ref (ad329 900)), some (.int v3), some (.int v4), some (.int (nI p)), some (.ref (ad329 (700 + 20 * p))), some (.ref (ad329 901)), some (.int ((nI i) + 1)), some (.ref (ad329 902)), some (.int (nI 4))]) (C.wl _ _) dX5_isSame_452 rfl rfl rfl rfl ?_
                  refine v_goto (tgt := 317) (C.wl _ _) dX5_isSame_455 (by decide) ?_
                  refine v_lo (lo' := [some (.ref (ad329 600)), some (.ref (ad329 30)), some (.ref (ad329 900)), some (.int v3), some (.int v4), some (.int (nI p)), some (.ref (ad329 (700 + 20 * p))), some (.ref (ad329 901)), some (.int (nI (i + 1))), some (.ref (ad329 902)), some (.int (nI 4))]) (by rw [nI_succ i]) ?_
                  refine v_wide (k := c0 + 5 * (i + 1)) (n := s0 + 28 * (i + 1)) (by show c0 + 5 * i + 1 + 4 ≤ c0 + 5 * (i + 1); omega) (by show s0 + 28 * i + 4 + 6 * 4 ≤ s0 + 28 * (i + 1); omega) ?_
                  refine l_drop (ad0 := ad) (m0 := m2) hF (fun q hq => hA329 q (by omega)) (fun q _ hq => hQ.1 q (by omega)) ?_
                  refine v_lo (lo' := [some (.ref (ad 600)), some (.ref (ad 30)), some (.ref (ad 900)), some (.int v3), some (.int v4), some (.int (nI p)), some (.ref (ad (700 + 20 * p))), some (.ref (ad 901)), some (.int (nI (i + 1))), some (.ref (ad329 902)), some (.int (nI 4))]) (by rw [hA329 600 (by omega), hA329 30 (by omega), hA329 900 (by omega), hA329 (700 + 20 * p) (by omega), hA329 901 (by omega)]) ?_
                  exact ih (i + 1) g1 _ _ (by omega) (by omega) hRl
                · have hkk : k < 4 := Nat.lt_of_not_le fun q => h423 ((nI_leI (a := 4) (by decide) (by omega)).mpr q)
                  refine v_aload_n (C.wl _ _) dX5_isSame_426 rfl rfl ?_
                  refine v_iload (C.wl _ _) dX5_isSame_427 rfl ?_
                  refine v_iload (C.wl _ _) dX5_isSame_429 rfl ?_
                  refine v_iload (C.wl _ _) dX5_isSame_431 rfl ?_
                  refine v_callX (n := 3) (k := 30) (as := [.int (nI p), .int (nI i), .int (nI k)]) (C.wl _ _) hW9.S (x_about _ hP9 (Z.wl ad329 w415) (nI p) (nI i) (nI k) s g1 hI hF9 hRl) (gv (tg3 14 rfl rfl) (tg2 79 rfl rfl) (tg2 80 rfl rfl) (tg1 1 rfl rfl) (tg2 81 rfl rfl)) (by decide +kernel) ⟨Nat.le_of_ble_eq_true rfl, Nat.le_of_ble_eq_true rfl⟩ rfl cx_T rfl rfl (Nat.le_of_ble_eq_true rfl) dX5_isSame_433 ⟨(by show c0 + 5 * i + 1 + k + 1 ≤ 400; omega), (by show s0 + 28 * i + 4 + 6 * k + 6 ≤ 2400; omega)⟩ (fun E q g433 hp433 => absurd (cdA_0 hI hp hii hkk) hp433.1) (fun r433 g433 hp433 => ?_)
                  obtain ⟨-, hr433, hRl433, hK433⟩ := hp433
                  refine v_topi (y := ltoO s p i (nI k)) (hr433.trans (by rw [iz_nI (by omega), iz_nI (by omega)])) ?_
                  refine v_aload (C.wl _ _) dX5_isSame_436 rfl ?_
                  refine v_iload (C.wl _ _) dX5_isSame_438 rfl ?_
                  refine l_iald (k := 902) (n := 4) (a := k) C ⟨by omega, by omega⟩ hQ.2.1.1 hQ.2.1.2 ⟨hkk, by decide⟩ dX5_isSame_440 ?_
                  refine v_topi (y := ltoO s p i (nI k)) (hQ.2.2 k hkk) ?_
                  refine v_icmp_eq (tgt := 446) (C.wl _ _) dX5_isSame_441 (by decide) (fun h441 => ?_) (fun h441 => ?_)
                  · refine v_iinc (lo' := [some (.ref (ad329 600)), some (.ref (ad329 30)), some (.ref (ad329 900)), some (.int v3), some (.int v4), some (.int (nI p)), some (.ref (ad329 (700 + 20 * p))), some (.ref (ad329 901)), some (.int (nI i)), some (.ref (ad329 902)), some (.int ((nI k) + 1))]) (C.wl _ _) dX5_isSame_446 rfl rfl rfl rfl ?_
                    refine v_goto (tgt := 420) (C.wl _ _) dX5_isSame_449 (by decide) ?_
                    refine v_lo (lo' := [some (.ref (ad329 600)), some (.ref (ad329 30)), some (.ref (ad329 900)), some (.int v3), some (.int v4), some (.int (nI p)), some (.ref (ad329 (700 + 20 * p))), some (.ref (ad329 901)), some (.int (nI i)), some (.ref (ad329 902)), some (.int (nI (k + 1)))]) (by rw [nI_succ k]) ?_
                    refine v_wide (k := c0 + 5 * i + 1 + (k + 1)) (n := s0 + 28 * i + 4 + 6 * (k + 1)) (by show c0 + 5 * i + 1 + k + 1 ≤ c0 + 5 * i + 1 + (k + 1); omega) (by show s0 + 28 * i + 4 + 6 * k + 6 ≤ s0 + 28 * i + 4 + 6 * (k + 1); omega) ?_
                    exact ih2 (k + 1) g433 (by omega) (by omega) hRl433
                  · exact absurd rfl h441
            exact inn _ 0 g1 (Nat.lt_succ_self _) (Nat.zero_le _) hRl
          refine v_if_eq (tgt := 413) (C.wl _ _) dX5_isSame_396 (by decide) (fun h396 => ?_) (fun h396 => ?_)
          · refine v_iconst (C.wl _ _) dX5_isSame_413 rfl ?_
            exact v_topi (lto_n h396 (by omega)) J396
          · have h15 : s 15 p = 1 := (IvM_01 hI (show p < 6 by omega)).resolve_left h396
            have hX := hPX.2.2.2 h15
            obtain ⟨n9, hn9, h7a, h7b⟩ := hPX.2.1
            have h703 : isA w389 (703 + 20 * p) (nlO s p) := by rw [← h7b h15]; exact h7a
            refine v_aload (C.wl _ _) dX5_isSame_399 rfl ?_
            refine l_get (k := 700 + 20 * p) C inG4 (ci := 5) rfl 7 (by decide) (tg2 194 rfl rfl) rfl ⟨by omega, by omega⟩ (cW_5 hPF.1) (ps_r (by decide) hPF.2.2.2.2.2.2.2.2 ⟨by omega, by omega⟩) dX5_isSame_401 ?_
            refine v_iload (C.wl _ _) dX5_isSame_404 rfl ?_
            refine l_aald (k := 704 + 20 * p) (n := nlO s p) (a := i) (k2 := 710 + 20 * p + i) C ⟨by omega, by omega⟩ (Or.inl hX.2.1.1) hX.2.1.2 ⟨hii, by omega⟩ (hX.2.2 _ hii).2.2.1 ⟨by omega, by omega⟩ dX5_isSame_406 ?_
            refine v_callSi (n := 1) (as := [.ref (ad329 (710 + 20 * p + i))]) (C.wl _ _) (l_sword _ Z ad329 w389 (710 + 20 * p + i) (szw (wdO s (4 * p + i))) (tkO s (4 * p + i)) ⟨by omega, by omega⟩ (hX.2.2 i hii).2.2.2.1 (wd_8 hI (by omega)) (hX.2.2 i hii).2.2.2.2 g1) (gs (tg3 11 rfl rfl) (tg3 12 rfl rfl) (tg1 6 rfl rfl) (tg3 13 rfl rfl)) (by decide +kernel) ⟨Nat.le_of_ble_eq_true rfl, Nat.le_of_ble_eq_true rfl⟩ rfl rfl (Nat.le_of_ble_eq_true rfl) dX5_isSame_407 ⟨(by show c0 + 5 * i + 1 + 0 ≤ 400; omega), (by show s0 + 28 * i + 4 + 0 ≤ 2400; omega)⟩ (fun r396 gg396 hp396 => ?_)
            obtain ⟨hr396, hgg396⟩ := hp396
            rw [hgg396]
            refine v_goto (tgt := 414) (C.wl _ _) dX5_isSame_410 (by decide) ?_
            exact v_topi (hr396.trans (lto_3 hI hE9 hp h15 hii)) J396
        refine v_if_eq (tgt := 387) (C.wl _ _) dX5_isSame_373 (by decide) (fun h373 => ?_) (fun h373 => ?_)
        · refine v_iconst (C.wl _ _) dX5_isSame_387 rfl ?_
          exact v_topi (lto_n h373 (by omega)) J373
        · have h15 : s 15 p = 1 := (IvM_01 hI (show p < 6 by omega)).resolve_left h373
          have hX := hPX.2.2.2 h15
          obtain ⟨n9, hn9, h7a, h7b⟩ := hPX.2.1
          have h703 : isA w366 (703 + 20 * p) (nlO s p) := by rw [← h7b h15]; exact h7a
          refine v_aload (C.wl _ _) dX5_isSame_376 rfl ?_
          refine l_get (k := 700 + 20 * p) C inG4 (ci := 5) rfl 6 (by decide) (tg2 192 rfl rfl) rfl ⟨by omega, by omega⟩ (cW_5 hPF.1) (ps_r (by decide) hPF.2.2.2.2.2.2.2.1 ⟨by omega, by omega⟩) dX5_isSame_378 ?_
          refine v_iload (C.wl _ _) dX5_isSame_381 rfl ?_
          refine l_iald (k := 703 + 20 * p) (n := nlO s p) (a := i) C ⟨by omega, by omega⟩ h703.1 h703.2 ⟨hii, by omega⟩ dX5_isSame_383 ?_
          refine v_goto (tgt := 388) (C.wl _ _) dX5_isSame_384 (by decide) ?_
          exact v_topi ((hX.2.2 i hii).2.1.trans (lto_2 h373)) J373
      refine v_if_eq (tgt := 364) (C.wl _ _) dX5_isSame_350 (by decide) (fun h350 => ?_) (fun h350 => ?_)
      · refine v_iconst (C.wl _ _) dX5_isSame_364 rfl ?_
        exact v_topi (lto_n h350 (by omega)) J350
      · have h15 : s 15 p = 1 := (IvM_01 hI (show p < 6 by omega)).resolve_left h350
        have hX := hPX.2.2.2 h15
        obtain ⟨n9, hn9, h7a, h7b⟩ := hPX.2.1
        have h703 : isA w343 (703 + 20 * p) (nlO s p) := by rw [← h7b h15]; exact h7a
        refine v_aload (C.wl _ _) dX5_isSame_353 rfl ?_
        refine l_get (k := 700 + 20 * p) C inG4 (ci := 5) rfl 5 (by decide) (tg2 190 rfl rfl) rfl ⟨by omega, by omega⟩ (cW_5 hPF.1) (ps_r (by decide) hPF.2.2.2.2.2.2.1 ⟨by omega, by omega⟩) dX5_isSame_355 ?_
        refine v_iload (C.wl _ _) dX5_isSame_358 rfl ?_
        refine l_iald (k := 702 + 20 * p) (n := nlO s p) (a := i) C ⟨by omega, by omega⟩ hX.1.1 hX.1.2 ⟨hii, by omega⟩ dX5_isSame_360 ?_
        refine v_goto (tgt := 365) (C.wl _ _) dX5_isSame_361 (by decide) ?_
        exact v_topi ((hX.2.2 i hii).1.trans (lto_1 h350)) J350
