/-! THE LAW'S act: poster, line -/
theorem cdPo_v {s : MG} (hI : IvM s) {t h : Nat} (ht : t < 4) (hh : 1 ≤ h ∧ h ≤ 20) : cdPoster s (nI t) (nI h) = if npO s = 6 then 3 else 0 := by
  have k2 : inB (nI h) 1 20 = true := inB_t.mpr (by rw [nI_toInt (by omega)]; exact ⟨by show (1 : Int) ≤ h; omega, by show (h : Int) ≤ 20; omega⟩)
  unfold cdPoster
  rw [isN_of ht (by decide), k2, if_neg (by decide), if_neg (by decide)]
theorem cdLi_v {s : MG} (hI : IvM s) {p w : Nat} (hp : p < npO s) (hw : w ≤ 99999999) : cdLine s (nI p) (nI w) = if s 15 p = 1 ∨ nlO s p = 4 then 3 else 0 := by
  have hp6 := (IvM_np hI).1
  have k2 : inB (nI w) 0 99999999 = true := inB_t.mpr (by rw [nI_toInt (by omega)]; exact ⟨by show (0 : Int) ≤ w; omega, by show (w : Int) ≤ 99999999; omega⟩)
  unfold cdLine
  rw [isN_of hp (by omega), k2, iz_nI (by omega), if_neg (by decide), if_neg (by decide)]
set_option maxRecDepth 100000 in
theorem act_post {P : Pm} {Z : Zc} {ad : Nat → Nat} {N : Nat} {s m g : MG} (hP9 : P.2.1.stackTraces = false) (C : Cx P Z cL_act "PosterTypesLaw") (hW9 : CxW P Z) (hT : CxT P hhA) (hN : N + 1 ≤ 2048) (hE : LE N s) (hR : SimR s m) (hF : Fr m 900) (hRl : Rl s g) (x : Int32) (f k p : Nat) (hf : f < nfO s) (hk : k < 10) (hp : p < npO s) (ret : RetA P Z ad N s)  : V P RA (Z.wl ad m) [some (.ref (ad 30)), some (.ref (ad 600)), some (.int x), some (.int (nI f)), some (.int (nI k)), some (.int (nI p)), some (.ref (ad (700 + 20 * p))), none, none, none, none, none, none, none, none] 425 [] g 0 0 := by
  have hI := hE.1.1
  have hf5 := (IvM_nf hI).1
  have hp6 := (IvM_np hI).1
  have h4 := (IvM_nl hI (show p < 6 by omega)).2
  obtain ⟨hPF, hPL, hPX⟩ := hR.L hp
  refine l_newo (T := 900) (ci := 5) (kd := 5) (fs := [.int 0, .int 0, .null, .int 0, .int 0, .null, .null, .null]) C hF (by omega) inG4 tyX4 tyX4_ok (tg3 29 rfl rfl) (tg2 168 rfl rfl) (tg1 19 rfl rfl) rfl (fun _ => rfl) (by decide) (by show 0 + 1 ≤ 70; omega) (by show 0 + 8 ≤ 700; omega) dL_act_425 (fun ad425 hA425 => ?_)
  have hF425 := hF.new (by omega) (rN_R (kd := 5) (n := 0) (by omega) (by decide) (by omega))
  refine v_lo (lo' := [some (.ref (ad425 30)), some (.ref (ad425 600)), some (.int x), some (.int (nI f)), some (.int (nI k)), some (.int (nI p)), some (.ref (ad425 (700 + 20 * p))), none, none, none, none, none, none, none, none]) (by rw [hA425 30 (by omega), hA425 600 (by omega), hA425 (700 + 20 * p) (by omega)]) ?_
  refine v_dup (C.wl _ _) dL_act_428 rfl ?_
  refine l_callIN (n := 0) (as := []) (host := "PosterTypesLaw") C hW9 (l_pinit _ Z ad425 (rwr m 900 (rN 5 0)) g 901 hF425 900 (by decide) (by decide) (by rw [rwr_same]; rfl)) (List.mem_of_getElem? (i := 0) rfl) (tg2 170 rfl rfl) (tg1 19 rfl rfl) (tg2 171 rfl rfl) rfl (by decide +kernel) ⟨Nat.le_of_ble_eq_true rfl, Nat.le_of_ble_eq_true rfl⟩ rfl rfl (Nat.le_of_ble_eq_true rfl) dL_act_429 ⟨(by show 0 + 1 + 4 ≤ 70; omega), (by show 0 + 8 + 10 ≤ 700; omega)⟩ (fun ad429 mP g429 hp429 => ?_)
  obtain ⟨hA429, hmP, hF429, hg429⟩ := hp429
  rw [hg429]
  have hmo : ∀ q, q < 900 → mP q = m q := fun q hq => by rw [hmP]; unfold pinM; rw [if_neg (by omega), if_neg (by omega), if_neg (by omega), if_neg (by omega), if_neg (by omega), rwr_ne _ _ _ (by omega)]
  have h9 : mP 900 = fun j => if j = 2 then nI 901 else if j = 5 then nI 902 else if j = 6 then nI 903 else if j = 7 then nI 904 else rN 5 0 j := by rw [hmP]; unfold pinM; rw [if_neg (by decide), if_neg (by decide), if_neg (by decide), if_neg (by decide), if_pos rfl, rwr_same]
  have h91 : mP 901 = rN 2 0 := by rw [hmP]; exact if_pos rfl
  have h92 : mP 902 = rN 1 0 := by rw [hmP]; unfold pinM; rw [if_neg (by decide), if_pos rfl]
  have h93 : mP 903 = rN 1 0 := by rw [hmP]; unfold pinM; rw [if_neg (by decide), if_neg (by decide), if_pos rfl]
  have h94 : mP 904 = rN 2 0 := by rw [hmP]; unfold pinM; rw [if_neg (by decide), if_neg (by decide), if_neg (by decide), if_pos rfl]
  have hAq : ∀ q, q < 900 → ad429 q = ad q := fun q hq => by rw [hA429 q (by omega), hA425 q (by omega)]
  have hF9 : Fr mP 905 := hF429
  refine v_lo (lo' := [some (.ref (ad429 30)), some (.ref (ad429 600)), some (.int x), some (.int (nI f)), some (.int (nI k)), some (.int (nI p)), some (.ref (ad429 (700 + 20 * p))), none, none, none, none, none, none, none, none]) (by rw [hAq 30 (by decide), hAq 600 (by decide), hAq (700 + 20 * p) (by omega), hA425 30 (by decide), hA425 600 (by decide), hA425 (700 + 20 * p) (by omega)]) ?_
  refine v_st (st' := [.ref (ad429 900)]) (by rw [hA429 900 (by decide)]) ?_
  refine v_astore (lo' := [some (.ref (ad429 30)), some (.ref (ad429 600)), some (.int x), some (.int (nI f)), some (.int (nI k)), some (.int (nI p)), some (.ref (ad429 (700 + 20 * p))), none, none, some (.ref (ad429 900)), none, none, none, none, none]) (C.wl _ _) dL_act_432 (Nat.le_of_ble_eq_true rfl) rfl rfl ?_
  refine v_aload (C.wl _ _) dL_act_434 rfl ?_
  refine v_iload_n (C.wl _ _) dL_act_436 rfl rfl ?_
  refine v_iconst (v := 4) (C.wl _ _) dL_act_437 (by decide) ?_
  refine v_ishr (C.wl _ _) dL_act_438 ?_
  refine v_iconst (v := 4) (C.wl _ _) dL_act_439 (by decide) ?_
  refine v_callSi (n := 2) (as := [.int (x >>> (4 &&& 31)), .int (nI 4)]) (C.wl _ _) (l_below _ Z ad429 mP (x >>> (4 &&& 31)) 4 ⟨by omega, by omega⟩ g) (gs (tg3 17 rfl rfl) (tg3 18 rfl rfl) (tg1 0 rfl rfl) (tg3 19 rfl rfl)) (by decide +kernel) ⟨Nat.le_of_ble_eq_true rfl, Nat.le_of_ble_eq_true rfl⟩ rfl rfl (Nat.le_of_ble_eq_true rfl) dL_act_440 ⟨(by show 0 + 1 + 4 + 0 ≤ 70; omega), (by show 0 + 8 + 10 + 0 ≤ 700; omega)⟩ (fun r440 gg440 hp440 => ?_)
  obtain ⟨hr440, hgg440⟩ := hp440
  rw [hr440, hgg440]
  have bt : bwN (x >>> (4 &&& 31)) 4 < 4 := bwN_lt _ (by omega)
  generalize bwN (x >>> (4 &&& 31)) 4 = t at bt ⊢
  refine l_put (k := 900) (x := nI t) C inG4 (ci := 5) rfl tyX4 tyX4_ok nmX4 0 (by decide) (tg2 176 rfl rfl) rfl rfl rfl rfl rfl ⟨by decide, by decide⟩ (cW_5 ((congrFun h9 100000).trans rfl)) (Nat.le_of_ble_eq_true rfl) ((cW_5 (show upd (mP 900) 0 (nI t) 100000 = 5 from (if_neg (by decide : ¬ (100000 : Nat) = 0)).trans ((congrFun h9 100000).trans rfl))).trans rfl) dL_act_443 ?_
  refine v_aload (C.wl _ _) dL_act_446 rfl ?_
  refine v_iconst (v := 1) (C.wl _ _) dL_act_448 (by decide) ?_
  refine v_iload_n (C.wl _ _) dL_act_449 rfl rfl ?_
  refine v_bipush (v := 6) (C.wl _ _) dL_act_450 (by decide) ?_
  refine v_ishr (C.wl _ _) dL_act_452 ?_
  refine v_iload_n (C.wl _ _) dL_act_453 rfl rfl ?_
  refine v_bipush (v := 8) (C.wl _ _) dL_act_454 (by decide) ?_
  refine v_ishr (C.wl _ _) dL_act_456 ?_
  refine v_iconst (v := 3) (C.wl _ _) dL_act_457 (by decide) ?_
  refine v_callSi (n := 2) (as := [.int (x >>> (8 &&& 31)), .int (nI 3)]) (C.wl _ _) (l_below _ Z ad429 (wr mP 900 0 (nI t)) (x >>> (8 &&& 31)) 3 ⟨by omega, by omega⟩ g) (gs (tg3 17 rfl rfl) (tg3 18 rfl rfl) (tg1 0 rfl rfl) (tg3 19 rfl rfl)) (by decide +kernel) ⟨Nat.le_of_ble_eq_true rfl, Nat.le_of_ble_eq_true rfl⟩ rfl rfl (Nat.le_of_ble_eq_true rfl) dL_act_458 ⟨(by show 0 + 1 + 4 + 0 ≤ 70; omega), (by show 0 + 8 + 10 + 0 ≤ 700; omega)⟩ (fun r458 gg458 hp458 => ?_)
  obtain ⟨hr458, hgg458⟩ := hp458
  rw [hr458, hgg458]
  have bb : bwN (x >>> (8 &&& 31)) 3 < 3 := bwN_lt _ (by omega)
  generalize bwN (x >>> (8 &&& 31)) 3 = b at bb ⊢
  have J461 : ∀ nn : Nat, (nn = 20 ∨ nn = 8) → V P RA (Z.wl ad429 (wr mP 900 0 (nI t))) [some (.ref (ad429 30)), some (.ref (ad429 600)), some (.int x), some (.int (nI f)), some (.int (nI k)), some (.int (nI p)), some (.ref (ad429 (700 + 20 * p))), none, none, some (.ref (ad429 900)), none, none, none, none, none] 471 [.int (nI nn), .int (x >>> (6 &&& 31)), .int 1, .ref (ad429 900)] g (0 + 1 + 4) (0 + 8 + 10) := by
    intro nn hnn
    refine v_callSi (n := 2) (as := [.int (x >>> (6 &&& 31)), .int (nI nn)]) (C.wl _ _) (l_below _ Z ad429 (wr mP 900 0 (nI t)) (x >>> (6 &&& 31)) nn ⟨by omega, by omega⟩ g) (gs (tg3 17 rfl rfl) (tg3 18 rfl rfl) (tg1 0 rfl rfl) (tg3 19 rfl rfl)) (by decide +kernel) ⟨Nat.le_of_ble_eq_true rfl, Nat.le_of_ble_eq_true rfl⟩ rfl rfl (Nat.le_of_ble_eq_true rfl) dL_act_471 ⟨(by show 0 + 1 + 4 + 0 ≤ 70; omega), (by show 0 + 8 + 10 + 0 ≤ 700; omega)⟩ (fun r471 gg471 hp471 => ?_)
    obtain ⟨hr471, hgg471⟩ := hp471
    rw [hr471, hgg471]
    have bh : bwN (x >>> (6 &&& 31)) nn < nn := bwN_lt _ (by omega)
    generalize bwN (x >>> (6 &&& 31)) nn = h at bh ⊢
    refine v_iadd (C.wl _ _) dL_act_474 ?_
    refine v_topi (y := nI (1 + h)) (by rw [show (1 : Int32) = nI 1 from rfl, nI_add]) ?_
    refine l_put (k := 900) (x := nI (1 + h)) C inG4 (ci := 5) rfl tyX4 tyX4_ok nmX4 1 (by decide) (tg2 179 rfl rfl) rfl rfl rfl rfl rfl ⟨by decide, by decide⟩ (cW_5 ((wr_ne _ _ _ _ (by omega)).trans ((congrFun h9 100000).trans rfl))) (Nat.le_of_ble_eq_true rfl) ((cW_5 (show upd (wr mP 900 0 (nI t) 900) 1 (nI (1 + h)) 100000 = 5 from (if_neg (by decide : ¬ (100000 : Nat) = 1)).trans ((wr_ne _ _ _ _ (by omega)).trans ((congrFun h9 100000).trans rfl)))).trans rfl) dL_act_475 ?_
    have hcv := cdPo_v hI bt (h := 1 + h) ⟨by omega, by omega⟩
    have k9 : (wr (wr mP 900 0 (nI t)) 900 1 (nI (1 + h))) 900 100000 = 5 ∧ (wr (wr mP 900 0 (nI t)) 900 1 (nI (1 + h))) 900 0 = nI t ∧ (wr (wr mP 900 0 (nI t)) 900 1 (nI (1 + h))) 900 1 = nI (1 + h) ∧ (wr (wr mP 900 0 (nI t)) 900 1 (nI (1 + h))) 900 2 = nI 901 ∧ (wr (wr mP 900 0 (nI t)) 900 1 (nI (1 + h))) 900 3 = 0 ∧ (wr (wr mP 900 0 (nI t)) 900 1 (nI (1 + h))) 900 4 = 0 ∧ (wr (wr mP 900 0 (nI t)) 900 1 (nI (1 + h))) 900 5 = nI 902 ∧ (wr (wr mP 900 0 (nI t)) 900 1 (nI (1 + h))) 900 6 = nI 903 ∧ (wr (wr mP 900 0 (nI t)) 900 1 (nI (1 + h))) 900 7 = nI 904 := by
      refine ⟨?_, ?_, ?_, ?_, ?_, ?_, ?_, ?_, ?_⟩ <;> simp [wr, h9, rN]
    have kmo : ∀ q, q ≠ 900 → (wr (wr mP 900 0 (nI t)) 900 1 (nI (1 + h))) q = mP q := fun q hq => by rw [wr_row _ _ _ _ hq, wr_row _ _ _ _ hq]
    have kF : Fr (wr (wr mP 900 0 (nI t)) 900 1 (nI (1 + h))) 905 := (hF9.put (k := 900) (j := 0) (x := nI t) (by omega) (by decide) (fun z => by rw [(congrFun h9 100000).trans rfl] at z; exact absurd z (by decide))).put (k := 900) (j := 1) (x := nI (1 + h)) (by omega) (by decide) (fun z => by rw [wr_ne _ _ _ _ (Or.inr (by decide)), (congrFun h9 100000).trans rfl] at z; exact absurd z (by decide))
    generalize wr (wr mP 900 0 (nI t)) 900 1 (nI (1 + h)) = mQ at k9 kmo kF ⊢
    refine v_aload_n (C.wl _ _) dL_act_478 rfl rfl ?_
    refine l_get (k := 600) C inG5 (ci := 6) rfl 6 (by decide) (tg5 14 rfl rfl) rfl ⟨by decide, by decide⟩ (cW_6 ((congrFun ((kmo _ (by omega)).trans (hmo _ (by omega))) _).trans hR.1.1)) (sm_r (by decide) ((congrFun ((kmo _ (by omega)).trans (hmo _ (by omega))) _).trans hR.1.2.2.2.2.2.2.2) ⟨by decide, by decide⟩) dL_act_479 ?_
    refine l_len (k := 605) (n := npO s) C ⟨by decide, by decide⟩ (Or.inr (Or.inr (Or.inr ((congrFun ((kmo _ (by omega)).trans (hmo _ (by omega))) _).trans hR.2.2.2.2.2.1.1.1)))) ((congrFun ((kmo _ (by omega)).trans (hmo _ (by omega))) _).trans hR.2.2.2.2.2.1.1.2) (by omega) dL_act_482 ?_
    refine v_bipush (v := 6) (C.wl _ _) dL_act_483 (by decide) ?_
    refine v_icmp_ge (tgt := 496) (C.wl _ _) dL_act_485 (by decide) (fun h485 => ?_) (fun h485 => ?_)
    · have hn6 : npO s = 6 := Nat.le_antisymm hp6 ((nI_leI (a := 6) (by decide) (by omega)).mp h485)
      have hcd : cdPoster s (nI t) (nI (1 + h)) = 3 := hcv.trans (if_pos hn6)
      refine v_iconst (v := (-1)) (C.wl _ _) dL_act_496 (by decide) ?_
      refine v_istore (lo' := [some (.ref (ad429 30)), some (.ref (ad429 600)), some (.int x), some (.int (nI f)), some (.int (nI k)), some (.int (nI p)), some (.ref (ad429 (700 + 20 * p))), none, some (.int (-1)), some (.ref (ad429 900)), none, none, none, none, none]) (C.wl _ _) dL_act_497 (Nat.le_of_ble_eq_true rfl) rfl rfl ?_
      refine v_iload (C.wl _ _) dL_act_499 rfl ?_
      refine v_if_lt (tgt := 517) (C.wl _ _) dL_act_501 (by decide) (fun h501 => ?_) (fun h501 => ?_)
      · refine v_aload_n (C.wl _ _) dL_act_517 rfl rfl ?_
        refine v_aload (C.wl _ _) dL_act_518 rfl ?_
        refine l_get (k := 900) C inG4 (ci := 5) rfl 0 (by decide) (tg2 176 rfl rfl) rfl ⟨by decide, by decide⟩ (cW_5 k9.1) rfl dL_act_520 ?_
        refine v_topi (y := nI t) k9.2.1 ?_
        refine v_aload (C.wl _ _) dL_act_523 rfl ?_
        refine l_get (k := 900) C inG4 (ci := 5) rfl 1 (by decide) (tg2 179 rfl rfl) rfl ⟨by decide, by decide⟩ (cW_5 k9.1) rfl dL_act_525 ?_
        refine v_topi (y := nI (1 + h)) k9.2.2.1 ?_
        refine v_callM (n := 2) (k := 30) (as := [.int (nI t), .int (nI (1 + h))]) (C.wl _ _) hW9.S (x_poster _ hP9 (Z.wl ad429 mQ) (nI t) (nI (1 + h)) s g hE.1.1 hE.1.2.2.2.1 hRl) (gv (tg3 76 rfl rfl) (tg3 77 rfl rfl) (tg3 78 rfl rfl) (tg1 1 rfl rfl) (tg3 79 rfl rfl)) (by decide +kernel) ⟨Nat.le_of_ble_eq_true rfl, Nat.le_of_ble_eq_true rfl⟩ rfl cx_T rfl rfl (Nat.le_of_ble_eq_true rfl) dL_act_528 ⟨(by show 0 + 1 + 4 + 6 ≤ 70; omega), (by show 0 + 8 + 10 + 60 ≤ 700; omega)⟩ (fun E q528 g528 hp528 => ?_) (fun r528 ad528 g528 hp528 => absurd (hcd.symm.trans hp528.1) (by decide))
        obtain ⟨-, hX528, hRl528, -⟩ := hp528
        rw [hcd] at hX528
        have hX528 : E = exC 2 := hX528
        subst hX528
        refine v_catchU (k := 2) (C.wl _ _) hW9.S hT 1 rfl (by decide) (by decide) (tg3 28 rfl rfl) (List.mem_of_getElem? (i := 5) rfl) (fun j hj => by rcases j with _ | j <;> first | exact ⟨_, rfl, by decide⟩ | omega) ?_
        refine v_astore (lo' := [some (.ref (ad429 30)), some (.ref (ad429 600)), some (.int x), some (.int (nI f)), some (.int (nI k)), some (.int (nI p)), some (.ref (ad429 (700 + 20 * p))), none, some (.int (-1)), some (.ref (ad429 900)), some (.ref q528), none, none, none, none]) (C.wl _ _) dL_act_536 (Nat.le_of_ble_eq_true rfl) rfl rfl ?_
        refine v_iconst (v := (-1)) (C.wl _ _) dL_act_538 (by decide) ?_
        refine v_istore (lo' := [some (.ref (ad429 30)), some (.ref (ad429 600)), some (.int x), some (.int (nI f)), some (.int (nI k)), some (.int (nI p)), some (.ref (ad429 (700 + 20 * p))), some (.int (-1)), some (.int (-1)), some (.ref (ad429 900)), some (.ref q528), none, none, none, none]) (C.wl _ _) dL_act_539 (Nat.le_of_ble_eq_true rfl) rfl rfl ?_
        refine v_iload (C.wl _ _) dL_act_541 rfl ?_
        refine v_iload (C.wl _ _) dL_act_543 rfl ?_
        have hst : stPoster s (nI t) (nI (1 + h)) = s := by unfold stPoster; rw [if_neg (by rw [hcd]; decide)]
        refine l_drop (ad0 := ad) (m0 := m) hF (fun q hq => hAq q hq) (fun q _ hq => (kmo q (by omega)).trans (hmo q hq)) ?_
        refine v_icmp_ne (tgt := 552) (C.wl _ _) dL_act_545 (by decide) (fun h => absurd rfl h) (fun _ => ?_)
        refine v_iconst (v := 1) (C.wl _ _) dL_act_548 (by decide) ?_
        refine v_goto (tgt := 553) (C.wl _ _) dL_act_549 (by decide) ?_
        refine v_wide (k := 70) (n := 700) (by show 0 + 1 + 4 + 6 ≤ 70; omega) (by show 0 + 8 + 10 + 60 ≤ 700; omega) ?_
        exact ret _ _ _ _ _ dL_act_553 ⟨⟨rfl, rfl⟩, s, (LE.rf hE hN).1, (LE.rf hE hN).2, hR, hF, (by rw [← hst]; exact hRl528), (Nat.le_refl _), (Nat.le_refl _)⟩
      · exact absurd (by decide) h501
    · have hn6 : npO s < 6 := Nat.lt_of_not_le fun q => h485 ((nI_leI (a := 6) (by decide) (by omega)).mpr q)
      have hcd : cdPoster s (nI t) (nI (1 + h)) = 0 := hcv.trans (if_neg (by omega))
      refine v_aload_n (C.wl _ _) dL_act_488 rfl rfl ?_
      refine l_get (k := 600) C inG5 (ci := 6) rfl 6 (by decide) (tg5 14 rfl rfl) rfl ⟨by decide, by decide⟩ (cW_6 ((congrFun ((kmo _ (by omega)).trans (hmo _ (by omega))) _).trans hR.1.1)) (sm_r (by decide) ((congrFun ((kmo _ (by omega)).trans (hmo _ (by omega))) _).trans hR.1.2.2.2.2.2.2.2) ⟨by decide, by decide⟩) dL_act_489 ?_
      refine l_len (k := 605) (n := npO s) C ⟨by decide, by decide⟩ (Or.inr (Or.inr (Or.inr ((congrFun ((kmo _ (by omega)).trans (hmo _ (by omega))) _).trans hR.2.2.2.2.2.1.1.1)))) ((congrFun ((kmo _ (by omega)).trans (hmo _ (by omega))) _).trans hR.2.2.2.2.2.1.1.2) (by omega) dL_act_492 ?_
      refine v_goto (tgt := 497) (C.wl _ _) dL_act_493 (by decide) ?_
      refine v_istore (lo' := [some (.ref (ad429 30)), some (.ref (ad429 600)), some (.int x), some (.int (nI f)), some (.int (nI k)), some (.int (nI p)), some (.ref (ad429 (700 + 20 * p))), none, some (.int (nI (npO s))), some (.ref (ad429 900)), none, none, none, none, none]) (C.wl _ _) dL_act_497 (Nat.le_of_ble_eq_true rfl) rfl rfl ?_
      refine v_iload (C.wl _ _) dL_act_499 rfl ?_
      refine v_if_lt (tgt := 517) (C.wl _ _) dL_act_501 (by decide) (fun h501 => ?_) (fun h501 => ?_)
      · exact absurd h501 (nI_pos (by omega))
      · refine v_aload_n (C.wl _ _) dL_act_504 rfl rfl ?_
        refine v_aload_n (C.wl _ _) dL_act_505 rfl rfl ?_
        refine l_get (k := 600) C inG5 (ci := 6) rfl 6 (by decide) (tg5 14 rfl rfl) rfl ⟨by decide, by decide⟩ (cW_6 ((congrFun ((kmo _ (by omega)).trans (hmo _ (by omega))) _).trans hR.1.1)) (sm_r (by decide) ((congrFun ((kmo _ (by omega)).trans (hmo _ (by omega))) _).trans hR.1.2.2.2.2.2.2.2) ⟨by decide, by decide⟩) dL_act_506 ?_
        refine v_aload (C.wl _ _) dL_act_509 rfl ?_
        refine l_callSq (n := 2) (as := [.ref (ad429 605), .ref (ad429 900)]) C hW9 (l_moreP _ Z ad429 mQ g 905 kF 605 900 (npO s) (fun i => 700 + 20 * i) (by decide) (by decide) (by unfold isQ; rw [kmo _ (by decide), hmo _ (by decide)]; exact hR.2.2.2.2.2.1.1) (by omega) (fun i hi => ⟨by rw [kmo _ (by decide), hmo _ (by decide)]; exact hR.2.2.2.2.2.1.2 i hi, by omega, by omega, by rw [kmo _ (by omega), hmo _ (by omega)]; exact (hR.L hi).1.1⟩) (by decide) k9.1) (gs2 (tg3 71 rfl rfl) (tg3 72 rfl rfl) (tg1 6 rfl rfl) (tg3 73 rfl rfl)) (by decide +kernel) ⟨Nat.le_of_ble_eq_true rfl, Nat.le_of_ble_eq_true rfl⟩ rfl rfl (Nat.le_of_ble_eq_true rfl) dL_act_511 ⟨(by show 0 + 1 + 4 + 1 ≤ 70; omega), (by show 0 + 8 + 10 + 100 ≤ 700; omega)⟩ (fun v511 ad511 m511 g511 hp511 => ?_)
        obtain ⟨r9, hv511, hA511, hm511, hr1, hr2, hr3, hr4, hF511, hg511⟩ := hp511
        rw [hv511, hg511]
        have jmo : ∀ q, q ≠ 905 → m511 q = mQ q := fun q hq => by rw [hm511]; exact rwr_ne _ _ _ hq
        have j5 : m511 905 = r9 := by rw [hm511]; exact rwr_same _ _ _
        refine v_lo (lo' := [some (.ref (ad511 30)), some (.ref (ad511 600)), some (.int x), some (.int (nI f)), some (.int (nI k)), some (.int (nI p)), some (.ref (ad511 (700 + 20 * p))), none, some (.int (nI (npO s))), some (.ref (ad511 900)), none, none, none, none, none]) (by rw [hA511 30 (by decide), hA511 600 (by decide), hA511 (700 + 20 * p) (by omega), hA511 900 (by decide)]) ?_
        refine v_st (st' := [.ref (ad511 905), .ref (ad511 600)]) (by rw [hA511 600 (by decide)]; rfl) ?_
        refine l_put (k := 600) (x := nI 905) C inG5 (ci := 6) rfl tyX5 tyX5_ok nmX5 6 (by decide) (tg5 14 rfl rfl) rfl rfl rfl rfl rfl ⟨by decide, by decide⟩ (cW_6 ((congrFun ((jmo _ (by decide)).trans ((kmo _ (by decide)).trans (hmo _ (by decide)))) _).trans hR.1.1)) (Nat.le_of_ble_eq_true rfl) ((cW_6 (show upd (m511 600) 6 (nI 905) 100000 = 6 from (if_neg (by decide : ¬ (100000 : Nat) = 6)).trans ((congrFun ((jmo _ (by decide)).trans ((kmo _ (by decide)).trans (hmo _ (by decide)))) _).trans hR.1.1))).trans (congrArg (fun q => some (Sum.inr (6, q))) (sm_put (by decide) ⟨by decide, by decide⟩))) dL_act_514 ?_
        have imo : ∀ q, q ≠ 600 → (wr m511 600 6 (nI 905)) q = m511 q := fun q hq => wr_row _ _ _ _ hq
        have i6 : ∀ j, (wr m511 600 6 (nI 905)) 600 j = if j = 6 then nI 905 else m 600 j := fun j => by rw [wr_own]; unfold upd; rw [jmo _ (by decide), kmo _ (by decide), hmo _ (by decide)]
        generalize wr m511 600 6 (nI 905) = mZ at imo i6 ⊢
        refine v_aload_n (C.wl _ _) dL_act_517 rfl rfl ?_
        refine v_aload (C.wl _ _) dL_act_518 rfl ?_
        refine l_get (k := 900) C inG4 (ci := 5) rfl 0 (by decide) (tg2 176 rfl rfl) rfl ⟨by decide, by decide⟩ (cW_5 ((congrFun ((imo _ (by decide)).trans (jmo _ (by decide))) _).trans k9.1)) rfl dL_act_520 ?_
        refine v_topi (y := nI t) ((congrFun ((imo _ (by decide)).trans (jmo _ (by decide))) _).trans k9.2.1) ?_
        refine v_aload (C.wl _ _) dL_act_523 rfl ?_
        refine l_get (k := 900) C inG4 (ci := 5) rfl 1 (by decide) (tg2 179 rfl rfl) rfl ⟨by decide, by decide⟩ (cW_5 ((congrFun ((imo _ (by decide)).trans (jmo _ (by decide))) _).trans k9.1)) rfl dL_act_525 ?_
        refine v_topi (y := nI (1 + h)) ((congrFun ((imo _ (by decide)).trans (jmo _ (by decide))) _).trans k9.2.2.1) ?_
        refine v_callM (n := 2) (k := 30) (as := [.int (nI t), .int (nI (1 + h))]) (C.wl _ _) hW9.S (x_poster _ hP9 (Z.wl ad511 mZ) (nI t) (nI (1 + h)) s g hE.1.1 hE.1.2.2.2.1 hRl) (gv (tg3 76 rfl rfl) (tg3 77 rfl rfl) (tg3 78 rfl rfl) (tg1 1 rfl rfl) (tg3 79 rfl rfl)) (by decide +kernel) ⟨Nat.le_of_ble_eq_true rfl, Nat.le_of_ble_eq_true rfl⟩ rfl cx_T rfl rfl (Nat.le_of_ble_eq_true rfl) dL_act_528 ⟨(by show 0 + 1 + 4 + 1 + 6 ≤ 70; omega), (by show 0 + 8 + 10 + 100 + 60 ≤ 700; omega)⟩ (fun E q g528 hp528 => absurd hcd hp528.1) (fun r528 ad528 g528 hp528 => ?_)
        obtain ⟨-, hr528, hRl528, -, hA528⟩ := hp528
        have hA528 : (∀ k, k < 36 → ad528 k = ad511 k) ∧ ∀ k, 600 ≤ k → ad528 k = ad511 k := hA528
        rw [hr528, (rfl : nI (npO s) = nI (npO s))]
        show V P RA (Z.wl ad528 mZ) [some (.ref (ad511 30)), some (.ref (ad511 600)), some (.int x), some (.int (nI f)), some (.int (nI k)), some (.int (nI p)), some (.ref (ad511 (700 + 20 * p))), none, some (.int (nI (npO s))), some (.ref (ad511 900)), none, none, none, none, none] 531 [.int (nI (npO s))] g528 (0 + 1 + 4 + 1 + 6) (0 + 8 + 10 + 100 + 60)
        refine v_istore (lo' := [some (.ref (ad511 30)), some (.ref (ad511 600)), some (.int x), some (.int (nI f)), some (.int (nI k)), some (.int (nI p)), some (.ref (ad511 (700 + 20 * p))), some (.int (nI (npO s))), some (.int (nI (npO s))), some (.ref (ad511 900)), none, none, none, none, none]) (C.wl _ _) dL_act_531 (Nat.le_of_ble_eq_true rfl) rfl rfl ?_
        refine v_goto (tgt := 541) (C.wl _ _) dL_act_533 (by decide) ?_
        refine v_iload (C.wl _ _) dL_act_541 rfl ?_
        refine v_iload (C.wl _ _) dL_act_543 rfl ?_
        have hC : Cn (stPoster s (nI t) (nI (1 + h))) mZ (sgP (npO s)) := by
          refine Cn_poster hE hR hn6 hcd (fun q q1 q2 => (imo q (by omega)).trans ((jmo q (by omega)).trans ((kmo q (by omega)).trans (hmo q (by omega))))) ⟨fun j hj => (i6 j).trans (if_neg hj), (i6 6).trans (if_pos rfl)⟩ ?_ ?_ ?_ ?_ ⟨⟨?_, ?_⟩, fun i hi => ?_, ?_⟩
          · rw [((imo _ (by decide)).trans (jmo _ (by decide)))]; exact k9
          · unfold isQ; rw [((imo _ (by decide)).trans (jmo _ (by decide))), kmo _ (by decide), h91]; exact ⟨rfl, rfl⟩
          · unfold isA; rw [((imo _ (by decide)).trans (jmo _ (by decide))), kmo _ (by decide), h92]; exact ⟨rfl, rfl⟩
          · unfold isA; rw [((imo _ (by decide)).trans (jmo _ (by decide))), kmo _ (by decide), h93]; exact ⟨rfl, rfl⟩
          · rw [imo _ (by decide), j5]; exact hr1
          · rw [imo _ (by decide), j5]; exact hr2
          · rw [imo _ (by decide), j5, hr3 i hi, kmo _ (by decide), hmo _ (by decide)]
          · rw [imo _ (by decide), j5]; exact hr4
        have hL := LE_poster hE hN (nI t) (nI (1 + h))
        have g5 := (IvM_nf hL.1.1.1).1
        have g6 := (IvM_np hL.1.1.1).1
        have g4 : ∀ q, q < npO (stPoster s (nI t) (nI (1 + h))) → nlO (stPoster s (nI t) (nI (1 + h))) q ≤ 4 := fun q hq => (IvM_nl hL.1.1.1 (by omega)).2
        have eN : nfO (stPoster s (nI t) (nI (1 + h))) = nfO s ∧ npO (stPoster s (nI t) (nI (1 + h))) = npO s + 1 := by
          unfold stPoster
          rw [if_pos hcd]
          refine ⟨?_, ?_⟩
          · unfold nfO; rw [wr_ne _ _ _ _ (Or.inr (by decide)), wr_row _ _ _ _ (by decide), wr_row _ _ _ _ (by decide)]
          · show iz (wr (wr (wr s 12 (npO s) (nI t)) 13 (npO s) (nI (1 + h))) 0 2 (nI (npO s + 1)) 0 2) = _; rw [wr_same]; exact iz_nI (by omega)
        refine l_canon hC g5 g6 g4 (fun q q1 q2 => sgP_r hn6 q q1 q2) (fun a b _ a2 _ b2 _ _ h => sgP_inj a b a2 b2 h) ?_
        refine v_icmp_ne (tgt := 552) (C.wl _ _) dL_act_545 (by decide) (fun h => absurd rfl h) (fun _ => ?_)
        refine v_iconst (v := 1) (C.wl _ _) dL_act_548 (by decide) ?_
        refine v_goto (tgt := 553) (C.wl _ _) dL_act_549 (by decide) ?_
        refine v_wide (k := 70) (n := 700) (by show 0 + 1 + 4 + 1 + 6 ≤ 70; omega) (by show 0 + 8 + 10 + 100 + 60 ≤ 700; omega) ?_
        exact ret _ _ _ _ _ dL_act_553 ⟨⟨by show (if (30 : Nat) < 600 then ad528 30 else _) = _; rw [if_pos (by decide), hA528.1 30 (by decide), hA511 30 (by decide), hAq 30 (by decide)], by show (if (600 : Nat) < 600 then _ else ad528 (sgP (npO s) 600)) = _; rw [if_neg (by decide), show sgP (npO s) 600 = 600 by unfold sgP; rw [if_neg (by decide), if_neg (by omega)], hA528.2 600 (by decide), hA511 600 (by decide), hAq 600 (by decide)]⟩, _, (hL).1, (hL).2, Cn_Sim hC g5 g6 g4, Cn_Fr hC g5 g6 g4 (fun q q1 q2 => sgP_r hn6 q q1 q2), hRl528, (by rw [eN.1]; exact Nat.le_refl _), (by rw [eN.2]; omega)⟩
  refine v_if_ne (tgt := 469) (C.wl _ _) dL_act_461 (by decide) (fun _ => ?_) (fun _ => ?_)
  · exact v_bipush (v := nI 8) (C.wl _ _) dL_act_469 rfl (J461 8 (Or.inr rfl))
  · refine v_bipush (v := nI 20) (C.wl _ _) dL_act_464 rfl ?_
    exact v_goto (tgt := 471) (C.wl _ _) dL_act_466 (by decide) (J461 20 (Or.inl rfl))
set_option maxRecDepth 100000 in
theorem act_line {P : Pm} {Z : Zc} {ad : Nat → Nat} {N : Nat} {s m g : MG} (hP9 : P.2.1.stackTraces = false) (C : Cx P Z cL_act "PosterTypesLaw") (hW9 : CxW P Z) (hT : CxT P hhA) (hN : N + 1 ≤ 2048) (hE : LE N s) (hR : SimR s m) (hF : Fr m 900) (hRl : Rl s g) (x : Int32) (f k p : Nat) (hf : f < nfO s) (hk : k < 10) (hp : p < npO s) (ret : RetA P Z ad N s)  : V P RA (Z.wl ad m) [some (.ref (ad 30)), some (.ref (ad 600)), some (.int x), some (.int (nI f)), some (.int (nI k)), some (.int (nI p)), some (.ref (ad (700 + 20 * p))), none, none, none, none, none, none, none, none] 554 [] g 0 0 := by
  have hI := hE.1.1
  have hf5 := (IvM_nf hI).1
  have hp6 := (IvM_np hI).1
  have h4 := (IvM_nl hI (show p < 6 by omega)).2
  obtain ⟨hPF, hPL, hPX⟩ := hR.L hp
  refine v_aload_n (C.wl _ _) dL_act_554 rfl rfl ?_
  refine l_get (k := 600) C inG5 (ci := 6) rfl 6 (by decide) (tg5 14 rfl rfl) rfl ⟨by decide, by decide⟩ (cW_6 hR.1.1) (sm_r (by decide) hR.1.2.2.2.2.2.2.2 ⟨by decide, by decide⟩) dL_act_555 ?_
  refine l_len (k := 605) (n := npO s) C ⟨by decide, by decide⟩ (Or.inr (Or.inr (Or.inr hR.2.2.2.2.2.1.1.1))) hR.2.2.2.2.2.1.1.2 (by omega) dL_act_558 ?_
  refine v_if_ne (tgt := 564) (C.wl _ _) dL_act_559 (by decide) (fun h559 => ?_) (fun h559 => ?_)
  · refine v_iload_n (C.wl _ _) dL_act_564 rfl rfl ?_
    refine v_iconst (v := 3) (C.wl _ _) dL_act_565 (by decide) ?_
    refine v_ishr (C.wl _ _) dL_act_566 ?_
    refine v_callSi (n := 1) (as := [.int (x >>> (3 &&& 31))]) (C.wl _ _) (l_word _ Z ad m (x >>> (3 &&& 31)) g) (gs (tg3 162 rfl rfl) (tg3 163 rfl rfl) (tg1 0 rfl rfl) (tg3 164 rfl rfl)) (by decide +kernel) ⟨Nat.le_of_ble_eq_true rfl, Nat.le_of_ble_eq_true rfl⟩ rfl rfl (Nat.le_of_ble_eq_true rfl) dL_act_567 ⟨(by show 0 + 0 ≤ 70; omega), (by show 0 + 0 ≤ 700; omega)⟩ (fun r567 gg567 hp567 => ?_)
    obtain ⟨⟨wd, hwd, hr567⟩, hgg567⟩ := hp567
    rw [hr567, hgg567]
    have hcv := cdLi_v hI hp hwd
    refine v_istore (lo' := [some (.ref (ad 30)), some (.ref (ad 600)), some (.int x), some (.int (nI f)), some (.int (nI k)), some (.int (nI p)), some (.ref (ad (700 + 20 * p))), none, none, some (.int (nI wd)), none, none, none, none, none]) (C.wl _ _) dL_act_570 (Nat.le_of_ble_eq_true rfl) rfl rfl ?_
    refine v_aload (C.wl _ _) dL_act_572 rfl ?_
    refine l_get (k := 700 + 20 * p) C inG4 (ci := 5) rfl 3 (by decide) (tg2 185 rfl rfl) rfl ⟨by omega, by omega⟩ (cW_5 hPF.1) rfl dL_act_574 ?_
    refine v_topi (y := s 15 p) hPF.2.2.2.2.1 ?_
    refine v_if_ne (tgt := 590) (C.wl _ _) dL_act_577 (by decide) (fun h577 => ?_) (fun h577 => ?_)
    · have h3 : s 15 p = 1 ∨ nlO s p = 4 := Or.inl ((IvM_01 hI (show p < 6 by omega)).resolve_left h577)
      have hcd : cdLine s (nI p) (nI wd) = 3 := hcv.trans (if_pos h3)
      refine v_iconst (v := (-1)) (C.wl _ _) dL_act_590 (by decide) ?_
      refine v_goto (tgt := 600) (C.wl _ _) dL_act_591 (by decide) ?_
      refine v_istore (lo' := [some (.ref (ad 30)), some (.ref (ad 600)), some (.int x), some (.int (nI f)), some (.int (nI k)), some (.int (nI p)), some (.ref (ad (700 + 20 * p))), none, some (.int (-1)), some (.int (nI wd)), none, none, none, none, none]) (C.wl _ _) dL_act_600 (Nat.le_of_ble_eq_true rfl) rfl rfl ?_
      refine v_iload (C.wl _ _) dL_act_602 rfl ?_
      refine v_if_lt (tgt := 625) (C.wl _ _) dL_act_604 (by decide) (fun h604 => ?_) (fun h604 => ?_)
      · refine v_aload_n (C.wl _ _) dL_act_625 rfl rfl ?_
        refine v_iload (C.wl _ _) dL_act_626 rfl ?_
        refine v_iload (C.wl _ _) dL_act_628 rfl ?_
        refine v_callM (n := 2) (k := 30) (as := [.int (nI p), .int (nI wd)]) (C.wl _ _) hW9.S (x_line _ hP9 (Z.wl ad m) (nI p) (nI wd) s g hE.1.1 hRl) (gv (tg4 174 rfl rfl) (tg4 175 rfl rfl) (tg4 176 rfl rfl) (tg1 1 rfl rfl) (tg4 177 rfl rfl)) (by decide +kernel) ⟨Nat.le_of_ble_eq_true rfl, Nat.le_of_ble_eq_true rfl⟩ rfl cx_T rfl rfl (Nat.le_of_ble_eq_true rfl) dL_act_630 ⟨(by show 0 + 6 ≤ 70; omega), (by show 0 + 60 ≤ 700; omega)⟩ (fun E q630 g630 hp630 => ?_) (fun r630 ad630 g630 hp630 => absurd (hcd.symm.trans hp630.1) (by decide))
        obtain ⟨-, hX630, hRl630, -⟩ := hp630
        rw [hcd] at hX630
        have hX630 : E = exC 2 := hX630
        subst hX630
        refine v_catchU (k := 2) (C.wl _ _) hW9.S hT 2 rfl (by decide) (by decide) (tg3 28 rfl rfl) (List.mem_of_getElem? (i := 5) rfl) (fun j hj => by rcases j with _ | _ | j <;> first | exact ⟨_, rfl, by decide⟩ | omega) ?_
        refine v_astore (lo' := [some (.ref (ad 30)), some (.ref (ad 600)), some (.int x), some (.int (nI f)), some (.int (nI k)), some (.int (nI p)), some (.ref (ad (700 + 20 * p))), none, some (.int (-1)), some (.int (nI wd)), some (.ref q630), none, none, none, none]) (C.wl _ _) dL_act_638 (Nat.le_of_ble_eq_true rfl) rfl rfl ?_
        refine v_iconst (v := (-1)) (C.wl _ _) dL_act_640 (by decide) ?_
        refine v_istore (lo' := [some (.ref (ad 30)), some (.ref (ad 600)), some (.int x), some (.int (nI f)), some (.int (nI k)), some (.int (nI p)), some (.ref (ad (700 + 20 * p))), some (.int (-1)), some (.int (-1)), some (.int (nI wd)), some (.ref q630), none, none, none, none]) (C.wl _ _) dL_act_641 (Nat.le_of_ble_eq_true rfl) rfl rfl ?_
        refine v_iload (C.wl _ _) dL_act_643 rfl ?_
        refine v_iload (C.wl _ _) dL_act_645 rfl ?_
        have hst : stLine s (nI p) (nI wd) = s := by unfold stLine; rw [if_neg (by rw [hcd]; decide)]
        refine v_icmp_ne (tgt := 654) (C.wl _ _) dL_act_647 (by decide) (fun h => absurd rfl h) (fun _ => ?_)
        refine v_iconst (v := 1) (C.wl _ _) dL_act_650 (by decide) ?_
        refine v_goto (tgt := 655) (C.wl _ _) dL_act_651 (by decide) ?_
        refine v_wide (k := 70) (n := 700) (by show 0 + 6 ≤ 70; omega) (by show 0 + 60 ≤ 700; omega) ?_
        exact ret _ _ _ _ _ dL_act_655 ⟨⟨rfl, rfl⟩, s, (LE.rf hE hN).1, (LE.rf hE hN).2, hR, hF, (by rw [← hst]; exact hRl630), (Nat.le_refl _), (Nat.le_refl _)⟩
      · exact absurd (by decide) h604
    · have h15 : ¬ s 15 p = 1 := fun z => absurd (h577.symm.trans z) (by decide)
      refine v_aload (C.wl _ _) dL_act_580 rfl ?_
      refine l_get (k := 700 + 20 * p) C inG4 (ci := 5) rfl 2 (by decide) (tg2 182 rfl rfl) rfl ⟨by omega, by omega⟩ (cW_5 hPF.1) (ps_r (by decide) hPF.2.2.2.1 ⟨by omega, by omega⟩) dL_act_582 ?_
      refine l_len (k := 701 + 20 * p) (n := nlO s p) C ⟨by omega, by omega⟩ (Or.inr (Or.inl hPL.1.1)) hPL.1.2 (by omega) dL_act_585 ?_
      refine v_iconst (v := 4) (C.wl _ _) dL_act_586 (by decide) ?_
      refine v_icmp_ne (tgt := 594) (C.wl _ _) dL_act_587 (by decide) (fun h587 => ?_) (fun h587 => ?_)
      · have hn4 : nlO s p < 4 := by have : nlO s p ≠ 4 := fun z => h587 (congrArg nI z); omega
        have hcd : cdLine s (nI p) (nI wd) = 0 := hcv.trans (if_neg (fun z => z.elim h15 (fun z => by omega)))
        refine v_aload (C.wl _ _) dL_act_594 rfl ?_
        refine l_get (k := 700 + 20 * p) C inG4 (ci := 5) rfl 2 (by decide) (tg2 182 rfl rfl) rfl ⟨by omega, by omega⟩ (cW_5 hPF.1) (ps_r (by decide) hPF.2.2.2.1 ⟨by omega, by omega⟩) dL_act_596 ?_
        refine l_len (k := 701 + 20 * p) (n := nlO s p) C ⟨by omega, by omega⟩ (Or.inr (Or.inl hPL.1.1)) hPL.1.2 (by omega) dL_act_599 ?_
        refine v_istore (lo' := [some (.ref (ad 30)), some (.ref (ad 600)), some (.int x), some (.int (nI f)), some (.int (nI k)), some (.int (nI p)), some (.ref (ad (700 + 20 * p))), none, some (.int (nI (nlO s p))), some (.int (nI wd)), none, none, none, none, none]) (C.wl _ _) dL_act_600 (Nat.le_of_ble_eq_true rfl) rfl rfl ?_
        refine v_iload (C.wl _ _) dL_act_602 rfl ?_
        refine v_if_lt (tgt := 625) (C.wl _ _) dL_act_604 (by decide) (fun h604 => ?_) (fun h604 => ?_)
        · exact absurd h604 (nI_pos (by omega))
        · refine v_aload (C.wl _ _) dL_act_607 rfl ?_
          refine v_aload (C.wl _ _) dL_act_609 rfl ?_
          refine l_get (k := 700 + 20 * p) C inG4 (ci := 5) rfl 2 (by decide) (tg2 182 rfl rfl) rfl ⟨by omega, by omega⟩ (cW_5 hPF.1) (ps_r (by decide) hPF.2.2.2.1 ⟨by omega, by omega⟩) dL_act_611 ?_
          refine v_iload (C.wl _ _) dL_act_614 rfl ?_
          refine l_callSq (n := 1) (as := [.int (nI wd)]) C hW9 (l_letters _ Z ad m g wd 900 hwd hF (by decide)) (gs2 (tg3 165 rfl rfl) (tg3 166 rfl rfl) (tg1 6 rfl rfl) (tg3 167 rfl rfl)) (by decide +kernel) ⟨Nat.le_of_ble_eq_true rfl, Nat.le_of_ble_eq_true rfl⟩ rfl rfl (Nat.le_of_ble_eq_true rfl) dL_act_616 ⟨(by show 0 + 5 ≤ 70; omega), (by show 0 + 60 ≤ 700; omega)⟩ (fun v616 ad616 mL g616 hp616 => ?_)
          obtain ⟨hv616, hA616, hmo, hLt, hF616, hg616⟩ := hp616
          rw [hv616, hg616]
          have hF9 : Fr mL 901 := hF616
          refine v_lo (lo' := [some (.ref (ad616 30)), some (.ref (ad616 600)), some (.int x), some (.int (nI f)), some (.int (nI k)), some (.int (nI p)), some (.ref (ad616 (700 + 20 * p))), none, some (.int (nI (nlO s p))), some (.int (nI wd)), none, none, none, none, none]) (by rw [hA616 30 (by decide), hA616 600 (by decide), hA616 (700 + 20 * p) (by omega)]) ?_
          refine v_st (st' := [.ref (ad616 900), .ref (ad616 (701 + 20 * p)), .ref (ad616 (700 + 20 * p))]) (by rw [hA616 (701 + 20 * p) (by omega), hA616 (700 + 20 * p) (by omega)]; rfl) ?_
          refine l_callSq (n := 2) (as := [.ref (ad616 (701 + 20 * p)), .ref (ad616 900)]) C hW9 (l_moreR _ Z ad616 mL g 901 hF9 (701 + 20 * p) 900 (nlO s p) (fun i => 705 + 20 * p + i) (by decide) ⟨by omega, by omega⟩ (by unfold isQ; rw [hmo _ (by omega)]; exact hPL.1) (by omega) (fun i hi => ⟨by rw [hmo _ (by omega)]; exact (hPL.2 i hi).1, by omega, by omega, szw (wdO s (4 * p + i)), by have := @szw_le (wdO s (4 * p + i)); omega, by unfold isA; rw [hmo _ (by omega)]; exact (hPL.2 i hi).2.1⟩) (by decide) (szw wd) (by have := @szw_le wd; omega) hLt.1) (gs2 (tg4 171 rfl rfl) (tg4 172 rfl rfl) (tg1 6 rfl rfl) (tg4 173 rfl rfl)) (by decide +kernel) ⟨Nat.le_of_ble_eq_true rfl, Nat.le_of_ble_eq_true rfl⟩ rfl rfl (Nat.le_of_ble_eq_true rfl) dL_act_619 ⟨(by show 0 + 5 + 1 ≤ 70; omega), (by show 0 + 60 + 100 ≤ 700; omega)⟩ (fun v619 ad619 m619 g619 hp619 => ?_)
          obtain ⟨r9, hv619, hA619, hm619, hr1, hr2, hr3, hr4, hF619, hg619⟩ := hp619
          rw [hv619, hg619]
          have jmo : ∀ q, q ≠ 901 → m619 q = mL q := fun q hq => by rw [hm619]; exact rwr_ne _ _ _ hq
          have j5 : m619 901 = r9 := by rw [hm619]; exact rwr_same _ _ _
          refine v_lo (lo' := [some (.ref (ad619 30)), some (.ref (ad619 600)), some (.int x), some (.int (nI f)), some (.int (nI k)), some (.int (nI p)), some (.ref (ad619 (700 + 20 * p))), none, some (.int (nI (nlO s p))), some (.int (nI wd)), none, none, none, none, none]) (by rw [hA619 30 (by decide), hA619 600 (by decide), hA619 (700 + 20 * p) (by omega)]) ?_
          refine v_st (st' := [.ref (ad619 901), .ref (ad619 (700 + 20 * p))]) (by rw [hA619 (700 + 20 * p) (by omega)]; rfl) ?_
          refine l_put (k := 700 + 20 * p) (x := nI 901) C inG4 (ci := 5) rfl tyX4 tyX4_ok nmX4 2 (by decide) (tg2 182 rfl rfl) rfl rfl rfl rfl rfl ⟨by omega, by omega⟩ (cW_5 ((congrFun ((jmo _ (by omega)).trans (hmo _ (by omega))) _).trans hPF.1)) (Nat.le_of_ble_eq_true rfl) ((cW_5 (show upd (m619 (700 + 20 * p)) 2 (nI 901) 100000 = 5 from (if_neg (by decide : ¬ (100000 : Nat) = 2)).trans ((congrFun ((jmo _ (by omega)).trans (hmo _ (by omega))) _).trans hPF.1))).trans (congrArg (fun q => some (Sum.inr (5, q))) (ps_put (by decide) ⟨by decide, by decide⟩))) dL_act_622 ?_
          have imo : ∀ q, q ≠ 700 + 20 * p → (wr m619 (700 + 20 * p) 2 (nI 901)) q = m619 q := fun q hq => wr_row _ _ _ _ hq
          have i6 : ∀ j, (wr m619 (700 + 20 * p) 2 (nI 901)) (700 + 20 * p) j = if j = 2 then nI 901 else m (700 + 20 * p) j := fun j => by rw [wr_own]; unfold upd; rw [jmo _ (by omega), hmo _ (by omega)]
          generalize wr m619 (700 + 20 * p) 2 (nI 901) = mZ at imo i6 ⊢
          refine v_aload_n (C.wl _ _) dL_act_625 rfl rfl ?_
          refine v_iload (C.wl _ _) dL_act_626 rfl ?_
          refine v_iload (C.wl _ _) dL_act_628 rfl ?_
          refine v_callM (n := 2) (k := 30) (as := [.int (nI p), .int (nI wd)]) (C.wl _ _) hW9.S (x_line _ hP9 (Z.wl ad619 mZ) (nI p) (nI wd) s g hE.1.1 hRl) (gv (tg4 174 rfl rfl) (tg4 175 rfl rfl) (tg4 176 rfl rfl) (tg1 1 rfl rfl) (tg4 177 rfl rfl)) (by decide +kernel) ⟨Nat.le_of_ble_eq_true rfl, Nat.le_of_ble_eq_true rfl⟩ rfl cx_T rfl rfl (Nat.le_of_ble_eq_true rfl) dL_act_630 ⟨(by show 0 + 5 + 1 + 6 ≤ 70; omega), (by show 0 + 60 + 100 + 60 ≤ 700; omega)⟩ (fun E q g630 hp630 => absurd hcd hp630.1) (fun r630 ad630 g630 hp630 => ?_)
          obtain ⟨-, hr630, hRl630, -, hA630⟩ := hp630
          have hA630 : (∀ k, k < 36 → ad630 k = ad619 k) ∧ ∀ k, 600 ≤ k → ad630 k = ad619 k := hA630
          rw [hr630, iz_nI (show p < 2147483648 by omega)]
          show V P RA (Z.wl ad630 mZ) [some (.ref (ad619 30)), some (.ref (ad619 600)), some (.int x), some (.int (nI f)), some (.int (nI k)), some (.int (nI p)), some (.ref (ad619 (700 + 20 * p))), none, some (.int (nI (nlO s p))), some (.int (nI wd)), none, none, none, none, none] 633 [.int (nI (nlO s p))] g630 (0 + 5 + 1 + 6) (0 + 60 + 100 + 60)
          refine v_istore (lo' := [some (.ref (ad619 30)), some (.ref (ad619 600)), some (.int x), some (.int (nI f)), some (.int (nI k)), some (.int (nI p)), some (.ref (ad619 (700 + 20 * p))), some (.int (nI (nlO s p))), some (.int (nI (nlO s p))), some (.int (nI wd)), none, none, none, none, none]) (C.wl _ _) dL_act_633 (Nat.le_of_ble_eq_true rfl) rfl rfl ?_
          refine v_goto (tgt := 643) (C.wl _ _) dL_act_635 (by decide) ?_
          refine v_iload (C.wl _ _) dL_act_643 rfl ?_
          refine v_iload (C.wl _ _) dL_act_645 rfl ?_
          have hC : Cn (stLine s (nI p) (nI wd)) mZ (sgL p (nlO s p)) := by
            refine Cn_line hI hR hp hwd hcd h15 hn4 (fun q q1 q2 q3 => (imo q q3).trans ((jmo q (by omega)).trans (hmo q (by omega)))) ⟨fun j hj => (i6 j).trans (if_neg hj), (i6 2).trans (if_pos rfl)⟩ ⟨⟨?_, ?_⟩, fun i hi => ?_, ?_⟩ ?_
            · rw [imo _ (by omega), j5]; exact hr1
            · rw [imo _ (by omega), j5]; exact hr2
            · rw [imo _ (by omega), j5, hr3 i hi, hmo _ (by omega)]
            · rw [imo _ (by omega), j5]; exact hr4
            · exact LtR.c hLt ((imo _ (by omega)).trans (jmo _ (by decide)))
          have hL := LE_line hE hN (nI p) (nI wd)
          have g5 := (IvM_nf hL.1.1.1).1
          have g6 := (IvM_np hL.1.1.1).1
          have g4 : ∀ q, q < npO (stLine s (nI p) (nI wd)) → nlO (stLine s (nI p) (nI wd)) q ≤ 4 := fun q hq => (IvM_nl hL.1.1.1 (by omega)).2
          have e0 : stLine s (nI p) (nI wd) 0 = s 0 := by unfold stLine; rw [if_pos hcd, wr_row _ _ _ _ (by decide), wr_row _ _ _ _ (by decide)]
          refine l_canon hC g5 g6 g4 (fun q q1 q2 => sgL_r q q1 q2) (fun a b _ a2 _ b2 _ _ h => sgL_inj a b a2 b2 h) ?_
          refine v_icmp_ne (tgt := 654) (C.wl _ _) dL_act_647 (by decide) (fun h => absurd rfl h) (fun _ => ?_)
          refine v_iconst (v := 1) (C.wl _ _) dL_act_650 (by decide) ?_
          refine v_goto (tgt := 655) (C.wl _ _) dL_act_651 (by decide) ?_
          refine v_wide (k := 70) (n := 700) (by show 0 + 5 + 1 + 6 ≤ 70; omega) (by show 0 + 60 + 100 + 60 ≤ 700; omega) ?_
          exact ret _ _ _ _ _ dL_act_655 ⟨⟨by show (if (30 : Nat) < 600 then ad630 30 else _) = _; rw [if_pos (by decide), hA630.1 30 (by decide), hA619 30 (by decide), hA616 30 (by decide)], by show (if (600 : Nat) < 600 then _ else ad630 (sgL p (nlO s p) 600)) = _; rw [if_neg (by decide), show sgL p (nlO s p) 600 = 600 by unfold sgL; rw [if_neg (by omega), if_neg (by omega)], hA630.2 600 (by decide), hA619 600 (by decide), hA616 600 (by decide)]⟩, _, (hL).1, (hL).2, Cn_Sim hC g5 g6 g4, Cn_Fr hC g5 g6 g4 (fun q q1 q2 => sgL_r q q1 q2), hRl630, (st_nf e0).1, (st_nf e0).2⟩
      · have h3 : s 15 p = 1 ∨ nlO s p = 4 := Or.inr ((nI_eq (b := 4) (by omega) (by decide)).mp h587)
        have hcd : cdLine s (nI p) (nI wd) = 3 := hcv.trans (if_pos h3)
        refine v_iconst (v := (-1)) (C.wl _ _) dL_act_590 (by decide) ?_
        refine v_goto (tgt := 600) (C.wl _ _) dL_act_591 (by decide) ?_
        refine v_istore (lo' := [some (.ref (ad 30)), some (.ref (ad 600)), some (.int x), some (.int (nI f)), some (.int (nI k)), some (.int (nI p)), some (.ref (ad (700 + 20 * p))), none, some (.int (-1)), some (.int (nI wd)), none, none, none, none, none]) (C.wl _ _) dL_act_600 (Nat.le_of_ble_eq_true rfl) rfl rfl ?_
        refine v_iload (C.wl _ _) dL_act_602 rfl ?_
        refine v_if_lt (tgt := 625) (C.wl _ _) dL_act_604 (by decide) (fun h604 => ?_) (fun h604 => ?_)
        · refine v_aload_n (C.wl _ _) dL_act_625 rfl rfl ?_
          refine v_iload (C.wl _ _) dL_act_626 rfl ?_
          refine v_iload (C.wl _ _) dL_act_628 rfl ?_
          refine v_callM (n := 2) (k := 30) (as := [.int (nI p), .int (nI wd)]) (C.wl _ _) hW9.S (x_line _ hP9 (Z.wl ad m) (nI p) (nI wd) s g hE.1.1 hRl) (gv (tg4 174 rfl rfl) (tg4 175 rfl rfl) (tg4 176 rfl rfl) (tg1 1 rfl rfl) (tg4 177 rfl rfl)) (by decide +kernel) ⟨Nat.le_of_ble_eq_true rfl, Nat.le_of_ble_eq_true rfl⟩ rfl cx_T rfl rfl (Nat.le_of_ble_eq_true rfl) dL_act_630 ⟨(by show 0 + 6 ≤ 70; omega), (by show 0 + 60 ≤ 700; omega)⟩ (fun E q630 g630 hp630 => ?_) (fun r630 ad630 g630 hp630 => absurd (hcd.symm.trans hp630.1) (by decide))
          obtain ⟨-, hX630, hRl630, -⟩ := hp630
          rw [hcd] at hX630
          have hX630 : E = exC 2 := hX630
          subst hX630
          refine v_catchU (k := 2) (C.wl _ _) hW9.S hT 2 rfl (by decide) (by decide) (tg3 28 rfl rfl) (List.mem_of_getElem? (i := 5) rfl) (fun j hj => by rcases j with _ | _ | j <;> first | exact ⟨_, rfl, by decide⟩ | omega) ?_
          refine v_astore (lo' := [some (.ref (ad 30)), some (.ref (ad 600)), some (.int x), some (.int (nI f)), some (.int (nI k)), some (.int (nI p)), some (.ref (ad (700 + 20 * p))), none, some (.int (-1)), some (.int (nI wd)), some (.ref q630), none, none, none, none]) (C.wl _ _) dL_act_638 (Nat.le_of_ble_eq_true rfl) rfl rfl ?_
          refine v_iconst (v := (-1)) (C.wl _ _) dL_act_640 (by decide) ?_
          refine v_istore (lo' := [some (.ref (ad 30)), some (.ref (ad 600)), some (.int x), some (.int (nI f)), some (.int (nI k)), some (.int (nI p)), some (.ref (ad (700 + 20 * p))), some (.int (-1)), some (.int (-1)), some (.int (nI wd)), some (.ref q630), none, none, none, none]) (C.wl _ _) dL_act_641 (Nat.le_of_ble_eq_true rfl) rfl rfl ?_
          refine v_iload (C.wl _ _) dL_act_643 rfl ?_
          refine v_iload (C.wl _ _) dL_act_645 rfl ?_
          have hst : stLine s (nI p) (nI wd) = s := by unfold stLine; rw [if_neg (by rw [hcd]; decide)]
          refine v_icmp_ne (tgt := 654) (C.wl _ _) dL_act_647 (by decide) (fun h => absurd rfl h) (fun _ => ?_)
          refine v_iconst (v := 1) (C.wl _ _) dL_act_650 (by decide) ?_
          refine v_goto (tgt := 655) (C.wl _ _) dL_act_651 (by decide) ?_
          refine v_wide (k := 70) (n := 700) (by show 0 + 6 ≤ 70; omega) (by show 0 + 60 ≤ 700; omega) ?_
          exact ret _ _ _ _ _ dL_act_655 ⟨⟨rfl, rfl⟩, s, (LE.rf hE hN).1, (LE.rf hE hN).2, hR, hF, (by rw [← hst]; exact hRl630), (Nat.le_refl _), (Nat.le_refl _)⟩
        · exact absurd (by decide) h604
  · exact absurd ((nI_eq (b := 0) (by omega) (by decide)).mp h559) (by omega)
