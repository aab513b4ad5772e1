/-! THE LAW: posters -/
theorem prO_hg {s : MG} {p t : Nat} (h : s 15 p = 1) (ht : s 12 p = nI t) (ht4 : t < 4) : mx0 (hgS s p (nlO s p) * s 10 t - flO s p (nlO s p) * s 11 t) = toldO s p 7 := by
  show _ = prO s (wdO s) p (nlO s p) (iz (s 12 p))
  unfold prO hgS
  rw [if_pos h, h, if_neg (by decide), ht, iz_nI (by omega)]
theorem pr_0 {s : MG} {p : Nat} (h : s 15 p = 0) : toldO s p 7 = 0 := by
  show prO s (wdO s) p (nlO s p) (iz (s 12 p)) = 0
  unfold prO
  rw [if_pos h]
theorem ou_end {s : MG} {p : Nat} (x : Nat) : vL s (fun x => sumI (ouT s x) p) p (nlO s p) x = sumI (ouT s x) (p + 1) := rfl
set_option maxRecDepth 100000 in
theorem law_P {P : Pm} {Z : Zc} {S : Sc} {ad : Nat → Nat} {s m : MG} {N : Nat} {co br x6 : Int32} {time : Nat} {v7 v8 : Option Value} (hP9 : P.2.1.stackTraces = false) (C : Cx P Z cL_law "PosterTypesLaw") (hW9 : CxW P Z) (hE : LE N s) (hR0 : SimR s m) {c s0 : Nat} (hc : c + 260 ≤ 600130 ∧ s0 + 1600 ≤ 7301080)
    (K : ∀ (m1 g : MG) (v14 v15 v16 v17 v18 v19 v20 v21 v22 v23 : Option Value), OutI m m1 (nfO s) (fun x => sumI (ouT s x) (npO s)) → Rl s g → V P room_1 (Z.wl ad m1) [some (.ref S.1), some (.ref (ad 30)), some (.ref (ad 600)), some (.int co), some (.int br), some (.int (nI time)), some (.int x6), v7, v8, some (.int (nI (nfO s))), some (.ref (ad (900 + nfO s))), some (.int (sumI (fun q => flO s q (nlO s q)) (npO s))), some (.int (sumI (alO s) (npO s))), some (.int (nI (npO s))), v14, v15, v16, v17, v18, v19, v20, v21, v22, v23] 584 [] g (c + 250) (s0 + 1500))
    : ∀ (q p : Nat) (m1 g : MG) (v14 v15 v16 v17 v18 v19 v20 v21 v22 v23 : Option Value), npO s - p < q → p ≤ npO s → OutI m m1 (nfO s) (fun x => sumI (ouT s x) p) → Rl s g → V P room_1 (Z.wl ad m1) [some (.ref S.1), some (.ref (ad 30)), some (.ref (ad 600)), some (.int co), some (.int br), some (.int (nI time)), some (.int x6), v7, v8, some (.int (nI (nfO s))), some (.ref (ad (900 + nfO s))), some (.int (sumI (fun q => flO s q (nlO s q)) p)), some (.int (sumI (alO s) p)), some (.int (nI p)), v14, v15, v16, v17, v18, v19, v20, v21, v22, v23] 155 [] g (c + 40 * p) (s0 + 240 * p) := by
  have hI := hE.1.1
  have hf5 := (IvM_nf hI).1
  have hp6 := (IvM_np hI).1
  intro q
  induction q with
  | zero => intro p m1 g v14 v15 v16 v17 v18 v19 v20 v21 v22 v23 hq; exact absurd hq (Nat.not_lt_zero _)
  | succ q ih =>
    intro p m1 g v14 v15 v16 v17 v18 v19 v20 v21 v22 v23 hq hi hO hRl
    have hR := hR0.low hI (fun k k1 k2 => hO.1 k k1 k2)
    refine v_iload (C.wl _ _) dL_law_155 rfl ?_
    refine v_aload_n (C.wl _ _) dL_law_157 rfl rfl ?_
    refine v_iconst (v := 1) (C.wl _ _) dL_law_158 (by decide) ?_
    refine v_callX (n := 1) (k := 30) (as := [.int 1]) (C.wl _ _) hW9.S (x_count _ hP9 (Z.wl ad m1) 1 s g hE.1.1 hE.1.2.2.1 hRl) (gv (tg2 88 rfl rfl) (tg2 89 rfl rfl) (tg2 90 rfl rfl) (tg1 1 rfl rfl) (tg2 91 rfl rfl)) (by decide +kernel) ⟨Nat.le_of_ble_eq_true rfl, Nat.le_of_ble_eq_true rfl⟩ rfl cx_T rfl rfl (Nat.le_of_ble_eq_true rfl) dL_law_159 ⟨(by show c + 40 * p + 1 ≤ 600130; omega), (by show s0 + 240 * p + 6 ≤ 7301080; omega)⟩ (fun E q g159 hp159 => absurd (cdC_0 (v := 1) (by decide)) hp159.1) (fun r159 g159 hp159 => ?_)
    obtain ⟨-, hr159, hRl159, hK159⟩ := hp159
    refine v_topi (y := nI (npO s)) (hr159.trans ((congrArg (ctO s) (show iz 1 = 1 from rfl)).trans (ct_eq hI hE.1.2.2.1 (by decide)))) ?_
    refine v_icmp_ge (tgt := 584) (C.wl _ _) dL_law_162 (by decide) (fun h162 => ?_) (fun h162 => ?_)
    · refine v_wide (k := c + 250) (n := s0 + 1500) (by show c + 40 * p + 1 ≤ c + 250; omega) (by show s0 + 240 * p + 6 ≤ s0 + 1500; omega) ?_
      have hie : p = npO s := Nat.le_antisymm hi ((nI_leI (by omega) (by omega)).mp h162)
      rw [hie] at hO ⊢
      exact K m1 g159 v14 v15 v16 v17 v18 v19 v20 v21 v22 v23 hO hRl159
    · have hp : p < npO s := Nat.lt_of_not_le fun q => h162 ((nI_leI (by omega) (by omega)).mpr q)
      have h4 := (IvM_nl hI (show p < 6 by omega)).2
      obtain ⟨hPF, hPL, hPX⟩ := hR.L hp
      obtain ⟨t, ht4, hte⟩ := hI.2.2.2.2.1 p (show p < 6 by omega)
      have h01 := IvM_01 hI (show p < 6 by omega)
      refine v_aload_n (C.wl _ _) dL_law_165 rfl rfl ?_
      refine v_iload (C.wl _ _) dL_law_166 rfl ?_
      refine v_iconst (v := 4) (C.wl _ _) dL_law_168 (by decide) ?_
      refine v_callX (n := 2) (k := 30) (as := [.int (nI p), .int 4]) (C.wl _ _) hW9.S (x_told _ hP9 (Z.wl ad m1) (nI p) 4 s g159 hE.1.1 hE.1.2.1 hRl159) (gv (tg2 47 rfl rfl) (tg2 48 rfl rfl) (tg2 49 rfl rfl) (tg1 1 rfl rfl) (tg2 50 rfl rfl)) (by decide +kernel) ⟨Nat.le_of_ble_eq_true rfl, Nat.le_of_ble_eq_true rfl⟩ rfl cx_T rfl rfl (Nat.le_of_ble_eq_true rfl) dL_law_169 ⟨(by show c + 40 * p + 1 + 1 ≤ 600130; omega), (by show s0 + 240 * p + 6 + 6 ≤ 7301080; omega)⟩ (fun E q g169 hp169 => absurd (cdT_0 hI hp (v := 4) (by decide)) hp169.1) (fun r169 g169 hp169 => ?_)
      obtain ⟨-, hr169, hRl169, hK169⟩ := hp169
      refine v_topi (y := s 15 p) (hr169.trans (by rw [iz_nI (show p < 2147483648 by omega)]; exact rfl)) ?_
      refine v_iconst (v := 1) (C.wl _ _) dL_law_172 (by decide) ?_
      have J173 : V P room_1 (Z.wl ad m1) [some (.ref S.1), some (.ref (ad 30)), some (.ref (ad 600)), some (.int co), some (.int br), some (.int (nI time)), some (.int x6), v7, v8, some (.int (nI (nfO s))), some (.ref (ad (900 + nfO s))), some (.int (sumI (fun q => flO s q (nlO s q)) p)), some (.int (sumI (alO s) p)), some (.int (nI p)), v14, v15, v16, v17, v18, v19, v20, v21, v22, v23] 181 [.int (s 15 p)] g169 (c + 40 * p + 1 + 1) (s0 + 240 * p + 6 + 6) := by
        refine v_istore (lo' := [some (.ref S.1), some (.ref (ad 30)), some (.ref (ad 600)), some (.int co), some (.int br), some (.int (nI time)), some (.int x6), v7, v8, some (.int (nI (nfO s))), some (.ref (ad (900 + nfO s))), some (.int (sumI (fun q => flO s q (nlO s q)) p)), some (.int (sumI (alO s) p)), some (.int (nI p)), some (.int (s 15 p)), v15, v16, v17, v18, v19, v20, v21, v22, v23]) (C.wl _ _) dL_law_181 (Nat.le_of_ble_eq_true rfl) rfl rfl ?_
        refine v_iconst (v := 0) (C.wl _ _) dL_law_183 (by decide) ?_
        refine v_istore (lo' := [some (.ref S.1), some (.ref (ad 30)), some (.ref (ad 600)), some (.int co), some (.int br), some (.int (nI time)), some (.int x6), v7, v8, some (.int (nI (nfO s))), some (.ref (ad (900 + nfO s))), some (.int (sumI (fun q => flO s q (nlO s q)) p)), some (.int (sumI (alO s) p)), some (.int (nI p)), some (.int (s 15 p)), some (.int 0), v16, v17, v18, v19, v20, v21, v22, v23]) (C.wl _ _) dL_law_184 (Nat.le_of_ble_eq_true rfl) rfl rfl ?_
        refine v_iconst (v := 0) (C.wl _ _) dL_law_186 (by decide) ?_
        refine v_istore (lo' := [some (.ref S.1), some (.ref (ad 30)), some (.ref (ad 600)), some (.int co), some (.int br), some (.int (nI time)), some (.int x6), v7, v8, some (.int (nI (nfO s))), some (.ref (ad (900 + nfO s))), some (.int (sumI (fun q => flO s q (nlO s q)) p)), some (.int (sumI (alO s) p)), some (.int (nI p)), some (.int (s 15 p)), some (.int 0), some (.int 0), v17, v18, v19, v20, v21, v22, v23]) (C.wl _ _) dL_law_187 (Nat.le_of_ble_eq_true rfl) rfl rfl ?_
        refine v_iconst (v := 0) (C.wl _ _) dL_law_189 (by decide) ?_
        refine v_istore (lo' := [some (.ref S.1), some (.ref (ad 30)), some (.ref (ad 600)), some (.int co), some (.int br), some (.int (nI time)), some (.int x6), v7, v8, some (.int (nI (nfO s))), some (.ref (ad (900 + nfO s))), some (.int (sumI (fun q => flO s q (nlO s q)) p)), some (.int (sumI (alO s) p)), some (.int (nI p)), some (.int (s 15 p)), some (.int 0), some (.int 0), some (.int 0), v18, v19, v20, v21, v22, v23]) (C.wl _ _) dL_law_190 (Nat.le_of_ble_eq_true rfl) rfl rfl ?_
        refine v_iconst (v := 0) (C.wl _ _) dL_law_192 (by decide) ?_
        refine v_istore (lo' := [some (.ref S.1), some (.ref (ad 30)), some (.ref (ad 600)), some (.int co), some (.int br), some (.int (nI time)), some (.int x6), v7, v8, some (.int (nI (nfO s))), some (.ref (ad (900 + nfO s))), some (.int (sumI (fun q => flO s q (nlO s q)) p)), some (.int (sumI (alO s) p)), some (.int (nI p)), some (.int (s 15 p)), some (.int 0), some (.int 0), some (.int 0), some (.int 0), v19, v20, v21, v22, v23]) (C.wl _ _) dL_law_193 (Nat.le_of_ble_eq_true rfl) rfl rfl ?_
        refine v_lo (lo' := [some (.ref S.1), some (.ref (ad 30)), some (.ref (ad 600)), some (.int co), some (.int br), some (.int (nI time)), some (.int x6), v7, v8, some (.int (nI (nfO s))), some (.ref (ad (900 + nfO s))), some (.int (sumI (fun q => flO s q (nlO s q)) p)), some (.int (sumI (alO s) p)), some (.int (nI p)), some (.int (s 15 p)), some (.int (hgS s p 0)), some (.int 0), some (.int 0), some (.int 0), v19, v20, v21, v22, v23]) (by rw [show hgS s p 0 = 0 by unfold hgS; split <;> rfl]) ?_
        refine v_lo (lo' := [some (.ref S.1), some (.ref (ad 30)), some (.ref (ad 600)), some (.int co), some (.int br), some (.int (nI time)), some (.int x6), v7, v8, some (.int (nI (nfO s))), some (.ref (ad (900 + nfO s))), some (.int (sumI (fun q => flO s q (nlO s q)) p)), some (.int (sumI (alO s) p)), some (.int (nI p)), some (.int (s 15 p)), some (.int (hgS s p 0)), some (.int (flO s p 0)), some (.int 0), some (.int 0), v19, v20, v21, v22, v23]) (by rw [show flO s p 0 = 0 by unfold flO; split <;> rfl]) ?_
        refine v_lo (lo' := [some (.ref S.1), some (.ref (ad 30)), some (.ref (ad 600)), some (.int co), some (.int br), some (.int (nI time)), some (.int x6), v7, v8, some (.int (nI (nfO s))), some (.ref (ad (900 + nfO s))), some (.int (sumI (fun q => flO s q (nlO s q)) p)), some (.int (sumI (alO s) p)), some (.int (nI p)), some (.int (s 15 p)), some (.int (hgS s p 0)), some (.int (flO s p 0)), some (.int (mnS s p 0)), some (.int 0), v19, v20, v21, v22, v23]) rfl ?_
        refine v_lo (lo' := [some (.ref S.1), some (.ref (ad 30)), some (.ref (ad 600)), some (.int co), some (.int br), some (.int (nI time)), some (.int x6), v7, v8, some (.int (nI (nfO s))), some (.ref (ad (900 + nfO s))), some (.int (sumI (fun q => flO s q (nlO s q)) p)), some (.int (sumI (alO s) p)), some (.int (nI p)), some (.int (s 15 p)), some (.int (hgS s p 0)), some (.int (flO s p 0)), some (.int (mnS s p 0)), some (.int (nI 0)), v19, v20, v21, v22, v23]) rfl ?_
        refine v_wide (k := c + 40 * p + 2 + 6 * 0) (n := s0 + 240 * p + 12 + 36 * 0) (by show c + 40 * p + 1 + 1 ≤ c + 40 * p + 2 + 6 * 0; omega) (by show s0 + 240 * p + 6 + 6 ≤ s0 + 240 * p + 12 + 36 * 0; omega) ?_
        refine law_ln hP9 C hW9 hE hR0 (c := c + 40 * p + 2) (s0 := s0 + 240 * p + 12) hp ⟨by omega, by omega⟩ (fun m2 g2 w19 w20 w21 w22 w23 hO2 hRl2 => ?_) _ 0 m1 g169 _ _ _ _ _ (Nat.lt_succ_self _) (Nat.zero_le _) (hO.c (fun x _ => by unfold vL ouS; split <;> exact (Int32.add_zero _).symm)) hRl169
        have hO3 : OutI m m2 (nfO s) (fun x => sumI (ouT s x) (p + 1)) := hO2.c (fun x _ => ou_end x)
        have hO := hO3
        have hR := hR0.low hI (fun k k1 k2 => hO.1 k k1 k2)
        obtain ⟨hPF, hPL, hPX⟩ := hR.L hp
        refine v_aload_n (C.wl _ _) dL_law_435 rfl rfl ?_
        refine l_get (k := 600) C inG5 (ci := 6) rfl 5 (by decide) (tg5 12 rfl rfl) rfl ⟨by decide, by decide⟩ (cW_6 hR.1.1) (sm_r (by decide) hR.1.2.2.2.2.2.2.1 ⟨by decide, by decide⟩) dL_law_436 ?_
        refine v_aload_n (C.wl _ _) dL_law_439 rfl rfl ?_
        refine v_iload (C.wl _ _) dL_law_440 rfl ?_
        refine v_iconst (v := 0) (C.wl _ _) dL_law_442 (by decide) ?_
        refine v_callX (n := 2) (k := 30) (as := [.int (nI p), .int 0]) (C.wl _ _) hW9.S (x_told _ hP9 (Z.wl ad m2) (nI p) 0 s g2 hE.1.1 hE.1.2.1 hRl2) (gv (tg2 47 rfl rfl) (tg2 48 rfl rfl) (tg2 49 rfl rfl) (tg1 1 rfl rfl) (tg2 50 rfl rfl)) (by decide +kernel) ⟨Nat.le_of_ble_eq_true rfl, Nat.le_of_ble_eq_true rfl⟩ rfl cx_T rfl rfl (Nat.le_of_ble_eq_true rfl) dL_law_443 ⟨(by show c + 40 * p + 2 + 25 + 1 ≤ 600130; omega), (by show s0 + 240 * p + 12 + 150 + 6 ≤ 7301080; omega)⟩ (fun E q g443 hp443 => absurd (cdT_0 hI hp (v := 0) (by decide)) hp443.1) (fun r443 g443 hp443 => ?_)
        obtain ⟨-, hr443, hRl443, hK443⟩ := hp443
        refine v_topi (y := nI t) (hr443.trans (by rw [iz_nI (show p < 2147483648 by omega)]; exact hte)) ?_
        refine l_aald (k := 604) (n := 4) (a := t) (k2 := 606 + t) C ⟨by decide, by decide⟩ (Or.inl hR.2.2.2.2.1.1.1) hR.2.2.2.2.1.1.2 ⟨ht4, by decide⟩ (hR.2.2.2.2.1.2 _ ht4).1 ⟨by omega, by omega⟩ dL_law_446 ?_
        refine v_astore (lo' := [some (.ref S.1), some (.ref (ad 30)), some (.ref (ad 600)), some (.int co), some (.int br), some (.int (nI time)), some (.int x6), v7, v8, some (.int (nI (nfO s))), some (.ref (ad (900 + nfO s))), some (.int (sumI (fun q => flO s q (nlO s q)) p)), some (.int (sumI (alO s) p)), some (.int (nI p)), some (.int (s 15 p)), some (.int (hgS s p (nlO s p))), some (.int (flO s p (nlO s p))), some (.int (mnS s p (nlO s p))), some (.ref (ad (606 + t))), w19, w20, w21, w22, w23]) (C.wl _ _) dL_law_447 (Nat.le_of_ble_eq_true rfl) rfl rfl ?_
        refine v_iload (C.wl _ _) dL_law_449 rfl ?_
        refine v_aload_n (C.wl _ _) dL_law_451 rfl rfl ?_
        refine v_iload (C.wl _ _) dL_law_452 rfl ?_
        refine v_iconst (v := 3) (C.wl _ _) dL_law_454 (by decide) ?_
        refine v_callX (n := 2) (k := 30) (as := [.int (nI p), .int 3]) (C.wl _ _) hW9.S (x_told _ hP9 (Z.wl ad m2) (nI p) 3 s g443 hE.1.1 hE.1.2.1 hRl443) (gv (tg2 47 rfl rfl) (tg2 48 rfl rfl) (tg2 49 rfl rfl) (tg1 1 rfl rfl) (tg2 50 rfl rfl)) (by decide +kernel) ⟨Nat.le_of_ble_eq_true rfl, Nat.le_of_ble_eq_true rfl⟩ rfl cx_T rfl rfl (Nat.le_of_ble_eq_true rfl) dL_law_455 ⟨(by show c + 40 * p + 2 + 25 + 1 + 1 ≤ 600130; omega), (by show s0 + 240 * p + 12 + 150 + 6 + 6 ≤ 7301080; omega)⟩ (fun E q g455 hp455 => absurd (cdT_0 hI hp (v := 3) (by decide)) hp455.1) (fun r455 g455 hp455 => ?_)
        obtain ⟨-, hr455, hRl455, hK455⟩ := hp455
        refine v_topi (y := mnS s p (nlO s p)) (hr455.trans (by rw [iz_nI (show p < 2147483648 by omega)]; exact rfl)) ?_
        refine v_icmp_ne (tgt := 512) (C.wl _ _) dL_law_458 (by decide) (fun h458 => ?_) (fun h458 => ?_)
        · exact absurd rfl h458
        · refine v_iload (C.wl _ _) dL_law_461 rfl ?_
          refine v_aload_n (C.wl _ _) dL_law_463 rfl rfl ?_
          refine v_iload (C.wl _ _) dL_law_464 rfl ?_
          refine v_iconst (v := 5) (C.wl _ _) dL_law_466 (by decide) ?_
          refine v_callX (n := 2) (k := 30) (as := [.int (nI p), .int 5]) (C.wl _ _) hW9.S (x_told _ hP9 (Z.wl ad m2) (nI p) 5 s g455 hE.1.1 hE.1.2.1 hRl455) (gv (tg2 47 rfl rfl) (tg2 48 rfl rfl) (tg2 49 rfl rfl) (tg1 1 rfl rfl) (tg2 50 rfl rfl)) (by decide +kernel) ⟨Nat.le_of_ble_eq_true rfl, Nat.le_of_ble_eq_true rfl⟩ rfl cx_T rfl rfl (Nat.le_of_ble_eq_true rfl) dL_law_467 ⟨(by show c + 40 * p + 2 + 25 + 1 + 1 + 1 ≤ 600130; omega), (by show s0 + 240 * p + 12 + 150 + 6 + 6 + 6 ≤ 7301080; omega)⟩ (fun E q g467 hp467 => absurd (cdT_0 hI hp (v := 5) (by decide)) hp467.1) (fun r467 g467 hp467 => ?_)
          obtain ⟨-, hr467, hRl467, hK467⟩ := hp467
          refine v_topi (y := flO s p (nlO s p)) (hr467.trans (by rw [iz_nI (show p < 2147483648 by omega)]; exact rfl)) ?_
          refine v_icmp_ne (tgt := 512) (C.wl _ _) dL_law_470 (by decide) (fun h470 => ?_) (fun h470 => ?_)
          · exact absurd rfl h470
          · refine v_aload_n (C.wl _ _) dL_law_473 rfl rfl ?_
            refine v_iload (C.wl _ _) dL_law_474 rfl ?_
            refine v_bipush (v := 7) (C.wl _ _) dL_law_476 (by decide) ?_
            refine v_callX (n := 2) (k := 30) (as := [.int (nI p), .int 7]) (C.wl _ _) hW9.S (x_told _ hP9 (Z.wl ad m2) (nI p) 7 s g467 hE.1.1 hE.1.2.1 hRl467) (gv (tg2 47 rfl rfl) (tg2 48 rfl rfl) (tg2 49 rfl rfl) (tg1 1 rfl rfl) (tg2 50 rfl rfl)) (by decide +kernel) ⟨Nat.le_of_ble_eq_true rfl, Nat.le_of_ble_eq_true rfl⟩ rfl cx_T rfl rfl (Nat.le_of_ble_eq_true rfl) dL_law_478 ⟨(by show c + 40 * p + 2 + 25 + 1 + 1 + 1 + 1 ≤ 600130; omega), (by show s0 + 240 * p + 12 + 150 + 6 + 6 + 6 + 6 ≤ 7301080; omega)⟩ (fun E q g478 hp478 => absurd (cdT_0 hI hp (v := 7) (by decide)) hp478.1) (fun r478 g478 hp478 => ?_)
            obtain ⟨-, hr478, hRl478, hK478⟩ := hp478
            refine v_topi (y := toldO s p 7) (hr478.trans (by rw [iz_nI (show p < 2147483648 by omega)]; exact rfl)) ?_
            refine v_iload (C.wl _ _) dL_law_481 rfl ?_
            have J483 : V P room_1 (Z.wl ad m2) [some (.ref S.1), some (.ref (ad 30)), some (.ref (ad 600)), some (.int co), some (.int br), some (.int (nI time)), some (.int x6), v7, v8, some (.int (nI (nfO s))), some (.ref (ad (900 + nfO s))), some (.int (sumI (fun q => flO s q (nlO s q)) p)), some (.int (sumI (alO s) p)), some (.int (nI p)), some (.int (s 15 p)), some (.int (hgS s p (nlO s p))), some (.int (flO s p (nlO s p))), some (.int (mnS s p (nlO s p))), some (.ref (ad (606 + t))), w19, w20, w21, w22, w23] 509 [.int (toldO s p 7), .int (toldO s p 7)] g478 (c + 40 * p + 2 + 25 + 1 + 1 + 1 + 1) (s0 + 240 * p + 12 + 150 + 6 + 6 + 6 + 6) := by
              refine v_icmp_eq (tgt := 514) (C.wl _ _) dL_law_509 (by decide) (fun h509 => ?_) (fun h509 => ?_)
              · refine v_iload (C.wl _ _) dL_law_514 rfl ?_
                refine v_if_eq (tgt := 555) (C.wl _ _) dL_law_516 (by decide) (fun h516 => ?_) (fun h516 => ?_)
                · refine v_iload (C.wl _ _) dL_law_555 rfl ?_
                  refine v_iload (C.wl _ _) dL_law_557 rfl ?_
                  refine v_iadd (C.wl _ _) dL_law_559 ?_
                  refine v_topi (y := sumI (fun q => flO s q (nlO s q)) (p + 1)) rfl ?_
                  refine v_istore (lo' := [some (.ref S.1), some (.ref (ad 30)), some (.ref (ad 600)), some (.int co), some (.int br), some (.int (nI time)), some (.int x6), v7, v8, some (.int (nI (nfO s))), some (.ref (ad (900 + nfO s))), some (.int (sumI (fun q => flO s q (nlO s q)) (p + 1))), some (.int (sumI (alO s) p)), some (.int (nI p)), some (.int (s 15 p)), some (.int (hgS s p (nlO s p))), some (.int (flO s p (nlO s p))), some (.int (mnS s p (nlO s p))), some (.ref (ad (606 + t))), w19, w20, w21, w22, w23]) (C.wl _ _) dL_law_560 (Nat.le_of_ble_eq_true rfl) rfl rfl ?_
                  refine v_iload (C.wl _ _) dL_law_562 rfl ?_
                  refine v_iload (C.wl _ _) dL_law_564 rfl ?_
                  have J566 : V P room_1 (Z.wl ad m2) [some (.ref S.1), some (.ref (ad 30)), some (.ref (ad 600)), some (.int co), some (.int br), some (.int (nI time)), some (.int x6), v7, v8, some (.int (nI (nfO s))), some (.ref (ad (900 + nfO s))), some (.int (sumI (fun q => flO s q (nlO s q)) (p + 1))), some (.int (sumI (alO s) p)), some (.int (nI p)), some (.int (s 15 p)), some (.int (hgS s p (nlO s p))), some (.int (flO s p (nlO s p))), some (.int (mnS s p (nlO s p))), some (.ref (ad (606 + t))), w19, w20, w21, w22, w23] 575 [.int (alO s p), .int (sumI (alO s) p)] g478 (c + 40 * p + 2 + 25 + 1 + 1 + 1 + 1) (s0 + 240 * p + 12 + 150 + 6 + 6 + 6 + 6) := by
                    refine v_iadd (C.wl _ _) dL_law_575 ?_
                    refine v_istore (lo' := [some (.ref S.1), some (.ref (ad 30)), some (.ref (ad 600)), some (.int co), some (.int br), some (.int (nI time)), some (.int x6), v7, v8, some (.int (nI (nfO s))), some (.ref (ad (900 + nfO s))), some (.int (sumI (fun q => flO s q (nlO s q)) (p + 1))), some (.int ((sumI (alO s) p) + (alO s p))), some (.int (nI p)), some (.int (s 15 p)), some (.int (hgS s p (nlO s p))), some (.int (flO s p (nlO s p))), some (.int (mnS s p (nlO s p))), some (.ref (ad (606 + t))), w19, w20, w21, w22, w23]) (C.wl _ _) dL_law_576 (Nat.le_of_ble_eq_true rfl) rfl rfl ?_
                    refine v_iinc (lo' := [some (.ref S.1), some (.ref (ad 30)), some (.ref (ad 600)), some (.int co), some (.int br), some (.int (nI time)), some (.int x6), v7, v8, some (.int (nI (nfO s))), some (.ref (ad (900 + nfO s))), some (.int (sumI (fun q => flO s q (nlO s q)) (p + 1))), some (.int ((sumI (alO s) p) + (alO s p))), some (.int ((nI p) + 1)), some (.int (s 15 p)), some (.int (hgS s p (nlO s p))), some (.int (flO s p (nlO s p))), some (.int (mnS s p (nlO s p))), some (.ref (ad (606 + t))), w19, w20, w21, w22, w23]) (C.wl _ _) dL_law_578 rfl rfl rfl rfl ?_
                    refine v_goto (tgt := 155) (C.wl _ _) dL_law_581 (by decide) ?_
                    refine v_lo (lo' := [some (.ref S.1), some (.ref (ad 30)), some (.ref (ad 600)), some (.int co), some (.int br), some (.int (nI time)), some (.int x6), v7, v8, some (.int (nI (nfO s))), some (.ref (ad (900 + nfO s))), some (.int (sumI (fun q => flO s q (nlO s q)) (p + 1))), some (.int ((sumI (alO s) p) + (alO s p))), some (.int (nI (p + 1))), some (.int (s 15 p)), some (.int (hgS s p (nlO s p))), some (.int (flO s p (nlO s p))), some (.int (mnS s p (nlO s p))), some (.ref (ad (606 + t))), w19, w20, w21, w22, w23]) (by rw [nI_succ p]) ?_
                    refine v_wide (k := c + 40 * (p + 1)) (n := s0 + 240 * (p + 1)) (by show c + 40 * p + 2 + 25 + 1 + 1 + 1 + 1 ≤ c + 40 * (p + 1); omega) (by show s0 + 240 * p + 12 + 150 + 6 + 6 + 6 + 6 ≤ s0 + 240 * (p + 1); omega) ?_
                    exact ih (p + 1) m2 g478 _ _ _ _ _ _ _ _ _ _ (by omega) (by omega) hO hRl478
                  refine v_if_eq (tgt := 574) (C.wl _ _) dL_law_566 (by decide) (fun h566 => ?_) (fun h566 => ?_)
                  · exact v_iconst (v := 0) (C.wl _ _) dL_law_574 rfl (v_topi (show (0 : Int32) = alO s p by unfold alO; exact (if_pos h566).symm) J566)
                  · refine v_iload (C.wl _ _) dL_law_569 rfl ?_
                    exact v_goto (tgt := 575) (C.wl _ _) dL_law_571 (by decide) (v_topi (show mnS s p (nlO s p) = alO s p by unfold alO; exact (if_neg h566).symm) J566)
                · have h15 : s 15 p = 1 := h01.resolve_left h516
                  refine v_aload_n (C.wl _ _) dL_law_519 rfl rfl ?_
                  refine v_iload (C.wl _ _) dL_law_520 rfl ?_
                  refine v_iconst (v := 0) (C.wl _ _) dL_law_522 (by decide) ?_
                  refine v_callX (n := 2) (k := 30) (as := [.int (nI p), .int 0]) (C.wl _ _) hW9.S (x_would _ hP9 (Z.wl ad m2) (nI p) 0 s g478 hE.1.1 _ hE.1.2.2.2.2 hRl478) (gv (tg2 105 rfl rfl) (tg2 106 rfl rfl) (tg2 107 rfl rfl) (tg1 1 rfl rfl) (tg2 108 rfl rfl)) (by decide +kernel) ⟨Nat.le_of_ble_eq_true rfl, Nat.le_of_ble_eq_true rfl⟩ rfl cx_T rfl rfl (Nat.le_of_ble_eq_true rfl) dL_law_523 ⟨(by show c + 40 * p + 2 + 25 + 1 + 1 + 1 + 1 + 1 ≤ 600130; omega), (by show s0 + 240 * p + 12 + 150 + 6 + 6 + 6 + 6 + 6 ≤ 7301080; omega)⟩ (fun E q g523 hp523 => absurd (cdW_0 hI hp (v := 0) (by decide)) hp523.1) (fun r523 g523 hp523 => ?_)
                  obtain ⟨-, hr523, hRl523, hK523⟩ := hp523
                  refine v_topi (y := -1) (hr523.trans (would_n (v := 0) (by omega) h15 (by decide))) ?_
                  refine v_iconst (v := (-1)) (C.wl _ _) dL_law_526 (by decide) ?_
                  refine v_icmp_ne (tgt := 553) (C.wl _ _) dL_law_527 (by decide) (fun h527 => ?_) (fun h527 => ?_)
                  · exact absurd rfl h527
                  · refine v_aload_n (C.wl _ _) dL_law_530 rfl rfl ?_
                    refine v_iload (C.wl _ _) dL_law_531 rfl ?_
                    refine v_iconst (v := 1) (C.wl _ _) dL_law_533 (by decide) ?_
                    refine v_callX (n := 2) (k := 30) (as := [.int (nI p), .int 1]) (C.wl _ _) hW9.S (x_would _ hP9 (Z.wl ad m2) (nI p) 1 s g523 hE.1.1 _ hE.1.2.2.2.2 hRl523) (gv (tg2 105 rfl rfl) (tg2 106 rfl rfl) (tg2 107 rfl rfl) (tg1 1 rfl rfl) (tg2 108 rfl rfl)) (by decide +kernel) ⟨Nat.le_of_ble_eq_true rfl, Nat.le_of_ble_eq_true rfl⟩ rfl cx_T rfl rfl (Nat.le_of_ble_eq_true rfl) dL_law_534 ⟨(by show c + 40 * p + 2 + 25 + 1 + 1 + 1 + 1 + 1 + 1 ≤ 600130; omega), (by show s0 + 240 * p + 12 + 150 + 6 + 6 + 6 + 6 + 6 + 6 ≤ 7301080; omega)⟩ (fun E q g534 hp534 => absurd (cdW_0 hI hp (v := 1) (by decide)) hp534.1) (fun r534 g534 hp534 => ?_)
                    obtain ⟨-, hr534, hRl534, hK534⟩ := hp534
                    refine v_topi (y := -1) (hr534.trans (would_n (v := 1) (by omega) h15 (by decide))) ?_
                    refine v_iconst (v := (-1)) (C.wl _ _) dL_law_537 (by decide) ?_
                    refine v_icmp_ne (tgt := 553) (C.wl _ _) dL_law_538 (by decide) (fun h538 => ?_) (fun h538 => ?_)
                    · exact absurd rfl h538
                    · refine v_aload_n (C.wl _ _) dL_law_541 rfl rfl ?_
                      refine v_iload (C.wl _ _) dL_law_542 rfl ?_
                      refine v_callX (n := 1) (k := 30) (as := [.int (nI p)]) (C.wl _ _) hW9.S (x_lasts _ hP9 (Z.wl ad m2) (nI p) s g534 hE.1.1 hE.1.2.1 _ hE.1.2.2.2.2 hE.1.2.2.1 hRl534) (gv (tg2 118 rfl rfl) (tg2 119 rfl rfl) (tg2 120 rfl rfl) (tg1 1 rfl rfl) (tg2 121 rfl rfl)) (by decide +kernel) ⟨Nat.le_of_ble_eq_true rfl, Nat.le_of_ble_eq_true rfl⟩ rfl cx_T rfl rfl (Nat.le_of_ble_eq_true rfl) dL_law_544 ⟨(by show c + 40 * p + 2 + 25 + 1 + 1 + 1 + 1 + 1 + 1 + 1 ≤ 600130; omega), (by show s0 + 240 * p + 12 + 150 + 6 + 6 + 6 + 6 + 6 + 6 + 6 ≤ 7301080; omega)⟩ (fun E q g544 hp544 => absurd (cdL_0 hI hp h15) hp544.1) (fun r544 g544 hp544 => ?_)
                      obtain ⟨-, hr544, hRl544, hK544⟩ := hp544
                      refine v_topi (y := laO s p 50) (hr544.trans (by rw [iz_nI (show p < 2147483648 by omega)])) ?_
                      refine v_sipush (v := 400) (C.wl _ _) dL_law_547 (by decide) ?_
                      refine v_icmp_le (tgt := 555) (C.wl _ _) dL_law_550 (by decide) (fun h550 => ?_) (fun h550 => ?_)
                      · refine v_iload (C.wl _ _) dL_law_555 rfl ?_
                        refine v_iload (C.wl _ _) dL_law_557 rfl ?_
                        refine v_iadd (C.wl _ _) dL_law_559 ?_
                        refine v_topi (y := sumI (fun q => flO s q (nlO s q)) (p + 1)) rfl ?_
                        refine v_istore (lo' := [some (.ref S.1), some (.ref (ad 30)), some (.ref (ad 600)), some (.int co), some (.int br), some (.int (nI time)), some (.int x6), v7, v8, some (.int (nI (nfO s))), some (.ref (ad (900 + nfO s))), some (.int (sumI (fun q => flO s q (nlO s q)) (p + 1))), some (.int (sumI (alO s) p)), some (.int (nI p)), some (.int (s 15 p)), some (.int (hgS s p (nlO s p))), some (.int (flO s p (nlO s p))), some (.int (mnS s p (nlO s p))), some (.ref (ad (606 + t))), w19, w20, w21, w22, w23]) (C.wl _ _) dL_law_560 (Nat.le_of_ble_eq_true rfl) rfl rfl ?_
                        refine v_iload (C.wl _ _) dL_law_562 rfl ?_
                        refine v_iload (C.wl _ _) dL_law_564 rfl ?_
                        have J566 : V P room_1 (Z.wl ad m2) [some (.ref S.1), some (.ref (ad 30)), some (.ref (ad 600)), some (.int co), some (.int br), some (.int (nI time)), some (.int x6), v7, v8, some (.int (nI (nfO s))), some (.ref (ad (900 + nfO s))), some (.int (sumI (fun q => flO s q (nlO s q)) (p + 1))), some (.int (sumI (alO s) p)), some (.int (nI p)), some (.int (s 15 p)), some (.int (hgS s p (nlO s p))), some (.int (flO s p (nlO s p))), some (.int (mnS s p (nlO s p))), some (.ref (ad (606 + t))), w19, w20, w21, w22, w23] 575 [.int (alO s p), .int (sumI (alO s) p)] g544 (c + 40 * p + 2 + 25 + 1 + 1 + 1 + 1 + 1 + 1 + 1) (s0 + 240 * p + 12 + 150 + 6 + 6 + 6 + 6 + 6 + 6 + 6) := by
                          refine v_iadd (C.wl _ _) dL_law_575 ?_
                          refine v_istore (lo' := [some (.ref S.1), some (.ref (ad 30)), some (.ref (ad 600)), some (.int co), some (.int br), some (.int (nI time)), some (.int x6), v7, v8, some (.int (nI (nfO s))), some (.ref (ad (900 + nfO s))), some (.int (sumI (fun q => flO s q (nlO s q)) (p + 1))), some (.int ((sumI (alO s) p) + (alO s p))), some (.int (nI p)), some (.int (s 15 p)), some (.int (hgS s p (nlO s p))), some (.int (flO s p (nlO s p))), some (.int (mnS s p (nlO s p))), some (.ref (ad (606 + t))), w19, w20, w21, w22, w23]) (C.wl _ _) dL_law_576 (Nat.le_of_ble_eq_true rfl) rfl rfl ?_
                          refine v_iinc (lo' := [some (.ref S.1), some (.ref (ad 30)), some (.ref (ad 600)), some (.int co), some (.int br), some (.int (nI time)), some (.int x6), v7, v8, some (.int (nI (nfO s))), some (.ref (ad (900 + nfO s))), some (.int (sumI (fun q => flO s q (nlO s q)) (p + 1))), some (.int ((sumI (alO s) p) + (alO s p))), some (.int ((nI p) + 1)), some (.int (s 15 p)), some (.int (hgS s p (nlO s p))), some (.int (flO s p (nlO s p))), some (.int (mnS s p (nlO s p))), some (.ref (ad (606 + t))), w19, w20, w21, w22, w23]) (C.wl _ _) dL_law_578 rfl rfl rfl rfl ?_
                          refine v_goto (tgt := 155) (C.wl _ _) dL_law_581 (by decide) ?_
                          refine v_lo (lo' := [some (.ref S.1), some (.ref (ad 30)), some (.ref (ad 600)), some (.int co), some (.int br), some (.int (nI time)), some (.int x6), v7, v8, some (.int (nI (nfO s))), some (.ref (ad (900 + nfO s))), some (.int (sumI (fun q => flO s q (nlO s q)) (p + 1))), some (.int ((sumI (alO s) p) + (alO s p))), some (.int (nI (p + 1))), some (.int (s 15 p)), some (.int (hgS s p (nlO s p))), some (.int (flO s p (nlO s p))), some (.int (mnS s p (nlO s p))), some (.ref (ad (606 + t))), w19, w20, w21, w22, w23]) (by rw [nI_succ p]) ?_
                          refine v_wide (k := c + 40 * (p + 1)) (n := s0 + 240 * (p + 1)) (by show c + 40 * p + 2 + 25 + 1 + 1 + 1 + 1 + 1 + 1 + 1 ≤ c + 40 * (p + 1); omega) (by show s0 + 240 * p + 12 + 150 + 6 + 6 + 6 + 6 + 6 + 6 + 6 ≤ s0 + 240 * (p + 1); omega) ?_
                          exact ih (p + 1) m2 g544 _ _ _ _ _ _ _ _ _ _ (by omega) (by omega) hO hRl544
                        refine v_if_eq (tgt := 574) (C.wl _ _) dL_law_566 (by decide) (fun h566 => ?_) (fun h566 => ?_)
                        · exact v_iconst (v := 0) (C.wl _ _) dL_law_574 rfl (v_topi (show (0 : Int32) = alO s p by unfold alO; exact (if_pos h566).symm) J566)
                        · refine v_iload (C.wl _ _) dL_law_569 rfl ?_
                          exact v_goto (tgt := 575) (C.wl _ _) dL_law_571 (by decide) (v_topi (show mnS s p (nlO s p) = alO s p by unfold alO; exact (if_neg h566).symm) J566)
                      · exact absurd ((i_le _ _).mpr (show (laO s p 50).toInt ≤ (400 : Int32).toInt from laO_le 50)) h550
              · exact absurd rfl h509
            refine v_if_eq (tgt := 508) (C.wl _ _) dL_law_483 (by decide) (fun h483 => ?_) (fun h483 => ?_)
            · exact v_iconst (v := 0) (C.wl _ _) dL_law_508 rfl (v_topi (pr_0 h483).symm J483)
            · refine v_iconst (v := 0) (C.wl _ _) dL_law_486 (by decide) ?_
              refine v_iload (C.wl _ _) dL_law_487 rfl ?_
              refine v_aload (C.wl _ _) dL_law_489 rfl ?_
              refine v_iconst (v := 0) (C.wl _ _) dL_law_491 (by decide) ?_
              refine l_iald (k := 606 + t) (n := 2) (a := 0) C ⟨by omega, by omega⟩ (hR.2.2.2.2.1.2 _ ht4).2.1.1 (hR.2.2.2.2.1.2 _ ht4).2.1.2 (by omega) dL_law_492 ?_
              refine v_topi (y := s 10 t) (hR.2.2.2.2.1.2 t ht4).2.2.1 ?_
              refine v_imul (C.wl _ _) dL_law_493 ?_
              refine v_iload (C.wl _ _) dL_law_494 rfl ?_
              refine v_aload (C.wl _ _) dL_law_496 rfl ?_
              refine v_iconst (v := 1) (C.wl _ _) dL_law_498 (by decide) ?_
              refine l_iald (k := 606 + t) (n := 2) (a := 1) C ⟨by omega, by omega⟩ (hR.2.2.2.2.1.2 _ ht4).2.1.1 (hR.2.2.2.2.1.2 _ ht4).2.1.2 (by omega) dL_law_499 ?_
              refine v_topi (y := s 11 t) (hR.2.2.2.2.1.2 t ht4).2.2.2 ?_
              refine v_imul (C.wl _ _) dL_law_500 ?_
              refine v_isub (C.wl _ _) dL_law_501 ?_
              refine v_mmax (C.wl _ _) (tg5 71 rfl rfl) (tg2 75 rfl rfl) (tg1 14 rfl rfl) (tg2 76 rfl rfl) (Nat.le_of_ble_eq_true rfl) (Nat.le_of_ble_eq_true rfl) (by show c + 40 * p + 2 + 25 + 1 + 1 + 1 + 1 ≤ 600130; omega) (by show s0 + 240 * p + 12 + 150 + 6 + 6 + 6 + 6 ≤ 7301080; omega) dL_law_502 ?_
              refine v_topi (y := toldO s p 7) (prO_hg (h01.resolve_left h483) hte ht4) ?_
              exact v_goto (tgt := 509) (C.wl _ _) dL_law_505 (by decide) J483
      refine v_icmp_ne (tgt := 180) (C.wl _ _) dL_law_173 (by decide) (fun h173 => ?_) (fun h173 => ?_)
      · exact v_iconst (v := 0) (C.wl _ _) dL_law_180 rfl (v_topi (h01.resolve_right h173).symm J173)
      · refine v_iconst (v := 1) (C.wl _ _) dL_law_176 rfl ?_
        exact v_goto (tgt := 181) (C.wl _ _) dL_law_177 (by decide) (v_topi h173.symm J173)
