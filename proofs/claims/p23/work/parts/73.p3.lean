/-! THE LAW'S METHODS: print, strike of its shop -/
set_option maxRecDepth 100000 in
theorem l_print (l : Launch) (Z : Zc) (ad : Nat → Nat) (s m g : MG) (p : Nat) (hI : IvM s) (hF9 : IvF s) (hR : SimR s m) (hp : p < npO s) (h15 : s 15 p = 1) (c : Int32) (hcd : cdPrint s (nI p) c = 0) : LMi l yX5_print cX5_print 9 (some .int) (rmz 3 90 0 0) Z [.ref (ad 600), .int (nI p), .int c] ad m g (fun r ad' m' g' => r = gtO s p c ∧ ad' = ad ∧ SimR (stPrint s (nI p) c) m' ∧ (∀ k, 900 ≤ k → m' k = m k) ∧ g' = g) := by
  have hp6 := (IvM_np hI).1
  have hf5 := (IvM_nf hI).1
  have h4 := (IvM_nl hI (show p < 6 by omega)).2
  obtain ⟨hPF, hPL, hPX⟩ := hR.L hp
  have hX := hPX.2.2.2 h15
  have hfo : ∀ i, i < nlO s p → s 18 (4 * p + i) = nI (iz (s 18 (4 * p + i))) ∧ iz (s 18 (4 * p + i)) < nfO s := fun i hi => by
    obtain ⟨f, h1, h2⟩ := hF9 p i hp h15 hi
    have e : iz (s 18 (4 * p + i)) = f := by rw [h2]; exact iz_nI (by omega)
    rw [e]; exact ⟨h2, h1⟩
  generalize hfe : (fun i => iz (s 18 (4 * p + i))) = fo at *
  have hfo : ∀ i, i < nlO s p → s 18 (4 * p + i) = nI (fo i) ∧ fo i < nfO s := fun i hi => by rw [← hfe]; exact hfo i hi
  refine ent_li (own := RX5) (lo := [some (.ref (ad 600)), some (.int (nI p)), some (.int c), none, none, none, none, none, none]) (by decide) rfl (by simp [lg_sl, Value.category]) rfl (fun P hl C hW9 ret => ?_)
  have loop : (∀ (m1 : MG) (v1 v2 v3 v4 : Option Value), Bk (10 * nfO s) m m1 2 (addP c fo (tkO s) (wdO s) p (s 8) (nlO s p)) → V P (rmz 3 90 0 0) (Z.wl ad m1) [some (.ref (ad 600)), some (.int (nI p)), some (.int c), some (.ref (ad (700 + 20 * p))), some (.int (nI (nlO s p))), v1, v2, v3, v4] 84 [] g 0 0) → ∀ (n i : Nat) (m1 : MG) (v1 v2 v3 v4 : Option Value), nlO s p - i < n → i ≤ nlO s p → Bk (10 * nfO s) m m1 2 (addP c fo (tkO s) (wdO s) p (s 8) i) → V P (rmz 3 90 0 0) (Z.wl ad m1) [some (.ref (ad 600)), some (.int (nI p)), some (.int c), some (.ref (ad (700 + 20 * p))), some (.int (nI i)), v1, v2, v3, v4] 10 [] g 0 0 := by
    intro hend n
    induction n with
    | zero => intro i m1 v1 v2 v3 v4 hn; exact absurd hn (Nat.not_lt_zero _)
    | succ n ih =>
      intro i m1 v1 v2 v3 v4 hn hi hB
      refine v_iload (C.wl _ _) dX5_print_10 rfl ?_
      refine v_aload_n (C.wl _ _) dX5_print_12 rfl rfl ?_
      refine l_get (k := 700 + 20 * p) C inG4 (ci := 5) rfl 2 (by decide) (tg2 183 rfl rfl) rfl ⟨by omega, by omega⟩ (cW_5 ((hB.2.1 _ _ (by decide)).trans hPF.1)) (ps_r (by decide) ((congrFun (hB.1 _ (by omega)) _).trans hPF.2.2.2.1) ⟨by omega, by omega⟩) dX5_print_13 ?_
      refine l_len (k := 701 + 20 * p) (n := nlO s p) C ⟨by omega, by omega⟩ (Or.inr (Or.inl ((hB.2.1 _ _ (by decide)).trans hPL.1.1))) ((hB.2.1 _ _ (by decide)).trans hPL.1.2) (by omega) dX5_print_16 ?_
      refine v_icmp_ge (tgt := 84) (C.wl _ _) dX5_print_17 (by decide) (fun h17 => ?_) (fun h17 => ?_)
      · have hkn17 : i = nlO s p := Nat.le_antisymm hi ((nI_leI (by omega) (by omega)).mp h17)
        subst hkn17
        exact hend m1 v1 v2 v3 v4 hB
      · have hkn17 : i < nlO s p := Nat.lt_of_not_le fun q => h17 ((nI_leI (by omega) (by omega)).mpr q)
        refine v_aload_n (C.wl _ _) dX5_print_20 rfl rfl ?_
        refine l_get (k := 700 + 20 * p) C inG4 (ci := 5) rfl 7 (by decide) (tg2 194 rfl rfl) rfl ⟨by omega, by omega⟩ (cW_5 ((hB.2.1 _ _ (by decide)).trans hPF.1)) (ps_r (by decide) ((congrFun (hB.1 _ (by omega)) _).trans hPF.2.2.2.2.2.2.2.2) ⟨by omega, by omega⟩) dX5_print_21 ?_
        refine v_iload (C.wl _ _) dX5_print_24 rfl ?_
        refine l_aald (k := 704 + 20 * p) (n := nlO s p) (a := i) (k2 := 710 + 20 * p + i) C ⟨by omega, by omega⟩ (Or.inl ((hB.2.1 _ _ (by decide)).trans hX.2.1.1)) ((hB.2.1 _ _ (by decide)).trans hX.2.1.2) (by omega) ((congrFun (hB.1 _ (by omega)) _).trans (hX.2.2 _ hkn17).2.2.1) ⟨by omega, by omega⟩ dX5_print_26 ?_
        refine v_astore (lo' := [some (.ref (ad 600)), some (.int (nI p)), some (.int c), some (.ref (ad (700 + 20 * p))), some (.int (nI i)), some (.ref (ad (710 + 20 * p + i))), v2, v3, v4]) (C.wl _ _) dX5_print_27 (Nat.le_of_ble_eq_true rfl) rfl rfl ?_
        refine v_aload (C.wl _ _) dX5_print_29 rfl ?_
        refine l_len (k := 710 + 20 * p + i) (n := szw (wdO s (4 * p + i))) C ⟨by omega, by omega⟩ (Or.inl ((hB.2.1 _ _ (by decide)).trans (hX.2.2 _ hkn17).2.2.2.1.1)) ((hB.2.1 _ _ (by decide)).trans (hX.2.2 _ hkn17).2.2.2.1.2) (by have := @szw_le (wdO s (4 * p + i)); omega) dX5_print_31 ?_
        refine v_istore (lo' := [some (.ref (ad 600)), some (.int (nI p)), some (.int c), some (.ref (ad (700 + 20 * p))), some (.int (nI i)), some (.ref (ad (710 + 20 * p + i))), some (.int (nI (szw (wdO s (4 * p + i))))), v3, v4]) (C.wl _ _) dX5_print_32 (Nat.le_of_ble_eq_true rfl) rfl rfl ?_
        refine v_iconst (v := 0) (C.wl _ _) dX5_print_34 (by decide) ?_
        refine v_istore (lo' := [some (.ref (ad 600)), some (.int (nI p)), some (.int c), some (.ref (ad (700 + 20 * p))), some (.int (nI i)), some (.ref (ad (710 + 20 * p + i))), some (.int (nI (szw (wdO s (4 * p + i))))), some (.int 0), v4]) (C.wl _ _) dX5_print_35 (Nat.le_of_ble_eq_true rfl) rfl rfl ?_
        obtain ⟨hfi, hfl⟩ := hfo i hkn17
        have hsz := @szw_le (wdO s (4 * p + i))
        have inn : ∀ (n2 j : Nat) (m2 : MG) (v4 : Option Value), szw (wdO s (4 * p + i)) - j < n2 → j ≤ szw (wdO s (4 * p + i)) → Bk (10 * nfO s) m m2 2 (addL c (fo i) (szw (wdO s (4 * p + i))) (tkO s (4 * p + i)) (addP c fo (tkO s) (wdO s) p (s 8) i) j) → V P (rmz 3 90 0 0) (Z.wl ad m2) [some (.ref (ad 600)), some (.int (nI p)), some (.int c), some (.ref (ad (700 + 20 * p))), some (.int (nI i)), some (.ref (ad (710 + 20 * p + i))), some (.int (nI (szw (wdO s (4 * p + i))))), some (.int (nI j)), v4] 37 [] g 0 0 := by
          intro n2
          induction n2 with
          | zero => intro j m2 v4 hn; exact absurd hn (Nat.not_lt_zero _)
          | succ n2 ih2 =>
            intro j m2 v4 hn2 hj hB
            refine v_iload (C.wl _ _) dX5_print_37 rfl ?_
            refine v_iload (C.wl _ _) dX5_print_39 rfl ?_
            refine v_icmp_ge (tgt := 78) (C.wl _ _) dX5_print_41 (by decide) (fun h41 => ?_) (fun h41 => ?_)
            · have hkn41 : j = szw (wdO s (4 * p + i)) := Nat.le_antisymm hj ((nI_leI (by omega) (by omega)).mp h41)
              rw [hkn41] at hB
              rw [hkn41]
              refine v_iinc (lo' := [some (.ref (ad 600)), some (.int (nI p)), some (.int c), some (.ref (ad (700 + 20 * p))), some (.int ((nI i) + 1)), some (.ref (ad (710 + 20 * p + i))), some (.int (nI (szw (wdO s (4 * p + i))))), some (.int (nI (szw (wdO s (4 * p + i))))), v4]) (C.wl _ _) dX5_print_78 rfl rfl rfl rfl ?_
              refine v_goto (tgt := 10) (C.wl _ _) dX5_print_81 (by decide) ?_
              refine v_lo (lo' := [some (.ref (ad 600)), some (.int (nI p)), some (.int c), some (.ref (ad (700 + 20 * p))), some (.int (nI (i + 1))), some (.ref (ad (710 + 20 * p + i))), some (.int (nI (szw (wdO s (4 * p + i))))), some (.int (nI (szw (wdO s (4 * p + i))))), v4]) (by rw [nI_succ]) ?_
              exact ih (i + 1) m2 _ _ _ _ (by omega) (by omega) hB
            · have hkn41 : j < szw (wdO s (4 * p + i)) := Nat.lt_of_not_le fun q => h41 ((nI_leI (by omega) (by omega)).mpr q)
              refine v_aload (C.wl _ _) dX5_print_44 rfl ?_
              refine v_iload (C.wl _ _) dX5_print_46 rfl ?_
              refine l_iald (k := 710 + 20 * p + i) (n := szw (wdO s (4 * p + i))) (a := j) C ⟨by omega, by omega⟩ ((hB.2.1 _ _ (by decide)).trans (hX.2.2 _ hkn17).2.2.2.1.1) ((hB.2.1 _ _ (by decide)).trans (hX.2.2 _ hkn17).2.2.2.1.2) (by omega) dX5_print_48 ?_
              refine v_topi (y := nI (tkO s (4 * p + i) / 10 ^ (szw (wdO s (4 * p + i)) - 1 - j) % 10)) (((congrFun (hB.1 _ (by omega)) _)).trans ((hX.2.2 _ hkn17).2.2.2.2 _ hkn41)) ?_
              refine v_istore (lo' := [some (.ref (ad 600)), some (.int (nI p)), some (.int c), some (.ref (ad (700 + 20 * p))), some (.int (nI i)), some (.ref (ad (710 + 20 * p + i))), some (.int (nI (szw (wdO s (4 * p + i))))), some (.int (nI j)), some (.int (nI (tkO s (4 * p + i) / 10 ^ (szw (wdO s (4 * p + i)) - 1 - j) % 10)))]) (C.wl _ _) dX5_print_49 (Nat.le_of_ble_eq_true rfl) rfl rfl ?_
              refine v_aload_n (C.wl _ _) dX5_print_51 rfl rfl ?_
              refine l_get (k := 600) C inG5 (ci := 6) rfl 3 (by decide) (tg5 7 rfl rfl) rfl ⟨by decide, by decide⟩ (cW_6 ((hB.2.1 _ _ (by decide)).trans hR.1.1)) (sm_r (by decide) ((congrFun (hB.1 _ (by omega)) _).trans hR.1.2.2.2.2.1) ⟨by decide, by decide⟩) dX5_print_52 ?_
              refine v_aload_n (C.wl _ _) dX5_print_55 rfl rfl ?_
              refine l_get (k := 700 + 20 * p) C inG4 (ci := 5) rfl 5 (by decide) (tg2 190 rfl rfl) rfl ⟨by omega, by omega⟩ (cW_5 ((hB.2.1 _ _ (by decide)).trans hPF.1)) (ps_r (by decide) ((congrFun (hB.1 _ (by omega)) _).trans hPF.2.2.2.2.2.2.1) ⟨by omega, by omega⟩) dX5_print_56 ?_
              refine v_iload (C.wl _ _) dX5_print_59 rfl ?_
              refine l_iald (k := 702 + 20 * p) (n := nlO s p) (a := i) C ⟨by omega, by omega⟩ ((hB.2.1 _ _ (by decide)).trans hX.1.1) ((hB.2.1 _ _ (by decide)).trans hX.1.2) (by omega) dX5_print_61 ?_
              refine v_topi (y := nI (fo i)) (((congrFun (hB.1 _ (by omega)) _)).trans ((hX.2.2 _ hkn17).1.trans hfi)) ?_
              refine l_aald (k := 602) (n := nfO s) (a := (fo i)) (k2 := 610 + (fo i)) C ⟨by decide, by decide⟩ (Or.inr (Or.inl ((hB.2.1 _ _ (by decide)).trans hR.2.1.2.1.1.1))) ((hB.2.1 _ _ (by decide)).trans hR.2.1.2.1.1.2) ⟨hfl, by omega⟩ ((congrFun (hB.1 _ (by omega)) _).trans (hR.2.1.2.1.2 _ hfl)) ⟨by omega, by omega⟩ dX5_print_62 ?_
              refine v_iload (C.wl _ _) dX5_print_63 rfl ?_
              refine l_aald (k := 610 + (fo i)) (n := 10) (a := (tkO s (4 * p + i) / 10 ^ (szw (wdO s (4 * p + i)) - 1 - j) % 10)) (k2 := 620 + (10 * (fo i) + (tkO s (4 * p + i) / 10 ^ (szw (wdO s (4 * p + i)) - 1 - j) % 10))) C ⟨by omega, by omega⟩ (Or.inl ((hB.2.1 _ _ (by decide)).trans (hR.2.1.2.2 _ hfl).1.1)) ((hB.2.1 _ _ (by decide)).trans (hR.2.1.2.2 _ hfl).1.2) ⟨Nat.mod_lt _ (by decide), by decide⟩ (((congrFun (hB.1 _ (by omega)) _).trans ((hR.2.1.2.2 _ hfl).2 _ (Nat.mod_lt _ (by decide)))).trans (congrArg nI (Nat.add_assoc _ _ _))) ⟨by omega, by omega⟩ dX5_print_65 ?_
              refine v_iconst (v := 2) (C.wl _ _) dX5_print_66 (by decide) ?_
              refine v_dup2 (C.wl _ _) dX5_print_67 rfl rfl ?_
              refine l_iald (k := 620 + (10 * (fo i) + (tkO s (4 * p + i) / 10 ^ (szw (wdO s (4 * p + i)) - 1 - j) % 10))) (n := 3) (a := 2) C ⟨by omega, by omega⟩ ((hB.2.1 _ _ (by decide)).trans ((Nat.add_assoc 620 (10 * (fo i)) (tkO s (4 * p + i) / 10 ^ (szw (wdO s (4 * p + i)) - 1 - j) % 10)) ▸ hR.2.2.1 _ _ hfl (Nat.mod_lt _ (by decide))).1.1) ((hB.2.1 _ _ (by decide)).trans ((Nat.add_assoc 620 (10 * (fo i)) (tkO s (4 * p + i) / 10 ^ (szw (wdO s (4 * p + i)) - 1 - j) % 10)) ▸ hR.2.2.1 _ _ hfl (Nat.mod_lt _ (by decide))).1.2) (by decide) dX5_print_68 ?_
              refine v_iload_n (C.wl _ _) dX5_print_69 rfl rfl ?_
              refine v_iadd (C.wl _ _) dX5_print_70 ?_
              refine l_iast (k := 620 + (10 * (fo i) + (tkO s (4 * p + i) / 10 ^ (szw (wdO s (4 * p + i)) - 1 - j) % 10))) (n := 3) (a := 2) C ⟨by omega, by omega⟩ ((hB.2.1 _ _ (by decide)).trans ((Nat.add_assoc 620 (10 * (fo i)) (tkO s (4 * p + i) / 10 ^ (szw (wdO s (4 * p + i)) - 1 - j) % 10)) ▸ hR.2.2.1 _ _ hfl (Nat.mod_lt _ (by decide))).1.1) ((hB.2.1 _ _ (by decide)).trans ((Nat.add_assoc 620 (10 * (fo i)) (tkO s (4 * p + i) / 10 ^ (szw (wdO s (4 * p + i)) - 1 - j) % 10)) ▸ hR.2.2.1 _ _ hfl (Nat.mod_lt _ (by decide))).1.2) (by decide) dX5_print_71 ?_
              refine v_iinc (lo' := [some (.ref (ad 600)), some (.int (nI p)), some (.int c), some (.ref (ad (700 + 20 * p))), some (.int (nI i)), some (.ref (ad (710 + 20 * p + i))), some (.int (nI (szw (wdO s (4 * p + i))))), some (.int ((nI j) + 1)), some (.int (nI (tkO s (4 * p + i) / 10 ^ (szw (wdO s (4 * p + i)) - 1 - j) % 10)))]) (C.wl _ _) dX5_print_72 rfl rfl rfl rfl ?_
              refine v_goto (tgt := 37) (C.wl _ _) dX5_print_75 (by decide) ?_
              refine v_lo (lo' := [some (.ref (ad 600)), some (.int (nI p)), some (.int c), some (.ref (ad (700 + 20 * p))), some (.int (nI i)), some (.ref (ad (710 + 20 * p + i))), some (.int (nI (szw (wdO s (4 * p + i))))), some (.int (nI (j + 1))), some (.int (nI (tkO s (4 * p + i) / 10 ^ (szw (wdO s (4 * p + i)) - 1 - j) % 10)))]) (by rw [nI_succ]) ?_
              have hxl : 10 * fo i + (tkO s (4 * p + i) / 10 ^ (szw (wdO s (4 * p + i)) - 1 - j) % 10) < 50 := by have hq : (tkO s (4 * p + i) / 10 ^ (szw (wdO s (4 * p + i)) - 1 - j) % 10) < 10 := Nat.mod_lt _ (by decide); omega
              have hxn : 10 * fo i + (tkO s (4 * p + i) / 10 ^ (szw (wdO s (4 * p + i)) - 1 - j) % 10) < 10 * nfO s := by have hq : (tkO s (4 * p + i) / 10 ^ (szw (wdO s (4 * p + i)) - 1 - j) % 10) < 10 := Nat.mod_lt _ (by decide); omega
              refine ih2 (j + 1) _ _ (by omega) (by omega) ?_
              rw [hB.2.2 _ hxn]
              exact hB.w _ hxl _
        exact inn _ 0 m1 _ (Nat.lt_succ_self _) (Nat.zero_le _) hB
  have hend : ∀ (m1 : MG) (v1 v2 v3 v4 : Option Value), Bk (10 * nfO s) m m1 2 (addP c fo (tkO s) (wdO s) p (s 8) (nlO s p)) → V P (rmz 3 90 0 0) (Z.wl ad m1) [some (.ref (ad 600)), some (.int (nI p)), some (.int c), some (.ref (ad (700 + 20 * p))), some (.int (nI (nlO s p))), v1, v2, v3, v4] 84 [] g 0 0 := by
    intro m1 v1 v2 v3 v4 hB
    refine v_aload_n (C.wl _ _) dX5_print_84 rfl rfl ?_
    refine v_dup (C.wl _ _) dX5_print_85 rfl ?_
    refine l_get (k := 700 + 20 * p) C inG4 (ci := 5) rfl 4 (by decide) (tg2 188 rfl rfl) rfl ⟨by omega, by omega⟩ (cW_5 ((hB.2.1 _ _ (by decide)).trans hPF.1)) rfl dX5_print_86 ?_
    refine v_topi (y := s 16 p) ((congrFun (hB.1 _ (by omega)) _).trans hPF.2.2.2.2.2.1) ?_
    refine v_iload_n (C.wl _ _) dX5_print_89 rfl rfl ?_
    refine v_iadd (C.wl _ _) dX5_print_90 ?_
    refine l_put (k := 700 + 20 * p) (x := (s 16 p) + c) C inG4 (ci := 5) rfl tyX4 tyX4_ok nmX4 4 (by decide) (tg2 188 rfl rfl) rfl rfl rfl rfl rfl ⟨by omega, by omega⟩ (cW_5 ((hB.2.1 _ _ (by decide)).trans hPF.1)) (Nat.le_of_ble_eq_true rfl) ((cW_5 (show upd (m1 (700 + 20 * p)) 4 ((s 16 p) + c) 100000 = 5 from (if_neg (by decide : ¬ (100000 : Nat) = 4)).trans ((hB.2.1 _ _ (by decide)).trans hPF.1))).trans rfl) dX5_print_91 ?_
    refine v_iload_n (C.wl _ _) dX5_print_94 rfl rfl ?_
    refine v_aload_n (C.wl _ _) dX5_print_95 rfl rfl ?_
    refine v_aload_n (C.wl _ _) dX5_print_96 rfl rfl ?_
    generalize hm2 : wr m1 (700 + 20 * p) 4 ((s 16 p) + c) = m2
    have g1 : ∀ k, k < 620 ∨ 670 ≤ k → k ≠ 700 + 20 * p → m2 k = m k := fun k hk h9 => by rw [← hm2, wr_row _ _ _ _ h9]; exact hB.1 k hk
    have g2 : ∀ j, j ≠ 4 → m2 (700 + 20 * p) j = m (700 + 20 * p) j := fun j hj => by rw [← hm2, wr_ne _ _ _ _ (Or.inr hj), hB.1 _ (by omega)]
    obtain ⟨t, ht4, hte⟩ := hI.2.2.2.2.1 p (by omega)
    obtain ⟨nF, hF4, hFa, hFe⟩ := hPX.2.1
    have hFe := hFe h15
    subst hFe
    have hh1 : m2 600 100000 = 6 ∧ m2 600 2 = nI 601 ∧ m2 600 5 = nI 604 := by rw [g1 600 (by omega) (by omega)]; exact ⟨hR.1.1, hR.1.2.2.2.1, hR.1.2.2.2.2.2.2.1⟩
    have hh2 : isA m2 601 (nfO s) := by unfold isA; rw [g1 601 (by omega) (by omega)]; exact hR.2.1.1.1
    have hh3 : isQ m2 2 604 4 ∧ ∀ t, t < 4 → m2 604 t = nI (606 + t) ∧ isA m2 (606 + t) 2 := by
      unfold isQ isA
      rw [g1 604 (by omega) (by omega)]
      exact ⟨hR.2.2.2.2.1.1, fun t ht => by rw [g1 (606 + t) (by omega) (by omega)]; exact ⟨(hR.2.2.2.2.1.2 t ht).1, (hR.2.2.2.2.1.2 t ht).2.1⟩⟩
    have hh4 : isA m2 (703 + 20 * p) (nlO s p) := by unfold isA; rw [g1 _ (by omega) (by omega)]; exact hFa
    have hh5 : LnK m2 (700 + 20 * p) (701 + 20 * p) (nlO s p) (fun q => 705 + 20 * p + q) (fun q => szw (wdO s (4 * p + q))) := by
      obtain ⟨k1, k2, k3, k4, k5⟩ := hPL.K hPF (by omega) h4
      unfold isQ isA at *
      refine ⟨(g2 2 (by decide)).trans k1, k2, ?_, k4, fun q hq => ?_⟩
      · unfold isQ; rw [g1 _ (by omega) (by omega)]; exact k3
      · unfold isA; rw [g1 (701 + 20 * p) (by omega) (by omega), g1 _ (by show 705 + 20 * p + q < 620 ∨ 670 ≤ 705 + 20 * p + q; omega) (by show 705 + 20 * p + q ≠ 700 + 20 * p; omega)]; exact k5 q hq
    have hh6 : m2 (700 + 20 * p) 3 = 1 → isA m2 (702 + 20 * p) (nlO s p) ∧ ∀ i, i < nlO s p → m2 (702 + 20 * p) i = nI (fo i) ∧ fo i < nfO s := fun _ => by
      unfold isA
      rw [g1 (702 + 20 * p) (by omega) (by omega)]
      exact ⟨hX.1, fun i hi => ⟨(hX.2.2 i hi).1.trans (hfo i hi).1, (hfo i hi).2⟩⟩
    refine v_callVi (n := 1) (as := [.ref (ad (700 + 20 * p))]) (C.wl _ _) (l_proof _ Z ad m2 (700 + 20 * p) (701 + 20 * p) (702 + 20 * p) (703 + 20 * p) (nlO s p) (nfO s) t (fun q => 705 + 20 * p + q) (fun q => szw (wdO s (4 * p + q))) fo ⟨by omega, by omega⟩ ((g2 _ (by decide)).trans hPF.1) (Or.inr ((g2 3 (by decide)).trans (hPF.2.2.2.2.1.trans h15))) hh1 hh2 hf5 hh3 ht4 ((g2 0 (by decide)).trans (hPF.2.1.trans hte)) ((g2 6 (by decide)).trans hPF.2.2.2.2.2.2.2.1) ⟨by omega, by omega⟩ (nlO s p) hh4 h4 ((g2 5 (by decide)).trans hPF.2.2.2.2.2.2.1) ⟨by omega, by omega⟩ hh5 hh6 g) (gv (tg3 5 rfl rfl) (tg3 6 rfl rfl) (tg3 7 rfl rfl) (tg1 6 rfl rfl) (tg3 8 rfl rfl)) (by decide +kernel) ⟨Nat.le_of_ble_eq_true rfl, Nat.le_of_ble_eq_true rfl⟩ rfl (l_cx ⟨by decide, by decide⟩ (cW_6 (((congrFun (g1 _ (by omega) (by omega)) _)).trans hR.1.1))) rfl rfl (Nat.le_of_ble_eq_true rfl) dX5_print_97 ⟨Nat.le_of_ble_eq_true rfl, Nat.le_of_ble_eq_true rfl⟩ (fun r97 g97 hp97 => ?_)
    obtain ⟨hr, hg97⟩ := hp97
    rw [hg97]
    have e9 : r97 = prO s (wdO s) p (nlO s p) (iz (s 12 p)) := by
      have h3 : ¬ m2 (700 + 20 * p) 3 = 0 := by rw [(g2 3 (by decide)).trans (hPF.2.2.2.2.1.trans h15)]; decide
      have h30 : ¬ s 15 p = 0 := by rw [h15]; decide
      have et : iz (s 12 p) = t := by rw [hte]; exact iz_nI (by omega)
      rw [hr, if_neg h3]
      unfold prO flO
      rw [if_neg h30, if_pos h15, et, g1 (606 + t) (by omega) (by omega), (hR.2.2.2.2.1.2 t ht4).2.2.1, (hR.2.2.2.2.1.2 t ht4).2.2.2, g1 601 (by omega) (by omega), g1 (703 + 20 * p) (by omega) (by omega)]
      have q1 : sumI (fun q => m 601 (fo q) * nI (szw (wdO s (4 * p + q)))) (nlO s p) = sumI (fun k => s 5 (iz (s 18 (4 * p + k))) * nI (szw (wdO s (4 * p + k)))) (nlO s p) := sumI_cong _ (fun q hq => by rw [hR.2.1.1.2 _ (hfo q hq).2, (hfo q hq).1, iz_nI (by have := (hfo q hq).2; omega)])
      have q2 : sumI (m (703 + 20 * p)) (nlO s p) = sumI (fun k => s 19 (4 * p + k)) (nlO s p) := sumI_cong _ (fun q hq => (hX.2.2 q hq).2.1)
      rw [q1, q2, Int32.mul_comm (s 10 t), Int32.mul_comm (s 11 t)]
    subst e9
    refine v_imul (C.wl _ _) dX5_print_100 ?_
    refine v_bipush (v := 100) (C.wl _ _) dX5_print_101 (by decide) ?_
    refine v_idiv (C.wl _ _) dX5_print_103 (by decide) ?_
    refine v_topi (y := gtO s p c) (by unfold gtO; rw [Int32.mul_comm c]) ?_
    refine v_istore (lo' := [some (.ref (ad 600)), some (.int (nI p)), some (.int c), some (.ref (ad (700 + 20 * p))), some (.int (gtO s p c)), v1, v2, v3, v4]) (C.wl _ _) dX5_print_104 (Nat.le_of_ble_eq_true rfl) rfl rfl ?_
    refine v_aload_n (C.wl _ _) dX5_print_106 rfl rfl ?_
    refine v_dup (C.wl _ _) dX5_print_107 rfl ?_
    refine l_get (k := 600) C inG5 (ci := 6) rfl 0 (by decide) (tg5 3 rfl rfl) rfl ⟨by decide, by decide⟩ (cW_6 (((congrFun (g1 _ (by omega) (by omega)) _)).trans hR.1.1)) rfl dX5_print_108 ?_
    refine v_topi (y := s 0 3) ((congrFun (g1 _ (by omega) (by omega)) _).trans hR.1.2.1) ?_
    refine v_iload (C.wl _ _) dX5_print_111 rfl ?_
    refine v_iadd (C.wl _ _) dX5_print_113 ?_
    refine l_put (k := 600) (x := (s 0 3) + (gtO s p c)) C inG5 (ci := 6) rfl tyX5 tyX5_ok nmX5 0 (by decide) (tg5 3 rfl rfl) rfl rfl rfl rfl rfl ⟨by decide, by decide⟩ (cW_6 (((congrFun (g1 _ (by omega) (by omega)) _)).trans hR.1.1)) (Nat.le_of_ble_eq_true rfl) ((cW_6 (show upd (m2 600) 0 ((s 0 3) + (gtO s p c)) 100000 = 6 from (if_neg (by decide : ¬ (100000 : Nat) = 0)).trans (((congrFun (g1 _ (by omega) (by omega)) _)).trans hR.1.1))).trans rfl) dX5_print_114 ?_
    refine v_iload (C.wl _ _) dX5_print_117 rfl ?_
    exact ret _ _ _ _ _ _ dX5_print_119 ⟨rfl, rfl, by rw [← hm2]; exact Sim_print hI hR hp hcd hB (fun x hx => addP_v c fo (s 18) (tkO s) (wdO s) p (nlO s p) (fun i hi => ⟨(hfo i hi).1, by have := (hfo i hi).2; omega⟩) (s 8) _ (Nat.le_refl _) x (by omega)), fun k hk => by rw [wr_row _ _ _ _ (by omega), g1 k (by omega) (by omega)], rfl⟩
  have blk8 : ∀ x, x < 10 * nfO s → m (620 + x) 2 = s 8 x := fun x hx => by
    have h := (hR.2.2.1 (x / 10) (x % 10) (by omega) (Nat.mod_lt _ (by decide))).2.2.2
    rwa [show 620 + 10 * (x / 10) + x % 10 = 620 + x by omega, show 10 * (x / 10) + x % 10 = x by omega] at h
  refine v_aload_n (C.wl _ _) dX5_print_0 rfl rfl ?_
  refine l_get (k := 600) C inG5 (ci := 6) rfl 6 (by decide) (tg5 13 rfl rfl) rfl ⟨by decide, by decide⟩ (cW_6 hR.1.1) (sm_r (by decide) hR.1.2.2.2.2.2.2.2 ⟨by decide, by decide⟩) dX5_print_1 ?_
  refine v_iload_n (C.wl _ _) dX5_print_4 rfl rfl ?_
  refine l_aald (k := 605) (n := npO s) (a := p) (k2 := 700 + 20 * p) C ⟨by decide, by decide⟩ (Or.inr (Or.inr hR.2.2.2.2.2.1.1.1)) hR.2.2.2.2.2.1.1.2 ⟨hp, by omega⟩ (hR.2.2.2.2.2.1.2 _ hp) ⟨by omega, by omega⟩ dX5_print_5 ?_
  refine v_astore_n (lo' := [some (.ref (ad 600)), some (.int (nI p)), some (.int c), some (.ref (ad (700 + 20 * p))), none, none, none, none, none]) (C.wl _ _) dX5_print_6 rfl (Nat.le_of_ble_eq_true rfl) rfl rfl ?_
  refine v_iconst (v := 0) (C.wl _ _) dX5_print_7 (by decide) ?_
  refine v_istore (lo' := [some (.ref (ad 600)), some (.int (nI p)), some (.int c), some (.ref (ad (700 + 20 * p))), some (.int 0), none, none, none, none]) (C.wl _ _) dX5_print_8 (Nat.le_of_ble_eq_true rfl) rfl rfl ?_
  exact loop hend _ 0 m _ _ _ _ (Nat.lt_succ_self _) (Nat.zero_le _) (Bk.rf fun x hx => blk8 x hx)
