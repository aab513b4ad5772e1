/-! THE LAW'S METHODS: strike of its shop -/
set_option maxRecDepth 100000 in
theorem l_strike (l : Launch) (Z : Zc) (ad : Nat → Nat) (s m g : MG) (N : Nat) (p : Nat) (hI : IvM s) (hF9 : IvF s) (hR : SimR s m) (hp : p < npO s) (h15 : s 15 p = 1) (hZ : IvZ s) (hB9 : IvB N s) : LMi l yX5_strike cX5_strike 12 (some .int) (rmz 1 40 0 0) Z [.ref (ad 600), .int (nI p)] ad m g (fun r ad' m' g' => r = sumI (brO s p) 50 ∧ ad' = ad ∧ SimR (stStrike s (nI p)) m' ∧ (∀ k, 900 ≤ k → m' k = m k) ∧ g' = g) := by
  have hp6 := (IvM_np hI).1
  have hf5 := (IvM_nf hI).1
  have h4 := (IvM_nl hI (show p < 6 by omega)).2
  obtain ⟨hPF, hPL, hPX⟩ := hR.L hp
  have hX := hPX.2.2.2 h15
  have hfo : ∀ i, i < nlO s p → s 18 (4 * p + i) = nI (iz (s 18 (4 * p + i))) ∧ iz (s 18 (4 * p + i)) < nfO s := fun i hi => by
    obtain ⟨f, h1, h2⟩ := hF9 p i hp h15 hi
    have e : iz (s 18 (4 * p + i)) = f := by rw [h2]; exact iz_nI (by omega)
    rw [e]; exact ⟨h2, h1⟩
  generalize hfe : (fun i => iz (s 18 (4 * p + i))) = fo at *
  have hfo : ∀ i, i < nlO s p → s 18 (4 * p + i) = nI (fo i) ∧ fo i < nfO s := fun i hi => by rw [← hfe]; exact hfo i hi
  refine ent_li (own := RX5) (lo := [some (.ref (ad 600)), some (.int (nI p)), none, none, none, none, none, none, none, none, none, none]) (by decide) rfl (by simp [lg_sl, Value.category]) rfl (fun P hl C hW9 ret => ?_)
  have loop : (∀ (m1 : MG) (v1 v2 v3 v4 : Option Value), Bk (10 * nfO s) m m1 1 (addP (-1) fo (tkO s) (wdO s) p (s 7) (nlO s p)) → V P (rmz 1 40 0 0) (Z.wl ad m1) [some (.ref (ad 600)), some (.int (nI p)), some (.ref (ad (700 + 20 * p))), some (.int (nI (nlO s p))), v1, v2, v3, v4, none, none, none, none] 80 [] g 0 0) → ∀ (n i : Nat) (m1 : MG) (v1 v2 v3 v4 : Option Value), nlO s p - i < n → i ≤ nlO s p → Bk (10 * nfO s) m m1 1 (addP (-1) fo (tkO s) (wdO s) p (s 7) i) → V P (rmz 1 40 0 0) (Z.wl ad m1) [some (.ref (ad 600)), some (.int (nI p)), some (.ref (ad (700 + 20 * p))), some (.int (nI i)), v1, v2, v3, v4, none, none, none, none] 9 [] g 0 0 := by
    intro hend n
    induction n with
    | zero => intro i m1 v1 v2 v3 v4 hn; exact absurd hn (Nat.not_lt_zero _)
    | succ n ih =>
      intro i m1 v1 v2 v3 v4 hn hi hB
      refine v_iload_n (C.wl _ _) dX5_strike_9 rfl rfl ?_
      refine v_aload_n (C.wl _ _) dX5_strike_10 rfl rfl ?_
      refine l_get (k := 700 + 20 * p) C inG4 (ci := 5) rfl 2 (by decide) (tg2 183 rfl rfl) rfl ⟨by omega, by omega⟩ (cW_5 ((hB.2.1 _ _ (by decide)).trans hPF.1)) (ps_r (by decide) ((congrFun (hB.1 _ (by omega)) _).trans hPF.2.2.2.1) ⟨by omega, by omega⟩) dX5_strike_11 ?_
      refine l_len (k := 701 + 20 * p) (n := nlO s p) C ⟨by omega, by omega⟩ (Or.inr (Or.inl ((hB.2.1 _ _ (by decide)).trans hPL.1.1))) ((hB.2.1 _ _ (by decide)).trans hPL.1.2) (by omega) dX5_strike_14 ?_
      refine v_icmp_ge (tgt := 80) (C.wl _ _) dX5_strike_15 (by decide) (fun h15 => ?_) (fun h15 => ?_)
      · have hkn15 : i = nlO s p := Nat.le_antisymm hi ((nI_leI (by omega) (by omega)).mp h15)
        subst hkn15
        exact hend m1 v1 v2 v3 v4 hB
      · have hkn15 : i < nlO s p := Nat.lt_of_not_le fun q => h15 ((nI_leI (by omega) (by omega)).mpr q)
        refine v_aload_n (C.wl _ _) dX5_strike_18 rfl rfl ?_
        refine l_get (k := 700 + 20 * p) C inG4 (ci := 5) rfl 7 (by decide) (tg2 194 rfl rfl) rfl ⟨by omega, by omega⟩ (cW_5 ((hB.2.1 _ _ (by decide)).trans hPF.1)) (ps_r (by decide) ((congrFun (hB.1 _ (by omega)) _).trans hPF.2.2.2.2.2.2.2.2) ⟨by omega, by omega⟩) dX5_strike_19 ?_
        refine v_iload_n (C.wl _ _) dX5_strike_22 rfl rfl ?_
        refine l_aald (k := 704 + 20 * p) (n := nlO s p) (a := i) (k2 := 710 + 20 * p + i) C ⟨by omega, by omega⟩ (Or.inl ((hB.2.1 _ _ (by decide)).trans hX.2.1.1)) ((hB.2.1 _ _ (by decide)).trans hX.2.1.2) (by omega) ((congrFun (hB.1 _ (by omega)) _).trans (hX.2.2 _ hkn15).2.2.1) ⟨by omega, by omega⟩ dX5_strike_23 ?_
        refine v_astore (lo' := [some (.ref (ad 600)), some (.int (nI p)), some (.ref (ad (700 + 20 * p))), some (.int (nI i)), some (.ref (ad (710 + 20 * p + i))), v2, v3, v4, none, none, none, none]) (C.wl _ _) dX5_strike_24 (Nat.le_of_ble_eq_true rfl) rfl rfl ?_
        refine v_aload (C.wl _ _) dX5_strike_26 rfl ?_
        refine l_len (k := 710 + 20 * p + i) (n := szw (wdO s (4 * p + i))) C ⟨by omega, by omega⟩ (Or.inl ((hB.2.1 _ _ (by decide)).trans (hX.2.2 _ hkn15).2.2.2.1.1)) ((hB.2.1 _ _ (by decide)).trans (hX.2.2 _ hkn15).2.2.2.1.2) (by have := @szw_le (wdO s (4 * p + i)); omega) dX5_strike_28 ?_
        refine v_istore (lo' := [some (.ref (ad 600)), some (.int (nI p)), some (.ref (ad (700 + 20 * p))), some (.int (nI i)), some (.ref (ad (710 + 20 * p + i))), some (.int (nI (szw (wdO s (4 * p + i))))), v3, v4, none, none, none, none]) (C.wl _ _) dX5_strike_29 (Nat.le_of_ble_eq_true rfl) rfl rfl ?_
        refine v_iconst (v := 0) (C.wl _ _) dX5_strike_31 (by decide) ?_
        refine v_istore (lo' := [some (.ref (ad 600)), some (.int (nI p)), some (.ref (ad (700 + 20 * p))), some (.int (nI i)), some (.ref (ad (710 + 20 * p + i))), some (.int (nI (szw (wdO s (4 * p + i))))), some (.int 0), v4, none, none, none, none]) (C.wl _ _) dX5_strike_32 (Nat.le_of_ble_eq_true rfl) rfl rfl ?_
        obtain ⟨hfi, hfl⟩ := hfo i hkn15
        have hsz := @szw_le (wdO s (4 * p + i))
        have inn : ∀ (n2 j : Nat) (m2 : MG) (v4 : Option Value), szw (wdO s (4 * p + i)) - j < n2 → j ≤ szw (wdO s (4 * p + i)) → Bk (10 * nfO s) m m2 1 (addL (-1) (fo i) (szw (wdO s (4 * p + i))) (tkO s (4 * p + i)) (addP (-1) fo (tkO s) (wdO s) p (s 7) i) j) → V P (rmz 1 40 0 0) (Z.wl ad m2) [some (.ref (ad 600)), some (.int (nI p)), some (.ref (ad (700 + 20 * p))), some (.int (nI i)), some (.ref (ad (710 + 20 * p + i))), some (.int (nI (szw (wdO s (4 * p + i))))), some (.int (nI j)), v4, none, none, none, none] 34 [] g 0 0 := by
          intro n2
          induction n2 with
          | zero => intro j m2 v4 hn; exact absurd hn (Nat.not_lt_zero _)
          | succ n2 ih2 =>
            intro j m2 v4 hn2 hj hB
            refine v_iload (C.wl _ _) dX5_strike_34 rfl ?_
            refine v_iload (C.wl _ _) dX5_strike_36 rfl ?_
            refine v_icmp_ge (tgt := 74) (C.wl _ _) dX5_strike_38 (by decide) (fun h38 => ?_) (fun h38 => ?_)
            · have hkn38 : j = szw (wdO s (4 * p + i)) := Nat.le_antisymm hj ((nI_leI (by omega) (by omega)).mp h38)
              rw [hkn38] at hB
              rw [hkn38]
              refine v_iinc (lo' := [some (.ref (ad 600)), some (.int (nI p)), some (.ref (ad (700 + 20 * p))), some (.int ((nI i) + 1)), some (.ref (ad (710 + 20 * p + i))), some (.int (nI (szw (wdO s (4 * p + i))))), some (.int (nI (szw (wdO s (4 * p + i))))), v4, none, none, none, none]) (C.wl _ _) dX5_strike_74 rfl rfl rfl rfl ?_
              refine v_goto (tgt := 9) (C.wl _ _) dX5_strike_77 (by decide) ?_
              refine v_lo (lo' := [some (.ref (ad 600)), some (.int (nI p)), some (.ref (ad (700 + 20 * p))), some (.int (nI (i + 1))), some (.ref (ad (710 + 20 * p + i))), some (.int (nI (szw (wdO s (4 * p + i))))), some (.int (nI (szw (wdO s (4 * p + i))))), v4, none, none, none, none]) (by rw [nI_succ]) ?_
              exact ih (i + 1) m2 _ _ _ _ (by omega) (by omega) hB
            · have hkn38 : j < szw (wdO s (4 * p + i)) := Nat.lt_of_not_le fun q => h38 ((nI_leI (by omega) (by omega)).mpr q)
              refine v_aload (C.wl _ _) dX5_strike_41 rfl ?_
              refine v_iload (C.wl _ _) dX5_strike_43 rfl ?_
              refine l_iald (k := 710 + 20 * p + i) (n := szw (wdO s (4 * p + i))) (a := j) C ⟨by omega, by omega⟩ ((hB.2.1 _ _ (by decide)).trans (hX.2.2 _ hkn15).2.2.2.1.1) ((hB.2.1 _ _ (by decide)).trans (hX.2.2 _ hkn15).2.2.2.1.2) (by omega) dX5_strike_45 ?_
              refine v_topi (y := nI (tkO s (4 * p + i) / 10 ^ (szw (wdO s (4 * p + i)) - 1 - j) % 10)) (((congrFun (hB.1 _ (by omega)) _)).trans ((hX.2.2 _ hkn15).2.2.2.2 _ hkn38)) ?_
              refine v_istore (lo' := [some (.ref (ad 600)), some (.int (nI p)), some (.ref (ad (700 + 20 * p))), some (.int (nI i)), some (.ref (ad (710 + 20 * p + i))), some (.int (nI (szw (wdO s (4 * p + i))))), some (.int (nI j)), some (.int (nI (tkO s (4 * p + i) / 10 ^ (szw (wdO s (4 * p + i)) - 1 - j) % 10))), none, none, none, none]) (C.wl _ _) dX5_strike_46 (Nat.le_of_ble_eq_true rfl) rfl rfl ?_
              refine v_aload_n (C.wl _ _) dX5_strike_48 rfl rfl ?_
              refine l_get (k := 600) C inG5 (ci := 6) rfl 3 (by decide) (tg5 7 rfl rfl) rfl ⟨by decide, by decide⟩ (cW_6 ((hB.2.1 _ _ (by decide)).trans hR.1.1)) (sm_r (by decide) ((congrFun (hB.1 _ (by omega)) _).trans hR.1.2.2.2.2.1) ⟨by decide, by decide⟩) dX5_strike_49 ?_
              refine v_aload_n (C.wl _ _) dX5_strike_52 rfl rfl ?_
              refine l_get (k := 700 + 20 * p) C inG4 (ci := 5) rfl 5 (by decide) (tg2 190 rfl rfl) rfl ⟨by omega, by omega⟩ (cW_5 ((hB.2.1 _ _ (by decide)).trans hPF.1)) (ps_r (by decide) ((congrFun (hB.1 _ (by omega)) _).trans hPF.2.2.2.2.2.2.1) ⟨by omega, by omega⟩) dX5_strike_53 ?_
              refine v_iload_n (C.wl _ _) dX5_strike_56 rfl rfl ?_
              refine l_iald (k := 702 + 20 * p) (n := nlO s p) (a := i) C ⟨by omega, by omega⟩ ((hB.2.1 _ _ (by decide)).trans hX.1.1) ((hB.2.1 _ _ (by decide)).trans hX.1.2) (by omega) dX5_strike_57 ?_
              refine v_topi (y := nI (fo i)) (((congrFun (hB.1 _ (by omega)) _)).trans ((hX.2.2 _ hkn15).1.trans hfi)) ?_
              refine l_aald (k := 602) (n := nfO s) (a := (fo i)) (k2 := 610 + (fo i)) C ⟨by decide, by decide⟩ (Or.inr (Or.inl ((hB.2.1 _ _ (by decide)).trans hR.2.1.2.1.1.1))) ((hB.2.1 _ _ (by decide)).trans hR.2.1.2.1.1.2) ⟨hfl, by omega⟩ ((congrFun (hB.1 _ (by omega)) _).trans (hR.2.1.2.1.2 _ hfl)) ⟨by omega, by omega⟩ dX5_strike_58 ?_
              refine v_iload (C.wl _ _) dX5_strike_59 rfl ?_
              refine l_aald (k := 610 + (fo i)) (n := 10) (a := (tkO s (4 * p + i) / 10 ^ (szw (wdO s (4 * p + i)) - 1 - j) % 10)) (k2 := 620 + (10 * (fo i) + (tkO s (4 * p + i) / 10 ^ (szw (wdO s (4 * p + i)) - 1 - j) % 10))) C ⟨by omega, by omega⟩ (Or.inl ((hB.2.1 _ _ (by decide)).trans (hR.2.1.2.2 _ hfl).1.1)) ((hB.2.1 _ _ (by decide)).trans (hR.2.1.2.2 _ hfl).1.2) ⟨Nat.mod_lt _ (by decide), by decide⟩ (((congrFun (hB.1 _ (by omega)) _).trans ((hR.2.1.2.2 _ hfl).2 _ (Nat.mod_lt _ (by decide)))).trans (congrArg nI (Nat.add_assoc _ _ _))) ⟨by omega, by omega⟩ dX5_strike_61 ?_
              refine v_iconst (v := 1) (C.wl _ _) dX5_strike_62 (by decide) ?_
              refine v_dup2 (C.wl _ _) dX5_strike_63 rfl rfl ?_
              refine l_iald (k := 620 + (10 * (fo i) + (tkO s (4 * p + i) / 10 ^ (szw (wdO s (4 * p + i)) - 1 - j) % 10))) (n := 3) (a := 1) C ⟨by omega, by omega⟩ ((hB.2.1 _ _ (by decide)).trans ((Nat.add_assoc 620 (10 * (fo i)) (tkO s (4 * p + i) / 10 ^ (szw (wdO s (4 * p + i)) - 1 - j) % 10)) ▸ hR.2.2.1 _ _ hfl (Nat.mod_lt _ (by decide))).1.1) ((hB.2.1 _ _ (by decide)).trans ((Nat.add_assoc 620 (10 * (fo i)) (tkO s (4 * p + i) / 10 ^ (szw (wdO s (4 * p + i)) - 1 - j) % 10)) ▸ hR.2.2.1 _ _ hfl (Nat.mod_lt _ (by decide))).1.2) (by decide) dX5_strike_64 ?_
              refine v_iconst (v := 1) (C.wl _ _) dX5_strike_65 (by decide) ?_
              refine v_isub (C.wl _ _) dX5_strike_66 ?_
              refine l_iast (k := 620 + (10 * (fo i) + (tkO s (4 * p + i) / 10 ^ (szw (wdO s (4 * p + i)) - 1 - j) % 10))) (n := 3) (a := 1) C ⟨by omega, by omega⟩ ((hB.2.1 _ _ (by decide)).trans ((Nat.add_assoc 620 (10 * (fo i)) (tkO s (4 * p + i) / 10 ^ (szw (wdO s (4 * p + i)) - 1 - j) % 10)) ▸ hR.2.2.1 _ _ hfl (Nat.mod_lt _ (by decide))).1.1) ((hB.2.1 _ _ (by decide)).trans ((Nat.add_assoc 620 (10 * (fo i)) (tkO s (4 * p + i) / 10 ^ (szw (wdO s (4 * p + i)) - 1 - j) % 10)) ▸ hR.2.2.1 _ _ hfl (Nat.mod_lt _ (by decide))).1.2) (by decide) dX5_strike_67 ?_
              refine v_iinc (lo' := [some (.ref (ad 600)), some (.int (nI p)), some (.ref (ad (700 + 20 * p))), some (.int (nI i)), some (.ref (ad (710 + 20 * p + i))), some (.int (nI (szw (wdO s (4 * p + i))))), some (.int ((nI j) + 1)), some (.int (nI (tkO s (4 * p + i) / 10 ^ (szw (wdO s (4 * p + i)) - 1 - j) % 10))), none, none, none, none]) (C.wl _ _) dX5_strike_68 rfl rfl rfl rfl ?_
              refine v_goto (tgt := 34) (C.wl _ _) dX5_strike_71 (by decide) ?_
              refine v_lo (lo' := [some (.ref (ad 600)), some (.int (nI p)), some (.ref (ad (700 + 20 * p))), some (.int (nI i)), some (.ref (ad (710 + 20 * p + i))), some (.int (nI (szw (wdO s (4 * p + i))))), some (.int (nI (j + 1))), some (.int (nI (tkO s (4 * p + i) / 10 ^ (szw (wdO s (4 * p + i)) - 1 - j) % 10))), none, none, none, none]) (by rw [nI_succ]) ?_
              have hxl : 10 * fo i + (tkO s (4 * p + i) / 10 ^ (szw (wdO s (4 * p + i)) - 1 - j) % 10) < 50 := by have hq : (tkO s (4 * p + i) / 10 ^ (szw (wdO s (4 * p + i)) - 1 - j) % 10) < 10 := Nat.mod_lt _ (by decide); omega
              have hxn : 10 * fo i + (tkO s (4 * p + i) / 10 ^ (szw (wdO s (4 * p + i)) - 1 - j) % 10) < 10 * nfO s := by have hq : (tkO s (4 * p + i) / 10 ^ (szw (wdO s (4 * p + i)) - 1 - j) % 10) < 10 := Nat.mod_lt _ (by decide); omega
              refine ih2 (j + 1) _ _ (by omega) (by omega) ?_
              rw [hB.2.2 _ hxn]
              rw [Int32.sub_eq_add_neg]; exact hB.w _ hxl _
        exact inn _ 0 m1 _ (Nat.lt_succ_self _) (Nat.zero_le _) hB
  have hcd : cdStrike s (nI p) = 0 := by unfold cdStrike; rw [if_neg (by rw [isN_t.mpr (by rw [nI_toInt (by omega)]; omega)]; decide), iz_nI (by omega), if_neg (by rw [h15]; decide)]
  have hend : ∀ (m1 : MG) (v1 v2 v3 v4 : Option Value), Bk (10 * nfO s) m m1 1 (addP (-1) fo (tkO s) (wdO s) p (s 7) (nlO s p)) → V P (rmz 1 40 0 0) (Z.wl ad m1) [some (.ref (ad 600)), some (.int (nI p)), some (.ref (ad (700 + 20 * p))), some (.int (nI (nlO s p))), v1, v2, v3, v4, none, none, none, none] 80 [] g 0 0 := by
    intro m0 v1 v2 v3 v4 hB0
    refine v_aload_n (C.wl _ _) dX5_strike_80 rfl rfl ?_
    refine v_iconst (v := 0) (C.wl _ _) dX5_strike_81 (by decide) ?_
    refine l_put (k := 700 + 20 * p) (x := 0) C inG4 (ci := 5) rfl tyX4 tyX4_ok nmX4 3 (by decide) (tg2 186 rfl rfl) rfl rfl rfl rfl rfl ⟨by omega, by omega⟩ (cW_5 ((hB0.2.1 _ _ (by decide)).trans hPF.1)) (Nat.le_of_ble_eq_true rfl) ((cW_5 (show upd (m0 (700 + 20 * p)) 3 (0) 100000 = 5 from (if_neg (by decide : ¬ (100000 : Nat) = 3)).trans ((hB0.2.1 _ _ (by decide)).trans hPF.1))).trans rfl) dX5_strike_82 ?_
    generalize hm1 : wr m0 (700 + 20 * p) 3 0 = m1
    have g1 : ∀ k, k ≠ 700 + 20 * p → m1 k = m0 k := fun k hk => by rw [← hm1, wr_row _ _ _ _ hk]
    have hv7 : ∀ x, x < 10 * nfO s → m1 (620 + x) 1 = skO s p x := fun x hx => by
      rw [g1 _ (by omega), hB0.2.2 x hx, addP_v (-1) fo (s 18) (tkO s) (wdO s) p (nlO s p) (fun i hi => ⟨(hfo i hi).1, by have := (hfo i hi).2; omega⟩) (s 7) _ (Nat.le_refl _) x (by omega)]
      unfold skO outO
      grind
    have hb0 : Bb (10 * nfO s) s m1 m1 (brX s p 0 0) := ⟨fun _ _ => rfl, fun _ _ _ _ => rfl, fun y hy => by
      have h := hR.2.2.1 (y / 10) (y % 10) (by omega) (Nat.mod_lt _ (by decide))
      rw [show 620 + 10 * (y / 10) + y % 10 = 620 + y by omega, show 10 * (y / 10) + y % 10 = y by omega] at h
      have eb : brX s p 0 0 y = 0 := by unfold brX; rw [if_neg (Nat.not_lt_zero _)]; split <;> rfl
      rw [eb, g1 _ (by omega), hB0.2.1 _ _ (by decide), hB0.2.1 _ 2 (by decide), h.2.1, h.2.2.2]
      exact ⟨by grind, by grind⟩⟩
    refine v_iconst (v := 0) (C.wl _ _) dX5_strike_85 (by decide) ?_
    refine v_istore_n (lo' := [some (.ref (ad 600)), some (.int (nI p)), some (.ref (ad (700 + 20 * p))), some (.int 0), v1, v2, v3, v4, none, none, none, none]) (C.wl _ _) dX5_strike_86 rfl (Nat.le_of_ble_eq_true rfl) rfl rfl ?_
    refine v_aload_n (C.wl _ _) dX5_strike_87 rfl rfl ?_
    refine l_get (k := 600) C inG5 (ci := 6) rfl 3 (by decide) (tg5 7 rfl rfl) rfl ⟨by decide, by decide⟩ (cW_6 ((congrFun (g1 _ (by omega)) _).trans ((hB0.2.1 _ _ (by decide)).trans hR.1.1))) (sm_r (by decide) ((congrFun (g1 _ (by omega)) _).trans ((congrFun (hB0.1 _ (by omega)) _).trans hR.1.2.2.2.2.1)) ⟨by decide, by decide⟩) dX5_strike_88 ?_
    refine v_astore (lo' := [some (.ref (ad 600)), some (.int (nI p)), some (.ref (ad (700 + 20 * p))), some (.int 0), some (.ref (ad 602)), v2, v3, v4, none, none, none, none]) (C.wl _ _) dX5_strike_91 (Nat.le_of_ble_eq_true rfl) rfl rfl ?_
    refine v_aload (C.wl _ _) dX5_strike_93 rfl ?_
    refine l_len (k := 602) (n := nfO s) C ⟨by decide, by decide⟩ (Or.inr (Or.inr (Or.inl ((congrFun (g1 _ (by omega)) _).trans ((hB0.2.1 _ _ (by decide)).trans hR.2.1.2.1.1.1))))) ((congrFun (g1 _ (by omega)) _).trans ((hB0.2.1 _ _ (by decide)).trans hR.2.1.2.1.1.2)) (by omega) dX5_strike_95 ?_
    refine v_istore (lo' := [some (.ref (ad 600)), some (.int (nI p)), some (.ref (ad (700 + 20 * p))), some (.int 0), some (.ref (ad 602)), some (.int (nI (nfO s))), v3, v4, none, none, none, none]) (C.wl _ _) dX5_strike_96 (Nat.le_of_ble_eq_true rfl) rfl rfl ?_
    refine v_iconst (v := 0) (C.wl _ _) dX5_strike_98 (by decide) ?_
    refine v_istore (lo' := [some (.ref (ad 600)), some (.int (nI p)), some (.ref (ad (700 + 20 * p))), some (.int 0), some (.ref (ad 602)), some (.int (nI (nfO s))), some (.int 0), v4, none, none, none, none]) (C.wl _ _) dX5_strike_99 (Nat.le_of_ble_eq_true rfl) rfl rfl ?_
    have loopF : ∀ (n f : Nat) (m2 : MG) (w7 w8 w9 w10 w11 : Option Value), nfO s - f < n → f ≤ nfO s → Bb (10 * nfO s) s m1 m2 (brX s p (10 * f) 0) → V P (rmz 1 40 0 0) (Z.wl ad m2) [some (.ref (ad 600)), some (.int (nI p)), some (.ref (ad (700 + 20 * p))), some (.int (sumI (brO s p) (10 * f))), some (.ref (ad 602)), some (.int (nI (nfO s))), some (.int (nI f)), w7, w8, w9, w10, w11] 101 [] g 0 0 := by
      intro n
      induction n with
      | zero => intro f m2 w7 w8 w9 w10 w11 hn; exact absurd hn (Nat.not_lt_zero _)
      | succ n ihF =>
        intro f m2 w7 w8 w9 w10 w11 hn hf hb
        refine v_iload (C.wl _ _) dX5_strike_101 rfl ?_
        refine v_iload (C.wl _ _) dX5_strike_103 rfl ?_
        refine v_icmp_ge (tgt := 198) (C.wl _ _) dX5_strike_105 (by decide) (fun h105 => ?_) (fun h105 => ?_)
        · have hkn105 : f = nfO s := Nat.le_antisymm hf ((nI_leI (by omega) (by omega)).mp h105)
          subst hkn105
          have hsum : sumI (brO s p) (10 * nfO s) = sumI (brO s p) 50 := (sumI_tail (by omega) (fun x h1 h2 => br_zero hI hF9 hZ hp h15 ⟨h1, h2⟩)).symm
          refine v_lo (lo' := [some (.ref (ad 600)), some (.int (nI p)), some (.ref (ad (700 + 20 * p))), some (.int (sumI (brO s p) 50)), some (.ref (ad 602)), some (.int (nI (nfO s))), some (.int (nI (nfO s))), w7, w8, w9, w10, w11]) (by rw [hsum]) ?_
          refine v_aload_n (C.wl _ _) dX5_strike_198 rfl rfl ?_
          refine v_dup (C.wl _ _) dX5_strike_199 rfl ?_
          refine l_get (k := 600) C inG5 (ci := 6) rfl 1 (by decide) (tg5 4 rfl rfl) rfl ⟨by decide, by decide⟩ (cW_6 ((hb.2.1 _ _ (by decide) (by decide)).trans ((congrFun (g1 _ (by omega)) _).trans ((hB0.2.1 _ _ (by decide)).trans hR.1.1)))) rfl dX5_strike_200 ?_
          refine v_topi (y := s 0 4) ((congrFun (hb.1 _ (by omega)) _).trans ((congrFun (g1 _ (by omega)) _).trans ((congrFun (hB0.1 _ (by omega)) _).trans hR.1.2.2.1))) ?_
          refine v_iload_n (C.wl _ _) dX5_strike_203 rfl rfl ?_
          refine v_iadd (C.wl _ _) dX5_strike_204 ?_
          refine l_put (k := 600) (x := (s 0 4) + (sumI (brO s p) 50)) C inG5 (ci := 6) rfl tyX5 tyX5_ok nmX5 1 (by decide) (tg5 4 rfl rfl) rfl rfl rfl rfl rfl ⟨by decide, by decide⟩ (cW_6 ((hb.2.1 _ _ (by decide) (by decide)).trans ((congrFun (g1 _ (by omega)) _).trans ((hB0.2.1 _ _ (by decide)).trans hR.1.1)))) (Nat.le_of_ble_eq_true rfl) ((cW_6 (show upd (m2 600) 1 ((s 0 4) + (sumI (brO s p) 50)) 100000 = 6 from (if_neg (by decide : ¬ (100000 : Nat) = 1)).trans ((hb.2.1 _ _ (by decide) (by decide)).trans ((congrFun (g1 _ (by omega)) _).trans ((hB0.2.1 _ _ (by decide)).trans hR.1.1))))).trans rfl) dX5_strike_205 ?_
          refine v_iload_n (C.wl _ _) dX5_strike_208 rfl rfl ?_
          exact ret _ _ _ _ _ _ dX5_strike_209 ⟨rfl, rfl, Sim_strike hI hR hp hcd (fun k k1 k2 k3 k4 => by rw [wr_row _ _ _ _ (by omega), hb.1 k (by omega), g1 k (k4 p (by omega)), hB0.1 k (by omega)]) ⟨fun j hj => by rw [wr_ne _ _ _ _ (Or.inr hj), hb.1 600 (by omega), g1 600 (by omega), hB0.1 600 (by omega)], wr_same _ _ _ _⟩ (fun q j hq hj => by rw [wr_row _ _ _ _ (by omega), hb.1 _ (by omega), ← hm1]; by_cases hqp : q = p; (· rw [hqp, wr_ne _ _ _ _ (Or.inr (fun z => hj ⟨hqp, z⟩)), hB0.1 _ (by omega)]); (· rw [wr_row _ _ _ _ (by omega), hB0.1 _ (by omega)])) (by rw [wr_row _ _ _ _ (by omega), hb.1 _ (by omega), ← hm1, wr_same]) (fun x hx => ⟨fun j hj => by rw [wr_row _ _ _ _ (by omega), hb.2.1 _ _ (by omega) (by omega), g1 _ (by omega), hB0.2.1 _ _ (by omega)], by rw [wr_row _ _ _ _ (by omega), (hb.2.2 x hx).1]; unfold brX; rw [if_pos (by omega)], by rw [wr_row _ _ _ _ (by omega), hb.2.1 _ _ (by decide) (by decide)]; exact hv7 x hx, by rw [wr_row _ _ _ _ (by omega), (hb.2.2 x hx).2]; unfold brX; rw [if_pos (by omega)]⟩), fun k hk => by rw [wr_row _ _ _ _ (by omega), hb.1 k (by omega), g1 k (by omega), hB0.1 k (by omega)], rfl⟩
        · have hkn105 : f < nfO s := Nat.lt_of_not_le fun q => h105 ((nI_leI (by omega) (by omega)).mpr q)
          refine v_aload (C.wl _ _) dX5_strike_108 rfl ?_
          refine v_iload (C.wl _ _) dX5_strike_110 rfl ?_
          refine l_aald (k := 602) (n := nfO s) (a := f) (k2 := 610 + f) C ⟨by decide, by decide⟩ (Or.inr (Or.inl ((hb.2.1 _ _ (by decide) (by decide)).trans ((congrFun (g1 _ (by omega)) _).trans ((hB0.2.1 _ _ (by decide)).trans hR.2.1.2.1.1.1))))) ((hb.2.1 _ _ (by decide) (by decide)).trans ((congrFun (g1 _ (by omega)) _).trans ((hB0.2.1 _ _ (by decide)).trans hR.2.1.2.1.1.2))) (by omega) ((congrFun (hb.1 _ (by omega)) _).trans ((congrFun (g1 _ (by omega)) _).trans ((congrFun (hB0.1 _ (by omega)) _).trans (hR.2.1.2.1.2 _ hkn105)))) ⟨by omega, by omega⟩ dX5_strike_112 ?_
          refine v_astore (lo' := [some (.ref (ad 600)), some (.int (nI p)), some (.ref (ad (700 + 20 * p))), some (.int (sumI (brO s p) (10 * f))), some (.ref (ad 602)), some (.int (nI (nfO s))), some (.int (nI f)), some (.ref (ad (610 + f))), w8, w9, w10, w11]) (C.wl _ _) dX5_strike_113 (Nat.le_of_ble_eq_true rfl) rfl rfl ?_
          refine v_aload (C.wl _ _) dX5_strike_115 rfl ?_
          refine v_astore (lo' := [some (.ref (ad 600)), some (.int (nI p)), some (.ref (ad (700 + 20 * p))), some (.int (sumI (brO s p) (10 * f))), some (.ref (ad 602)), some (.int (nI (nfO s))), some (.int (nI f)), some (.ref (ad (610 + f))), some (.ref (ad (610 + f))), w9, w10, w11]) (C.wl _ _) dX5_strike_117 (Nat.le_of_ble_eq_true rfl) rfl rfl ?_
          refine v_aload (C.wl _ _) dX5_strike_119 rfl ?_
          refine l_len (k := 610 + f) (n := 10) C ⟨by omega, by omega⟩ (Or.inr (Or.inl ((hb.2.1 _ _ (by decide) (by decide)).trans ((congrFun (g1 _ (by omega)) _).trans ((hB0.2.1 _ _ (by decide)).trans (hR.2.1.2.2 _ hkn105).1.1))))) ((hb.2.1 _ _ (by decide) (by decide)).trans ((congrFun (g1 _ (by omega)) _).trans ((hB0.2.1 _ _ (by decide)).trans (hR.2.1.2.2 _ hkn105).1.2))) (by decide) dX5_strike_121 ?_
          refine v_istore (lo' := [some (.ref (ad 600)), some (.int (nI p)), some (.ref (ad (700 + 20 * p))), some (.int (sumI (brO s p) (10 * f))), some (.ref (ad 602)), some (.int (nI (nfO s))), some (.int (nI f)), some (.ref (ad (610 + f))), some (.ref (ad (610 + f))), some (.int (nI 10)), w10, w11]) (C.wl _ _) dX5_strike_122 (Nat.le_of_ble_eq_true rfl) rfl rfl ?_
          refine v_iconst (v := 0) (C.wl _ _) dX5_strike_124 (by decide) ?_
          refine v_istore (lo' := [some (.ref (ad 600)), some (.int (nI p)), some (.ref (ad (700 + 20 * p))), some (.int (sumI (brO s p) (10 * f))), some (.ref (ad 602)), some (.int (nI (nfO s))), some (.int (nI f)), some (.ref (ad (610 + f))), some (.ref (ad (610 + f))), some (.int (nI 10)), some (.int 0), w11]) (C.wl _ _) dX5_strike_125 (Nat.le_of_ble_eq_true rfl) rfl rfl ?_
          have loopK : ∀ (n k : Nat) (m2 : MG) (w11 : Option Value), 10 - k < n → k ≤ 10 → Bb (10 * nfO s) s m1 m2 (brX s p (10 * f + k) 0) → V P (rmz 1 40 0 0) (Z.wl ad m2) [some (.ref (ad 600)), some (.int (nI p)), some (.ref (ad (700 + 20 * p))), some (.int (sumI (brO s p) (10 * f + k))), some (.ref (ad 602)), some (.int (nI (nfO s))), some (.int (nI f)), some (.ref (ad (610 + f))), some (.ref (ad (610 + f))), some (.int (nI 10)), some (.int (nI k)), w11] 127 [] g 0 0 := by
            intro n2
            induction n2 with
            | zero => intro k m2 w11 hn; exact absurd hn (Nat.not_lt_zero _)
            | succ n2 ihK =>
              intro k m2 w11 hn2 hk hb
              refine v_iload (C.wl _ _) dX5_strike_127 rfl ?_
              refine v_iload (C.wl _ _) dX5_strike_129 rfl ?_
              refine v_icmp_ge (tgt := 192) (C.wl _ _) dX5_strike_131 (by decide) (fun h131 => ?_) (fun h131 => ?_)
              · have hkn131 : k = 10 := Nat.le_antisymm hk ((nI_leI (by omega) (by omega)).mp h131)
                subst hkn131
                refine v_iinc (lo' := [some (.ref (ad 600)), some (.int (nI p)), some (.ref (ad (700 + 20 * p))), some (.int (sumI (brO s p) (10 * f + 10))), some (.ref (ad 602)), some (.int (nI (nfO s))), some (.int ((nI f) + 1)), some (.ref (ad (610 + f))), some (.ref (ad (610 + f))), some (.int (nI 10)), some (.int (nI 10)), w11]) (C.wl _ _) dX5_strike_192 rfl rfl rfl rfl ?_
                refine v_goto (tgt := 101) (C.wl _ _) dX5_strike_195 (by decide) ?_
                refine v_lo (lo' := [some (.ref (ad 600)), some (.int (nI p)), some (.ref (ad (700 + 20 * p))), some (.int (sumI (brO s p) (10 * f + 10))), some (.ref (ad 602)), some (.int (nI (nfO s))), some (.int (nI (f + 1))), some (.ref (ad (610 + f))), some (.ref (ad (610 + f))), some (.int (nI 10)), some (.int (nI 10)), w11]) (by rw [nI_succ f]) ?_
                rw [show 10 * f + 10 = 10 * (f + 1) by omega] at hb ⊢
                exact ihF (f + 1) m2 _ _ _ _ _ (by omega) (by omega) hb
              · have hkn131 : k < 10 := Nat.lt_of_not_le fun q => h131 ((nI_leI (by omega) (by omega)).mpr q)
                refine v_aload (C.wl _ _) dX5_strike_134 rfl ?_
                refine v_iload (C.wl _ _) dX5_strike_136 rfl ?_
                refine l_aald (k := 610 + f) (n := 10) (a := k) (k2 := 620 + (10 * f + k)) C ⟨by omega, by omega⟩ (Or.inl ((hb.2.1 _ _ (by decide) (by decide)).trans ((congrFun (g1 _ (by omega)) _).trans ((hB0.2.1 _ _ (by decide)).trans (hR.2.1.2.2 _ hkn105).1.1)))) ((hb.2.1 _ _ (by decide) (by decide)).trans ((congrFun (g1 _ (by omega)) _).trans ((hB0.2.1 _ _ (by decide)).trans (hR.2.1.2.2 _ hkn105).1.2))) (by omega) (((congrFun (hb.1 _ (by omega)) _).trans ((congrFun (g1 _ (by omega)) _).trans ((congrFun (hB0.1 _ (by omega)) _).trans ((hR.2.1.2.2 _ hkn105).2 _ hkn131)))).trans (congrArg nI (Nat.add_assoc _ _ _))) ⟨by omega, by omega⟩ dX5_strike_138 ?_
                refine v_astore (lo' := [some (.ref (ad 600)), some (.int (nI p)), some (.ref (ad (700 + 20 * p))), some (.int (sumI (brO s p) (10 * f + k))), some (.ref (ad 602)), some (.int (nI (nfO s))), some (.int (nI f)), some (.ref (ad (610 + f))), some (.ref (ad (610 + f))), some (.int (nI 10)), some (.int (nI k)), some (.ref (ad (620 + (10 * f + k))))]) (C.wl _ _) dX5_strike_139 (Nat.le_of_ble_eq_true rfl) rfl rfl ?_
                have hx50 : 10 * f + k < 50 := by omega
                have hxn : 10 * f + k < 10 * nfO s := by omega
                obtain ⟨b, hbe, hbl, hbs⟩ := br_spec hB9 hx50 h4 (p := p)
                have loopW : ∀ (n i : Nat) (m2 : MG), b - i < n → i ≤ b → Bb (10 * nfO s) s m1 m2 (brX s p (10 * f + k) i) → V P (rmz 1 40 0 0) (Z.wl ad m2) [some (.ref (ad 600)), some (.int (nI p)), some (.ref (ad (700 + 20 * p))), some (.int (sumI (brO s p) (10 * f + k) + nI i)), some (.ref (ad 602)), some (.int (nI (nfO s))), some (.int (nI f)), some (.ref (ad (610 + f))), some (.ref (ad (610 + f))), some (.int (nI 10)), some (.int (nI k)), some (.ref (ad (620 + (10 * f + k))))] 141 [] g 0 0 := by
                  intro n3
                  induction n3 with
                  | zero => intro i m2 hn; exact absurd hn (Nat.not_lt_zero _)
                  | succ n3 ihW =>
                    intro i m2 hn3 hi hb
                    have ebx : brX s p (10 * f + k) i (10 * f + k) = nI i := by unfold brX; rw [if_neg (Nat.lt_irrefl _), if_pos rfl]
                    obtain ⟨q0, q2⟩ := hb.2.2 _ hxn
                    rw [ebx] at q0 q2
                    have q1 : m2 (620 + (10 * f + k)) 1 = skO s p (10 * f + k) := (hb.2.1 _ _ (by decide) (by decide)).trans (hv7 _ hxn)
                    refine v_aload (C.wl _ _) dX5_strike_141 rfl ?_
                    refine v_iconst (v := 2) (C.wl _ _) dX5_strike_143 (by decide) ?_
                    refine l_iald (k := 620 + (10 * f + k)) (n := 3) (a := 2) C ⟨by omega, by omega⟩ ((hb.2.1 _ _ (by decide) (by decide)).trans ((congrFun (g1 _ (by omega)) _).trans ((hB0.2.1 _ _ (by decide)).trans ((Nat.add_assoc 620 (10 * f) k) ▸ hR.2.2.1 _ _ hkn105 hkn131).1.1))) ((hb.2.1 _ _ (by decide) (by decide)).trans ((congrFun (g1 _ (by omega)) _).trans ((hB0.2.1 _ _ (by decide)).trans ((Nat.add_assoc 620 (10 * f) k) ▸ hR.2.2.1 _ _ hkn105 hkn131).1.2))) (by decide) dX5_strike_144 ?_
                    refine v_topi (y := s 8 (10 * f + k) - 400 * nI i) q2 ?_
                    refine v_sipush (v := 400) (C.wl _ _) dX5_strike_145 (by decide) ?_
                    refine v_icmp_lt (tgt := 186) (C.wl _ _) dX5_strike_148 (by decide) (fun h148 => ?_) (fun h148 => ?_)
                    · have hib : ¬ i < b := fun z => by have := (hbs i hi).mpr z; have h2 := this.1; rw [i_le] at h2; rw [i_lt] at h148; omega
                      have hie : i = b := by omega
                      subst hie
                      rw [brX_n hbe] at hb
                      refine v_lo (lo' := [some (.ref (ad 600)), some (.int (nI p)), some (.ref (ad (700 + 20 * p))), some (.int (sumI (brO s p) (10 * f + (k + 1)))), some (.ref (ad 602)), some (.int (nI (nfO s))), some (.int (nI f)), some (.ref (ad (610 + f))), some (.ref (ad (610 + f))), some (.int (nI 10)), some (.int (nI k)), some (.ref (ad (620 + (10 * f + k))))]) (by rw [show sumI (brO s p) (10 * f + (k + 1)) = sumI (brO s p) (10 * f + k) + brO s p (10 * f + k) from rfl, hbe]) ?_
                      refine v_iinc (lo' := [some (.ref (ad 600)), some (.int (nI p)), some (.ref (ad (700 + 20 * p))), some (.int (sumI (brO s p) (10 * f + (k + 1)))), some (.ref (ad 602)), some (.int (nI (nfO s))), some (.int (nI f)), some (.ref (ad (610 + f))), some (.ref (ad (610 + f))), some (.int (nI 10)), some (.int ((nI k) + 1)), some (.ref (ad (620 + (10 * f + k))))]) (C.wl _ _) dX5_strike_186 rfl rfl rfl rfl ?_
                      refine v_goto (tgt := 127) (C.wl _ _) dX5_strike_189 (by decide) ?_
                      refine v_lo (lo' := [some (.ref (ad 600)), some (.int (nI p)), some (.ref (ad (700 + 20 * p))), some (.int (sumI (brO s p) (10 * f + (k + 1)))), some (.ref (ad 602)), some (.int (nI (nfO s))), some (.int (nI f)), some (.ref (ad (610 + f))), some (.ref (ad (610 + f))), some (.int (nI 10)), some (.int (nI (k + 1))), some (.ref (ad (620 + (10 * f + k))))]) (by rw [nI_succ k]) ?_
                      exact ihK (k + 1) m2 _ (by omega) (by omega) hb
                    · refine v_aload (C.wl _ _) dX5_strike_151 rfl ?_
                      refine v_iconst (v := 0) (C.wl _ _) dX5_strike_153 (by decide) ?_
                      refine l_iald (k := 620 + (10 * f + k)) (n := 3) (a := 0) C ⟨by omega, by omega⟩ ((hb.2.1 _ _ (by decide) (by decide)).trans ((congrFun (g1 _ (by omega)) _).trans ((hB0.2.1 _ _ (by decide)).trans ((Nat.add_assoc 620 (10 * f) k) ▸ hR.2.2.1 _ _ hkn105 hkn131).1.1))) ((hb.2.1 _ _ (by decide) (by decide)).trans ((congrFun (g1 _ (by omega)) _).trans ((hB0.2.1 _ _ (by decide)).trans ((Nat.add_assoc 620 (10 * f) k) ▸ hR.2.2.1 _ _ hkn105 hkn131).1.2))) (by decide) dX5_strike_154 ?_
                      refine v_topi (y := s 6 (10 * f + k) - nI i) q0 ?_
                      refine v_aload (C.wl _ _) dX5_strike_155 rfl ?_
                      refine v_iconst (v := 1) (C.wl _ _) dX5_strike_157 (by decide) ?_
                      refine l_iald (k := 620 + (10 * f + k)) (n := 3) (a := 1) C ⟨by omega, by omega⟩ ((hb.2.1 _ _ (by decide) (by decide)).trans ((congrFun (g1 _ (by omega)) _).trans ((hB0.2.1 _ _ (by decide)).trans ((Nat.add_assoc 620 (10 * f) k) ▸ hR.2.2.1 _ _ hkn105 hkn131).1.1))) ((hb.2.1 _ _ (by decide) (by decide)).trans ((congrFun (g1 _ (by omega)) _).trans ((hB0.2.1 _ _ (by decide)).trans ((Nat.add_assoc 620 (10 * f) k) ▸ hR.2.2.1 _ _ hkn105 hkn131).1.2))) (by decide) dX5_strike_158 ?_
                      refine v_topi (y := skO s p (10 * f + k)) q1 ?_
                      refine v_icmp_le (tgt := 186) (C.wl _ _) dX5_strike_159 (by decide) (fun h159 => ?_) (fun h159 => ?_)
                      · have hib : ¬ i < b := fun z => by have := (hbs i hi).mpr z; have h2 := this.2; rw [i_lt] at h2; rw [i_le] at h159; omega
                        have hie : i = b := by omega
                        subst hie
                        rw [brX_n hbe] at hb
                        refine v_lo (lo' := [some (.ref (ad 600)), some (.int (nI p)), some (.ref (ad (700 + 20 * p))), some (.int (sumI (brO s p) (10 * f + (k + 1)))), some (.ref (ad 602)), some (.int (nI (nfO s))), some (.int (nI f)), some (.ref (ad (610 + f))), some (.ref (ad (610 + f))), some (.int (nI 10)), some (.int (nI k)), some (.ref (ad (620 + (10 * f + k))))]) (by rw [show sumI (brO s p) (10 * f + (k + 1)) = sumI (brO s p) (10 * f + k) + brO s p (10 * f + k) from rfl, hbe]) ?_
                        refine v_iinc (lo' := [some (.ref (ad 600)), some (.int (nI p)), some (.ref (ad (700 + 20 * p))), some (.int (sumI (brO s p) (10 * f + (k + 1)))), some (.ref (ad 602)), some (.int (nI (nfO s))), some (.int (nI f)), some (.ref (ad (610 + f))), some (.ref (ad (610 + f))), some (.int (nI 10)), some (.int ((nI k) + 1)), some (.ref (ad (620 + (10 * f + k))))]) (C.wl _ _) dX5_strike_186 rfl rfl rfl rfl ?_
                        refine v_goto (tgt := 127) (C.wl _ _) dX5_strike_189 (by decide) ?_
                        refine v_lo (lo' := [some (.ref (ad 600)), some (.int (nI p)), some (.ref (ad (700 + 20 * p))), some (.int (sumI (brO s p) (10 * f + (k + 1)))), some (.ref (ad 602)), some (.int (nI (nfO s))), some (.int (nI f)), some (.ref (ad (610 + f))), some (.ref (ad (610 + f))), some (.int (nI 10)), some (.int (nI (k + 1))), some (.ref (ad (620 + (10 * f + k))))]) (by rw [nI_succ k]) ?_
                        exact ihK (k + 1) m2 _ (by omega) (by omega) hb
                      · refine v_aload (C.wl _ _) dX5_strike_162 rfl ?_
                        refine v_iconst (v := 0) (C.wl _ _) dX5_strike_164 (by decide) ?_
                        refine v_dup2 (C.wl _ _) dX5_strike_165 rfl rfl ?_
                        refine l_iald (k := 620 + (10 * f + k)) (n := 3) (a := 0) C ⟨by omega, by omega⟩ ((hb.2.1 _ _ (by decide) (by decide)).trans ((congrFun (g1 _ (by omega)) _).trans ((hB0.2.1 _ _ (by decide)).trans ((Nat.add_assoc 620 (10 * f) k) ▸ hR.2.2.1 _ _ hkn105 hkn131).1.1))) ((hb.2.1 _ _ (by decide) (by decide)).trans ((congrFun (g1 _ (by omega)) _).trans ((hB0.2.1 _ _ (by decide)).trans ((Nat.add_assoc 620 (10 * f) k) ▸ hR.2.2.1 _ _ hkn105 hkn131).1.2))) (by decide) dX5_strike_166 ?_
                        refine v_iconst (v := 1) (C.wl _ _) dX5_strike_167 (by decide) ?_
                        refine v_isub (C.wl _ _) dX5_strike_168 ?_
                        refine l_iast (k := 620 + (10 * f + k)) (n := 3) (a := 0) C ⟨by omega, by omega⟩ ((hb.2.1 _ _ (by decide) (by decide)).trans ((congrFun (g1 _ (by omega)) _).trans ((hB0.2.1 _ _ (by decide)).trans ((Nat.add_assoc 620 (10 * f) k) ▸ hR.2.2.1 _ _ hkn105 hkn131).1.1))) ((hb.2.1 _ _ (by decide) (by decide)).trans ((congrFun (g1 _ (by omega)) _).trans ((hB0.2.1 _ _ (by decide)).trans ((Nat.add_assoc 620 (10 * f) k) ▸ hR.2.2.1 _ _ hkn105 hkn131).1.2))) (by decide) dX5_strike_169 ?_
                        refine v_aload (C.wl _ _) dX5_strike_170 rfl ?_
                        refine v_iconst (v := 2) (C.wl _ _) dX5_strike_172 (by decide) ?_
                        refine v_dup2 (C.wl _ _) dX5_strike_173 rfl rfl ?_
                        refine l_iald (k := 620 + (10 * f + k)) (n := 3) (a := 2) C ⟨by omega, by omega⟩ ((wr_ne _ _ _ _ (by omega)).trans ((hb.2.1 _ _ (by decide) (by decide)).trans ((congrFun (g1 _ (by omega)) _).trans ((hB0.2.1 _ _ (by decide)).trans ((Nat.add_assoc 620 (10 * f) k) ▸ hR.2.2.1 _ _ hkn105 hkn131).1.1)))) ((wr_ne _ _ _ _ (by omega)).trans ((hb.2.1 _ _ (by decide) (by decide)).trans ((congrFun (g1 _ (by omega)) _).trans ((hB0.2.1 _ _ (by decide)).trans ((Nat.add_assoc 620 (10 * f) k) ▸ hR.2.2.1 _ _ hkn105 hkn131).1.2)))) (by decide) dX5_strike_174 ?_
                        refine v_sipush (v := 400) (C.wl _ _) dX5_strike_175 (by decide) ?_
                        refine v_isub (C.wl _ _) dX5_strike_178 ?_
                        refine l_iast (k := 620 + (10 * f + k)) (n := 3) (a := 2) C ⟨by omega, by omega⟩ ((wr_ne _ _ _ _ (by omega)).trans ((hb.2.1 _ _ (by decide) (by decide)).trans ((congrFun (g1 _ (by omega)) _).trans ((hB0.2.1 _ _ (by decide)).trans ((Nat.add_assoc 620 (10 * f) k) ▸ hR.2.2.1 _ _ hkn105 hkn131).1.1)))) ((wr_ne _ _ _ _ (by omega)).trans ((hb.2.1 _ _ (by decide) (by decide)).trans ((congrFun (g1 _ (by omega)) _).trans ((hB0.2.1 _ _ (by decide)).trans ((Nat.add_assoc 620 (10 * f) k) ▸ hR.2.2.1 _ _ hkn105 hkn131).1.2)))) (by decide) dX5_strike_179 ?_
                        refine v_iinc (lo' := [some (.ref (ad 600)), some (.int (nI p)), some (.ref (ad (700 + 20 * p))), some (.int ((sumI (brO s p) (10 * f + k) + nI i) + 1)), some (.ref (ad 602)), some (.int (nI (nfO s))), some (.int (nI f)), some (.ref (ad (610 + f))), some (.ref (ad (610 + f))), some (.int (nI 10)), some (.int (nI k)), some (.ref (ad (620 + (10 * f + k))))]) (C.wl _ _) dX5_strike_180 rfl rfl rfl rfl ?_
                        refine v_goto (tgt := 141) (C.wl _ _) dX5_strike_183 (by decide) ?_
                        have hlt : i < b := (hbs i hi).mp ⟨by rw [i_lt] at h148; rw [i_le]; omega, by rw [i_le] at h159; rw [i_lt]; omega⟩
                        refine v_lo (lo' := [some (.ref (ad 600)), some (.int (nI p)), some (.ref (ad (700 + 20 * p))), some (.int (sumI (brO s p) (10 * f + k) + nI (i + 1))), some (.ref (ad 602)), some (.int (nI (nfO s))), some (.int (nI f)), some (.ref (ad (610 + f))), some (.ref (ad (610 + f))), some (.int (nI 10)), some (.int (nI k)), some (.ref (ad (620 + (10 * f + k))))]) (by rw [nI_succ i, Int32.add_assoc]) ?_
                        refine ihW (i + 1) _ (by omega) (by omega) ?_
                        rw [← brX_s]
                        have hw := hb.w _ hxn (by omega)
                        rw [show wr m2 (620 + (10 * f + k)) 0 (m2 (620 + (10 * f + k)) 0 - 1) (620 + (10 * f + k)) 2 = m2 (620 + (10 * f + k)) 2 from wr_ne _ _ _ _ (Or.inr (by decide))]
                        exact hw
                refine v_lo (lo' := [some (.ref (ad 600)), some (.int (nI p)), some (.ref (ad (700 + 20 * p))), some (.int (sumI (brO s p) (10 * f + k) + nI 0)), some (.ref (ad 602)), some (.int (nI (nfO s))), some (.int (nI f)), some (.ref (ad (610 + f))), some (.ref (ad (610 + f))), some (.int (nI 10)), some (.int (nI k)), some (.ref (ad (620 + (10 * f + k))))]) (by rw [show nI 0 = (0 : Int32) from rfl, Int32.add_zero]) ?_
                exact loopW _ 0 m2 (Nat.lt_succ_self _) (Nat.zero_le _) hb
          exact loopK _ 0 m2 _ (Nat.lt_succ_self _) (Nat.zero_le _) hb
    exact loopF _ 0 m1 _ _ _ _ _ (Nat.lt_succ_self _) (Nat.zero_le _) hb0
  have blk7 : ∀ x, x < 10 * nfO s → m (620 + x) 1 = s 7 x := fun x hx => by
    have h := (hR.2.2.1 (x / 10) (x % 10) (by omega) (Nat.mod_lt _ (by decide))).2.2.1
    rwa [show 620 + 10 * (x / 10) + x % 10 = 620 + x by omega, show 10 * (x / 10) + x % 10 = x by omega] at h
  refine v_aload_n (C.wl _ _) dX5_strike_0 rfl rfl ?_
  refine l_get (k := 600) C inG5 (ci := 6) rfl 6 (by decide) (tg5 13 rfl rfl) rfl ⟨by decide, by decide⟩ (cW_6 hR.1.1) (sm_r (by decide) hR.1.2.2.2.2.2.2.2 ⟨by decide, by decide⟩) dX5_strike_1 ?_
  refine v_iload_n (C.wl _ _) dX5_strike_4 rfl rfl ?_
  refine l_aald (k := 605) (n := npO s) (a := p) (k2 := 700 + 20 * p) C ⟨by decide, by decide⟩ (Or.inr (Or.inr hR.2.2.2.2.2.1.1.1)) hR.2.2.2.2.2.1.1.2 ⟨hp, by omega⟩ (hR.2.2.2.2.2.1.2 _ hp) ⟨by omega, by omega⟩ dX5_strike_5 ?_
  refine v_astore_n (lo' := [some (.ref (ad 600)), some (.int (nI p)), some (.ref (ad (700 + 20 * p))), none, none, none, none, none, none, none, none, none]) (C.wl _ _) dX5_strike_6 rfl (Nat.le_of_ble_eq_true rfl) rfl rfl ?_
  refine v_iconst (v := 0) (C.wl _ _) dX5_strike_7 (by decide) ?_
  refine v_istore_n (lo' := [some (.ref (ad 600)), some (.int (nI p)), some (.ref (ad (700 + 20 * p))), some (.int 0), none, none, none, none, none, none, none, none]) (C.wl _ _) dX5_strike_8 rfl (Nat.le_of_ble_eq_true rfl) rfl rfl ?_
  exact loop hend _ 0 m _ _ _ _ (Nat.lt_succ_self _) (Nat.zero_le _) (Bk.rf fun x hx => blk7 x hx)
