/-! THE LAW'S METHODS: set of its shop -/
set_option maxRecDepth 100000 in
theorem l_set (l : Launch) (Z : Zc) (ad : Nat → Nat) (s m g : MG) (p : Nat) (hF : Fr m 900) (hI : IvM s) (hR : SimR s m) (hp : p < npO s) : LMi l yX5_set cX5_set 8 (some .int) (rmz 4 160 60 600) Z [.ref (ad 600), .int (nI p)] ad m g (fun r ad' m' g' => r = wdF (plO s p) ∧ (∀ k, k ≤ 600 → ad' k = ad k) ∧ SimR (stSet s (nI p)) m' ∧ Fr m' 900 ∧ g' = g) := by
  have hp6 := (IvM_np hI).1
  have hf5 := (IvM_nf hI).1
  have h4 := (IvM_nl hI (show p < 6 by omega)).2
  obtain ⟨hPF, hPL, hPX⟩ := hR.L hp
  have hset : stSet s (nI p) = match plO s p with | none => s | some a => setG s p a := by unfold stSet; rw [if_neg (by rw [isN_t.mpr (by rw [nI_toInt (by omega)]; omega)]; decide), iz_nI (by omega)]; cases plO s p <;> rfl
  refine ent_li (own := RX5) (lo := [some (.ref (ad 600)), some (.int (nI p)), none, none, none, none, none, none]) (by decide) rfl (by simp [lg_sl, Value.category]) rfl (fun P hl C hW9 ret => ?_)
  refine v_aload_n (C.wl _ _) dX5_set_0 rfl rfl ?_
  refine v_iload_n (C.wl _ _) dX5_set_1 rfl rfl ?_
  refine l_callVq (n := 1) (as := [.int (nI p)]) C hW9 (l_tried _ Z ad s m g 900 p hF (by decide) (by decide) hI hR hp) (gv (tg2 159 rfl rfl) (tg2 160 rfl rfl) (tg2 161 rfl rfl) (tg1 6 rfl rfl) (tg2 162 rfl rfl)) (by decide +kernel) ⟨Nat.le_of_ble_eq_true rfl, Nat.le_of_ble_eq_true rfl⟩ rfl ⟨by decide, by decide⟩ (cW_6 hR.1.1) rfl rfl (Nat.le_of_ble_eq_true rfl) dX5_set_2 ⟨Nat.le_of_ble_eq_true rfl, Nat.le_of_ble_eq_true rfl⟩ (fun v2 ad2 m2 g2 hp2 => ?_)
  obtain ⟨hq, hA2, hg2⟩ := hp2
  rw [hg2]
  refine v_lo (lo' := [some (.ref (ad2 600)), some (.int (nI p)), none, none, none, none, none, none]) (by rw [hA2 600 (by decide)]) ?_
  cases hpl : plO s p with
  | none =>
    rw [hpl] at hq hset
    obtain ⟨rfl, rfl⟩ := hq
    refine v_astore_nN (lo' := [some (.ref (ad2 600)), some (.int (nI p)), some .null, none, none, none, none, none]) (C.wl _ _) dX5_set_5 rfl (Nat.le_of_ble_eq_true rfl) rfl rfl ?_
    refine v_aload_nN (C.wl _ _) dX5_set_6 rfl rfl ?_
    refine v_ifnonnullN (C.wl _ _) dX5_set_7 ?_
    refine v_iconst (C.wl _ _) dX5_set_10 rfl ?_
    exact ret _ _ _ _ _ _ dX5_set_11 ⟨by rw [hpl]; rfl, fun k hk => hA2 k (by omega), by rw [hset]; exact hR, hF, rfl⟩
  | some a =>
    rw [hpl] at hq hset
    obtain ⟨rfl, hO, hlen, ky, pt, hTL, hFr, hpt⟩ := hq
    obtain ⟨fo, tk, hfo9, hln, hmo, hfl, hV⟩ := set_ln hI hp hlen hpl hTL (by omega)
    refine v_st (st' := [.ref (ad2 900)]) rfl ?_
    refine v_astore_n (lo' := [some (.ref (ad2 600)), some (.int (nI p)), some (.ref (ad2 900)), none, none, none, none, none]) (C.wl _ _) dX5_set_5 rfl (Nat.le_of_ble_eq_true rfl) rfl rfl ?_
    refine v_aload_n (C.wl _ _) dX5_set_6 rfl rfl ?_
    refine v_ifnonnull (tgt := 12) (C.wl _ _) dX5_set_7 (by decide) ?_
    refine v_aload_n (C.wl _ _) dX5_set_12 rfl rfl ?_
    refine l_get (k := 600) C inG5 (ci := 6) rfl 6 (by decide) (tg5 13 rfl rfl) rfl ⟨by decide, by decide⟩ (cW_6 ((congrFun (hO.1 _ (by omega) (by omega)) _).trans hR.1.1)) (sm_r (by decide) ((congrFun (hO.1 _ (by omega) (by omega)) _).trans hR.1.2.2.2.2.2.2.2) ⟨by decide, by decide⟩) dX5_set_13 ?_
    refine v_iload_n (C.wl _ _) dX5_set_16 rfl rfl ?_
    refine v_aload_n (C.wl _ _) dX5_set_17 rfl rfl ?_
    refine l_aastP (k := 605) (n := npO s) (a := p) (k2 := 900) C ⟨by decide, by decide⟩ ((congrFun (hO.1 _ (by omega) (by omega)) _).trans hR.2.2.2.2.2.1.1.1) ((congrFun (hO.1 _ (by omega) (by omega)) _).trans hR.2.2.2.2.2.1.1.2) ⟨hp, by omega⟩ ⟨by decide, by decide⟩ hO.2.1.1 dX5_set_18 ?_
    generalize hm3 : wr m2 605 p (nI 900) = m3
    have z1 : ∀ k j, (k ≠ 605 ∨ j ≠ p) → m3 k j = m2 k j := fun k j h => by rw [← hm3, wr_ne _ _ _ _ h]
    have z5 : m3 605 p = nI 900 := by rw [← hm3, wr_same]
    have hb7 : Bk (10 * nfO s) m3 m3 1 (addP 1 fo tk (wdO s) p (s 7) 0) := Bk.rf fun x hx => by
      have h := (hR.2.2.1 (x / 10) (x % 10) (by omega) (Nat.mod_lt _ (by decide))).2.2.1
      rw [show 620 + 10 * (x / 10) + x % 10 = 620 + x by omega, show 10 * (x / 10) + x % 10 = x by omega] at h
      rw [z1 _ _ (Or.inl (by omega)), hO.1 _ (by omega) (by omega), h]; rfl
    refine v_iconst (v := 0) (C.wl _ _) dX5_set_19 (by decide) ?_
    refine v_istore_n (lo' := [some (.ref (ad2 600)), some (.int (nI p)), some (.ref (ad2 900)), some (.int 0), none, none, none, none]) (C.wl _ _) dX5_set_20 rfl (Nat.le_of_ble_eq_true rfl) rfl rfl ?_
    have loop : ∀ (n i : Nat) (m1 : MG) (v4 v5 v6 v7 : Option Value), nlO s p - i < n → i ≤ nlO s p → Bk (10 * nfO s) m3 m1 1 (addP 1 fo tk (wdO s) p (s 7) i) → V P (rmz 4 160 60 600) (Z.wl ad2 m1) [some (.ref (ad2 600)), some (.int (nI p)), some (.ref (ad2 900)), some (.int (nI i)), v4, v5, v6, v7] 21 [] g 60 600 := by
      intro n
      induction n with
      | zero => intro i m1 v4 v5 v6 v7 hn; exact absurd hn (Nat.not_lt_zero _)
      | succ n ih =>
        intro i m1 v4 v5 v6 v7 hn hi hB
        have z2 : ∀ k, 900 + nfO s + 5 ≤ k → m1 k = m2 k := fun k hk => by rw [hB.1 k (by omega)]; funext j; exact z1 k j (Or.inl (by omega))
        refine v_iload_n (C.wl _ _) dX5_set_21 rfl rfl ?_
        refine v_aload_n (C.wl _ _) dX5_set_22 rfl rfl ?_
        refine l_get (k := 900) C inG4 (ci := 5) rfl 2 (by decide) (tg2 183 rfl rfl) rfl ⟨by decide, by decide⟩ (cW_5 ((hB.2.1 _ _ (by decide)).trans ((z1 _ _ (by omega)).trans hO.2.1.1))) (ps_r (by decide) ((congrFun (hB.1 _ (by omega)) _).trans ((z1 _ _ (by omega)).trans hO.2.1.2.2.2.1)) ⟨by omega, by omega⟩) dX5_set_23 ?_
        refine l_len (k := 701 + 20 * p) (n := nlO s p) C ⟨by omega, by omega⟩ (Or.inr (Or.inl ((hB.2.1 _ _ (by decide)).trans ((z1 _ _ (by omega)).trans ((congrFun (hO.1 _ (by omega) (by omega)) _).trans hPL.1.1))))) ((hB.2.1 _ _ (by decide)).trans ((z1 _ _ (by omega)).trans ((congrFun (hO.1 _ (by omega) (by omega)) _).trans hPL.1.2))) (by omega) dX5_set_26 ?_
        refine v_icmp_ge (tgt := 92) (C.wl _ _) dX5_set_27 (by decide) (fun h27 => ?_) (fun h27 => ?_)
        · have hkn27 : i = nlO s p := Nat.le_antisymm hi ((nI_leI (by omega) (by omega)).mp h27)
          subst hkn27
          refine v_aload_n (C.wl _ _) dX5_set_92 rfl rfl ?_
          refine v_callVi (n := 0) (as := []) (C.wl _ _) (l_pwrong _ Z ad2 m1 900 (900 + nfO s + 3) (nlO s p) (by decide) ((hB.2.1 _ _ (by decide)).trans ((z1 _ _ (by omega)).trans hO.2.1.1)) ((congrFun (hB.1 _ (by omega)) _).trans ((z1 _ _ (by omega)).trans hO.2.1.2.2.2.2.2.2.2.1)) (by omega) ⟨((hB.2.1 _ _ (by decide)).trans ((z1 _ _ (by omega)).trans hO.2.2.2.1.1)), ((hB.2.1 _ _ (by decide)).trans ((z1 _ _ (by omega)).trans hO.2.2.2.1.2))⟩ h4 g) (gv (tg2 228 rfl rfl) (tg2 229 rfl rfl) (tg2 230 rfl rfl) (tg1 19 rfl rfl) (tg2 231 rfl rfl)) (by decide +kernel) ⟨Nat.le_of_ble_eq_true rfl, Nat.le_of_ble_eq_true rfl⟩ rfl (l_cx ⟨by decide, by decide⟩ (cW_5 ((hB.2.1 _ _ (by decide)).trans ((z1 _ _ (by omega)).trans hO.2.1.1)))) rfl rfl (Nat.le_of_ble_eq_true rfl) dX5_set_93 ⟨Nat.le_of_ble_eq_true rfl, Nat.le_of_ble_eq_true rfl⟩ (fun r93 g93 hp93 => ?_)
          obtain ⟨hr, hg93⟩ := hp93
          rw [hg93]
          have e9 : r93 = wdF (some a) := by
            have h3 : m1 900 3 = 1 := (congrFun (hB.1 _ (by omega)) _).trans ((z1 _ _ (by omega)).trans hO.2.1.2.2.2.2.1)
            rw [hr, h3, if_neg (by decide)]
            show _ = flS a.1
            have q1 : sumI (m1 (900 + nfO s + 3)) (nlO s p) = sumI (fun k => lfl a.1 k) (nlO s p) := sumI_cong _ (fun q hq => by rw [hB.1 _ (by omega), z1 _ _ (by omega)]; exact hfl q hq)
            rw [q1, flS_sum a.1 _ (by omega), ← hlen, List.take_length]
          subst e9
          have w0 : ∀ k, 600 ≤ k → k < 900 → k ≠ 605 → ¬ (620 ≤ k ∧ k < 670) → m1 k = m k := fun k k1 k2 k5 k6 => by rw [hB.1 k (by omega)]; funext j; rw [z1 k j (Or.inl k5)]; exact congrFun (hO.1 k k1 k2) j
          have w9 : ∀ k, 900 ≤ k → m1 k = m2 k := fun k hk => by rw [hB.1 k (by omega)]; funext j; exact z1 k j (Or.inl (by omega))
          have hCn : Cn (setG s p a) m1 (sgS s p ky) := by
            refine Cn_set (pt := pt) hI hR hp hlen w0 ⟨(congrFun (hB.1 605 (by decide)) p).trans z5, fun j hj => ?_⟩ (fun x hx => ⟨fun j hj => ?_, ?_⟩) ?_ ?_ ?_ ?_ ?_
            · rw [hB.1 605 (by decide), z1 _ _ (Or.inr hj), hO.1 605 (by decide) (by decide)]
            · rw [hB.2.1 _ j hj, z1 _ _ (Or.inl (by omega)), hO.1 _ (by omega) (by omega)]
            · rw [hB.2.2 x hx, hV x, plO_mo hpl x (by omega)]
            · rw [w9 900 (by decide)]; exact hO.2.1
            · unfold isA; rw [w9 _ (by omega)]; exact hO.2.2.1
            · unfold isA; rw [w9 _ (by omega)]; exact hO.2.2.2.1
            · unfold isQ; rw [w9 _ (by omega)]; exact hO.2.2.2.2.1
            · exact hTL.c rfl (Nat.le_refl _) (fun _ _ => by rw [w9 _ (by omega)]) (fun _ _ => by rw [w9 _ (by omega)]) (fun _ _ => by rw [w9 _ (by omega)]) (fun k k1 _ => w9 k (by omega))
          have r : ∀ z, z ≠ 18 ∧ z ≠ 19 ∧ z ≠ 20 ∧ z ≠ 7 ∧ z ≠ 15 → setG s p a z = s z := fun z hz => setG_r hz
          have g5 : nfO (setG s p a) ≤ 5 := by unfold nfO at hf5 ⊢; rw [r 0 (by decide)]; exact hf5
          have g6 : npO (setG s p a) ≤ 6 := by unfold npO at hp6 ⊢; rw [r 0 (by decide)]; exact hp6
          have g4 : ∀ q, q < npO (setG s p a) → nlO (setG s p a) q ≤ 4 := fun q hq => by have := (IvM_nl hI (show q < 6 by omega)).2; unfold nlO at this ⊢; rw [r 14 (by decide)]; exact this
          have hky : ∀ i, i < nlO s p → 900 + nfO s + 5 ≤ ky i ∧ ky i < 1200 := fun i hi => (hln i hi).2.2.2.2.1
          refine l_canon (s := setG s p a) (σ := sgS s p ky) hCn g5 g6 g4 (fun k k1 k2 => sgS_r hf5 hky k k1 k2) (fun x y x1 x2 y1 y2 _ _ h => sgS_inj hf5 hky hmo x y x2 y2 h) ?_
          refine v_wide (k := 60) (n := 600) (Nat.le_of_ble_eq_true rfl) (Nat.le_of_ble_eq_true rfl) ?_
          refine ret _ _ _ _ _ _ dX5_set_96 ⟨by rw [hpl], fun k hk => ?_, by rw [hset]; exact Cn_Sim hCn g5 g6 g4, Cn_Fr hCn g5 g6 g4 (fun k k1 k2 => sgS_r hf5 hky k k1 k2), rfl⟩
          show (if k < 600 then ad2 k else ad2 (sgS s p ky k)) = ad k
          by_cases hk6 : k < 600
          · rw [if_pos hk6]; exact hA2 k (by omega)
          · rw [if_neg hk6, sgS_id (by omega) (by omega) (by omega) (by omega) (by omega)]; exact hA2 k (by omega)
        · have hkn27 : i < nlO s p := Nat.lt_of_not_le fun q => h27 ((nI_leI (by omega) (by omega)).mpr q)
          refine v_aload_n (C.wl _ _) dX5_set_30 rfl rfl ?_
          refine l_get (k := 900) C inG4 (ci := 5) rfl 7 (by decide) (tg2 194 rfl rfl) rfl ⟨by decide, by decide⟩ (cW_5 ((hB.2.1 _ _ (by decide)).trans ((z1 _ _ (by omega)).trans hO.2.1.1))) (ps_r (by decide) ((congrFun (hB.1 _ (by omega)) _).trans ((z1 _ _ (by omega)).trans hO.2.1.2.2.2.2.2.2.2.2)) ⟨by omega, by omega⟩) dX5_set_31 ?_
          refine v_iload_n (C.wl _ _) dX5_set_34 rfl rfl ?_
          refine l_aald (k := 900 + nfO s + 4) (n := nlO s p) (a := i) (k2 := ky i) C ⟨by omega, by omega⟩ (Or.inl ((hB.2.1 _ _ (by decide)).trans ((z1 _ _ (by omega)).trans hO.2.2.2.2.1.1))) ((hB.2.1 _ _ (by decide)).trans ((z1 _ _ (by omega)).trans hO.2.2.2.2.1.2)) (by omega) ((congrFun (hB.1 _ (by omega)) _).trans ((z1 _ _ (by omega)).trans (hln _ hkn27).2.2.1)) (hln _ hkn27).2.2.2.1 dX5_set_35 ?_
          refine v_astore (lo' := [some (.ref (ad2 600)), some (.int (nI p)), some (.ref (ad2 900)), some (.int (nI i)), some (.ref (ad2 (ky i))), v5, v6, v7]) (C.wl _ _) dX5_set_36 (Nat.le_of_ble_eq_true rfl) rfl rfl ?_
          refine v_aload (C.wl _ _) dX5_set_38 rfl ?_
          refine l_len (k := ky i) (n := szw (wdO s (4 * p + i))) C (hln _ hkn27).2.2.2.1 (Or.inl ((congrFun (z2 _ (hln _ hkn27).2.2.2.2.1.1) _).trans (hln _ hkn27).2.2.2.2.2.1.1)) ((congrFun (z2 _ (hln _ hkn27).2.2.2.2.1.1) _).trans (hln _ hkn27).2.2.2.2.2.1.2) (by have := @szw_le (wdO s (4 * p + i)); omega) dX5_set_40 ?_
          refine v_istore (lo' := [some (.ref (ad2 600)), some (.int (nI p)), some (.ref (ad2 900)), some (.int (nI i)), some (.ref (ad2 (ky i))), some (.int (nI (szw (wdO s (4 * p + i))))), v6, v7]) (C.wl _ _) dX5_set_41 (Nat.le_of_ble_eq_true rfl) rfl rfl ?_
          refine v_iconst (v := 0) (C.wl _ _) dX5_set_43 (by decide) ?_
          refine v_istore (lo' := [some (.ref (ad2 600)), some (.int (nI p)), some (.ref (ad2 900)), some (.int (nI i)), some (.ref (ad2 (ky i))), some (.int (nI (szw (wdO s (4 * p + i))))), some (.int 0), v7]) (C.wl _ _) dX5_set_44 (Nat.le_of_ble_eq_true rfl) rfl rfl ?_
          obtain ⟨hfi, hfl9, -, hkr, -, hLt⟩ := hln i hkn27
          have hsz := @szw_le (wdO s (4 * p + i))
          have inn : ∀ (n2 j : Nat) (m2' : MG) (v7 : Option Value), szw (wdO s (4 * p + i)) - j < n2 → j ≤ szw (wdO s (4 * p + i)) → Bk (10 * nfO s) m3 m2' 1 (addL 1 (fo i) (szw (wdO s (4 * p + i))) (tk (4 * p + i)) (addP 1 fo tk (wdO s) p (s 7) i) j) → V P (rmz 4 160 60 600) (Z.wl ad2 m2') [some (.ref (ad2 600)), some (.int (nI p)), some (.ref (ad2 900)), some (.int (nI i)), some (.ref (ad2 (ky i))), some (.int (nI (szw (wdO s (4 * p + i))))), some (.int (nI j)), v7] 46 [] g 60 600 := by
            intro n2
            induction n2 with
            | zero => intro j m2' v7 hn; exact absurd hn (Nat.not_lt_zero _)
            | succ n2 ih2 =>
              intro j m2' v7 hn2 hj hB
              have z2 : ∀ k, 900 + nfO s + 5 ≤ k → m2' k = m2 k := fun k hk => by rw [hB.1 k (by omega)]; funext j; exact z1 k j (Or.inl (by omega))
              refine v_iload (C.wl _ _) dX5_set_46 rfl ?_
              refine v_iload (C.wl _ _) dX5_set_48 rfl ?_
              refine v_icmp_ge (tgt := 86) (C.wl _ _) dX5_set_50 (by decide) (fun h50 => ?_) (fun h50 => ?_)
              · have hkn50 : j = szw (wdO s (4 * p + i)) := Nat.le_antisymm hj ((nI_leI (by omega) (by omega)).mp h50)
                rw [hkn50] at hB
                rw [hkn50]
                refine v_iinc (lo' := [some (.ref (ad2 600)), some (.int (nI p)), some (.ref (ad2 900)), some (.int ((nI i) + 1)), some (.ref (ad2 (ky i))), some (.int (nI (szw (wdO s (4 * p + i))))), some (.int (nI (szw (wdO s (4 * p + i))))), v7]) (C.wl _ _) dX5_set_86 rfl rfl rfl rfl ?_
                refine v_goto (tgt := 21) (C.wl _ _) dX5_set_89 (by decide) ?_
                refine v_lo (lo' := [some (.ref (ad2 600)), some (.int (nI p)), some (.ref (ad2 900)), some (.int (nI (i + 1))), some (.ref (ad2 (ky i))), some (.int (nI (szw (wdO s (4 * p + i))))), some (.int (nI (szw (wdO s (4 * p + i))))), v7]) (by rw [nI_succ]) ?_
                exact ih (i + 1) m2' _ _ _ _ (by omega) (by omega) hB
              · have hkn50 : j < szw (wdO s (4 * p + i)) := Nat.lt_of_not_le fun q => h50 ((nI_leI (by omega) (by omega)).mpr q)
                refine v_aload (C.wl _ _) dX5_set_53 rfl ?_
                refine v_iload (C.wl _ _) dX5_set_55 rfl ?_
                refine l_iald (k := ky i) (n := szw (wdO s (4 * p + i))) (a := j) C (hln _ hkn27).2.2.2.1 ((congrFun (z2 _ (hln _ hkn27).2.2.2.2.1.1) _).trans (hln _ hkn27).2.2.2.2.2.1.1) ((congrFun (z2 _ (hln _ hkn27).2.2.2.2.1.1) _).trans (hln _ hkn27).2.2.2.2.2.1.2) (by omega) dX5_set_57 ?_
                refine v_topi (y := nI (tk (4 * p + i) / 10 ^ (szw (wdO s (4 * p + i)) - 1 - j) % 10)) ((congrFun (z2 _ (hln i hkn27).2.2.2.2.1.1) _).trans (hLt.2 _ hkn50)) ?_
                refine v_istore (lo' := [some (.ref (ad2 600)), some (.int (nI p)), some (.ref (ad2 900)), some (.int (nI i)), some (.ref (ad2 (ky i))), some (.int (nI (szw (wdO s (4 * p + i))))), some (.int (nI j)), some (.int (nI (tk (4 * p + i) / 10 ^ (szw (wdO s (4 * p + i)) - 1 - j) % 10)))]) (C.wl _ _) dX5_set_58 (Nat.le_of_ble_eq_true rfl) rfl rfl ?_
                refine v_aload_n (C.wl _ _) dX5_set_60 rfl rfl ?_
                refine l_get (k := 600) C inG5 (ci := 6) rfl 3 (by decide) (tg5 7 rfl rfl) rfl ⟨by decide, by decide⟩ (cW_6 ((hB.2.1 _ _ (by decide)).trans ((z1 _ _ (by omega)).trans ((congrFun (hO.1 _ (by omega) (by omega)) _).trans hR.1.1)))) (sm_r (by decide) ((congrFun (hB.1 _ (by omega)) _).trans ((z1 _ _ (by omega)).trans ((congrFun (hO.1 _ (by omega) (by omega)) _).trans hR.1.2.2.2.2.1))) ⟨by decide, by decide⟩) dX5_set_61 ?_
                refine v_aload_n (C.wl _ _) dX5_set_64 rfl rfl ?_
                refine l_get (k := 900) C inG4 (ci := 5) rfl 5 (by decide) (tg2 190 rfl rfl) rfl ⟨by decide, by decide⟩ (cW_5 ((hB.2.1 _ _ (by decide)).trans ((z1 _ _ (by omega)).trans hO.2.1.1))) (ps_r (by decide) ((congrFun (hB.1 _ (by omega)) _).trans ((z1 _ _ (by omega)).trans hO.2.1.2.2.2.2.2.2.1)) ⟨by omega, by omega⟩) dX5_set_65 ?_
                refine v_iload_n (C.wl _ _) dX5_set_68 rfl rfl ?_
                refine l_iald (k := 900 + nfO s + 2) (n := nlO s p) (a := i) C ⟨by omega, by omega⟩ ((hB.2.1 _ _ (by decide)).trans ((z1 _ _ (by omega)).trans hO.2.2.1.1)) ((hB.2.1 _ _ (by decide)).trans ((z1 _ _ (by omega)).trans hO.2.2.1.2)) (by omega) dX5_set_69 ?_
                refine v_topi (y := nI (fo i)) ((congrFun (hB.1 _ (by omega)) _).trans ((z1 _ _ (by omega)).trans hfi)) ?_
                refine l_aald (k := 602) (n := nfO s) (a := (fo i)) (k2 := 610 + (fo i)) C ⟨by decide, by decide⟩ (Or.inr (Or.inl ((hB.2.1 _ _ (by decide)).trans ((z1 _ _ (by omega)).trans ((congrFun (hO.1 _ (by omega) (by omega)) _).trans hR.2.1.2.1.1.1))))) ((hB.2.1 _ _ (by decide)).trans ((z1 _ _ (by omega)).trans ((congrFun (hO.1 _ (by omega) (by omega)) _).trans hR.2.1.2.1.1.2))) ⟨hfl9, by omega⟩ ((congrFun (hB.1 _ (by omega)) _).trans ((z1 _ _ (by omega)).trans ((congrFun (hO.1 _ (by omega) (by omega)) _).trans (hR.2.1.2.1.2 _ hfl9)))) ⟨by omega, by omega⟩ dX5_set_70 ?_
                refine v_iload (C.wl _ _) dX5_set_71 rfl ?_
                refine l_aald (k := 610 + (fo i)) (n := 10) (a := (tk (4 * p + i) / 10 ^ (szw (wdO s (4 * p + i)) - 1 - j) % 10)) (k2 := 620 + (10 * (fo i) + (tk (4 * p + i) / 10 ^ (szw (wdO s (4 * p + i)) - 1 - j) % 10))) C ⟨by omega, by omega⟩ (Or.inl ((hB.2.1 _ _ (by decide)).trans ((z1 _ _ (by omega)).trans ((congrFun (hO.1 _ (by omega) (by omega)) _).trans (hR.2.1.2.2 _ hfl9).1.1)))) ((hB.2.1 _ _ (by decide)).trans ((z1 _ _ (by omega)).trans ((congrFun (hO.1 _ (by omega) (by omega)) _).trans (hR.2.1.2.2 _ hfl9).1.2))) ⟨Nat.mod_lt _ (by decide), by decide⟩ (((congrFun (hB.1 _ (by omega)) _).trans ((z1 _ _ (by omega)).trans ((congrFun (hO.1 _ (by omega) (by omega)) _).trans ((hR.2.1.2.2 _ hfl9).2 _ (Nat.mod_lt _ (by decide)))))).trans (congrArg nI (Nat.add_assoc _ _ _))) ⟨by omega, by omega⟩ dX5_set_73 ?_
                refine v_iconst (v := 1) (C.wl _ _) dX5_set_74 (by decide) ?_
                refine v_dup2 (C.wl _ _) dX5_set_75 rfl rfl ?_
                refine l_iald (k := 620 + (10 * (fo i) + (tk (4 * p + i) / 10 ^ (szw (wdO s (4 * p + i)) - 1 - j) % 10))) (n := 3) (a := 1) C ⟨by omega, by omega⟩ ((hB.2.1 _ _ (by decide)).trans ((z1 _ _ (by omega)).trans ((congrFun (hO.1 _ (by omega) (by omega)) _).trans ((Nat.add_assoc 620 (10 * (fo i)) (tk (4 * p + i) / 10 ^ (szw (wdO s (4 * p + i)) - 1 - j) % 10)) ▸ hR.2.2.1 _ _ hfl9 (Nat.mod_lt _ (by decide))).1.1))) ((hB.2.1 _ _ (by decide)).trans ((z1 _ _ (by omega)).trans ((congrFun (hO.1 _ (by omega) (by omega)) _).trans ((Nat.add_assoc 620 (10 * (fo i)) (tk (4 * p + i) / 10 ^ (szw (wdO s (4 * p + i)) - 1 - j) % 10)) ▸ hR.2.2.1 _ _ hfl9 (Nat.mod_lt _ (by decide))).1.2))) (by decide) dX5_set_76 ?_
                refine v_iconst (v := 1) (C.wl _ _) dX5_set_77 (by decide) ?_
                refine v_iadd (C.wl _ _) dX5_set_78 ?_
                refine l_iast (k := 620 + (10 * (fo i) + (tk (4 * p + i) / 10 ^ (szw (wdO s (4 * p + i)) - 1 - j) % 10))) (n := 3) (a := 1) C ⟨by omega, by omega⟩ ((hB.2.1 _ _ (by decide)).trans ((z1 _ _ (by omega)).trans ((congrFun (hO.1 _ (by omega) (by omega)) _).trans ((Nat.add_assoc 620 (10 * (fo i)) (tk (4 * p + i) / 10 ^ (szw (wdO s (4 * p + i)) - 1 - j) % 10)) ▸ hR.2.2.1 _ _ hfl9 (Nat.mod_lt _ (by decide))).1.1))) ((hB.2.1 _ _ (by decide)).trans ((z1 _ _ (by omega)).trans ((congrFun (hO.1 _ (by omega) (by omega)) _).trans ((Nat.add_assoc 620 (10 * (fo i)) (tk (4 * p + i) / 10 ^ (szw (wdO s (4 * p + i)) - 1 - j) % 10)) ▸ hR.2.2.1 _ _ hfl9 (Nat.mod_lt _ (by decide))).1.2))) (by decide) dX5_set_79 ?_
                refine v_iinc (lo' := [some (.ref (ad2 600)), some (.int (nI p)), some (.ref (ad2 900)), some (.int (nI i)), some (.ref (ad2 (ky i))), some (.int (nI (szw (wdO s (4 * p + i))))), some (.int ((nI j) + 1)), some (.int (nI (tk (4 * p + i) / 10 ^ (szw (wdO s (4 * p + i)) - 1 - j) % 10)))]) (C.wl _ _) dX5_set_80 rfl rfl rfl rfl ?_
                refine v_goto (tgt := 46) (C.wl _ _) dX5_set_83 (by decide) ?_
                refine v_lo (lo' := [some (.ref (ad2 600)), some (.int (nI p)), some (.ref (ad2 900)), some (.int (nI i)), some (.ref (ad2 (ky i))), some (.int (nI (szw (wdO s (4 * p + i))))), some (.int (nI (j + 1))), some (.int (nI (tk (4 * p + i) / 10 ^ (szw (wdO s (4 * p + i)) - 1 - j) % 10)))]) (by rw [nI_succ]) ?_
                have hxl : 10 * fo i + (tk (4 * p + i) / 10 ^ (szw (wdO s (4 * p + i)) - 1 - j) % 10) < 50 := by have hq : (tk (4 * p + i) / 10 ^ (szw (wdO s (4 * p + i)) - 1 - j) % 10) < 10 := Nat.mod_lt _ (by decide); omega
                have hxn : 10 * fo i + (tk (4 * p + i) / 10 ^ (szw (wdO s (4 * p + i)) - 1 - j) % 10) < 10 * nfO s := by have hq : (tk (4 * p + i) / 10 ^ (szw (wdO s (4 * p + i)) - 1 - j) % 10) < 10 := Nat.mod_lt _ (by decide); omega
                refine ih2 (j + 1) _ _ (by omega) (by omega) ?_
                rw [hB.2.2 _ hxn]
                exact hB.w _ hxl _
          exact inn _ 0 m1 _ (Nat.lt_succ_self _) (Nat.zero_le _) hB
    exact loop _ 0 m3 _ _ _ _ (Nat.lt_succ_self _) (Nat.zero_le _) hb7
