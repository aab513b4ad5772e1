/-! THE LAW: two acts; its turns -/
set_option maxRecDepth 100000 in
theorem law_acts {P : Pm} {Z : Zc} {S : Sc} {ad0 : Nat → Nat} {co br x6 : Int32} {time M c s0 : Nat} {v8 v9 v10 v11 v12 v13 v14 v15 v16 v17 v18 v19 v20 v21 v22 v23 : Option Value} (hP9 : P.2.1.stackTraces = false) (C : Cx P Z cL_law "PosterTypesLaw") (hW9 : CxW P Z) (hM : M + 3 ≤ 2048) (hc : c + 140 ≤ 600130 ∧ s0 + 1400 ≤ 7301080)
    (K : ∀ (ad : Nat → Nat) (m s g : MG), (ad 30 = ad0 30 ∧ ad 600 = ad0 600) → LE (M + 2) s → SimR s m → Fr m 900 → Rl s g → co.toInt ≤ (s 0 3).toInt → br.toInt ≤ (s 0 4).toInt → 1 ≤ nfO s → 1 ≤ npO s → V P room_1 (Z.wl ad m) [some (.ref S.1), some (.ref (ad 30)), some (.ref (ad 600)), some (.int co), some (.int br), some (.int (nI time)), some (.int x6), some (.int (nI 2)), v8, v9, v10, v11, v12, v13, v14, v15, v16, v17, v18, v19, v20, v21, v22, v23] 89 [] g (c + 140) (s0 + 1400))
    : ∀ (q k : Nat) (ad : Nat → Nat) (m s g : MG), 2 - k < q → k ≤ 2 → (ad 30 = ad0 30 ∧ ad 600 = ad0 600) → LE (M + k) s → SimR s m → Fr m 900 → Rl s g → co.toInt ≤ (s 0 3).toInt → br.toInt ≤ (s 0 4).toInt → 1 ≤ nfO s → 1 ≤ npO s → V P room_1 (Z.wl ad m) [some (.ref S.1), some (.ref (ad 30)), some (.ref (ad 600)), some (.int co), some (.int br), some (.int (nI time)), some (.int x6), some (.int (nI k)), v8, v9, v10, v11, v12, v13, v14, v15, v16, v17, v18, v19, v20, v21, v22, v23] 54 [] g (c + 70 * k) (s0 + 700 * k) := by
  intro q
  induction q with
  | zero => intro k ad m s g hq; exact absurd hq (Nat.not_lt_zero _)
  | succ q ih =>
    intro k ad m s g hq hi hA hE hR hF hRl hco hbr hnf hnp
    refine v_iload (C.wl _ _) dL_law_54 rfl ?_
    refine v_iconst (v := 2) (C.wl _ _) dL_law_56 (by decide) ?_
    refine v_icmp_ge (tgt := 89) (C.wl _ _) dL_law_57 (by decide) (fun h57 => ?_) (fun h57 => ?_)
    · have hie : k = 2 := Nat.le_antisymm hi ((nI_leI (a := 2) (by decide) (by omega)).mp h57)
      subst hie
      exact K ad m s g hA hE hR hF hRl hco hbr hnf hnp
    · have hk2 : k < 2 := Nat.lt_of_not_le fun q => h57 ((nI_leI (a := 2) (by decide) (by omega)).mpr q)
      refine v_aload_n (C.wl _ _) dL_law_60 rfl rfl ?_
      refine v_aload_n (C.wl _ _) dL_law_61 rfl rfl ?_
      refine v_iload (C.wl _ _) dL_law_62 rfl ?_
      refine v_iconst (v := 3) (C.wl _ _) dL_law_64 (by decide) ?_
      refine v_iload (C.wl _ _) dL_law_65 rfl ?_
      refine v_imul (C.wl _ _) dL_law_67 ?_
      refine v_ishr (C.wl _ _) dL_law_68 ?_
      refine v_bipush (v := 29) (C.wl _ _) dL_law_69 (by decide) ?_
      refine v_iload (C.wl _ _) dL_law_71 rfl ?_
      refine v_imul (C.wl _ _) dL_law_73 ?_
      refine v_iadd (C.wl _ _) dL_law_74 ?_
      refine l_callSw (n := 3) (as := [.ref (ad 30), .ref (ad 600), .int ((x6 >>> ((3 * (nI k)) &&& 31)) + (29 * (nI k)))]) C hW9 (l_act _ hP9 Z ad (M + k) s m g (by omega) hE hR hF hRl hnf hnp ((x6 >>> ((3 * (nI k)) &&& 31)) + (29 * (nI k)))) (gsw (tg3 25 rfl rfl) (tg3 26 rfl rfl) (tg1 0 rfl rfl) (tg3 27 rfl rfl)) (by decide +kernel) ⟨Nat.le_of_ble_eq_true rfl, Nat.le_of_ble_eq_true rfl⟩ rfl rfl (Nat.le_of_ble_eq_true rfl) dL_law_75 ⟨(by show c + 70 * k + 70 ≤ 600130; omega), (by show s0 + 700 * k + 700 ≤ 7301080; omega)⟩ (fun r75 ad75 m75 g75 hp75 => ?_)
      obtain ⟨hr75, hA75, s2, hE2, hMo, hR2, hF2, hRl2, hnf2, hnp2⟩ := hp75
      rw [hr75]
      refine v_lo (lo' := [some (.ref S.1), some (.ref (ad75 30)), some (.ref (ad75 600)), some (.int co), some (.int br), some (.int (nI time)), some (.int x6), some (.int (nI k)), v8, v9, v10, v11, v12, v13, v14, v15, v16, v17, v18, v19, v20, v21, v22, v23]) (by rw [hA75.1, hA75.2]) ?_
      refine v_if_ne (tgt := 83) (C.wl _ _) dL_law_78 (by decide) (fun h78 => ?_) (fun h78 => ?_)
      · refine v_iinc (lo' := [some (.ref S.1), some (.ref (ad75 30)), some (.ref (ad75 600)), some (.int co), some (.int br), some (.int (nI time)), some (.int x6), some (.int ((nI k) + 1)), v8, v9, v10, v11, v12, v13, v14, v15, v16, v17, v18, v19, v20, v21, v22, v23]) (C.wl _ _) dL_law_83 rfl rfl rfl rfl ?_
        refine v_goto (tgt := 54) (C.wl _ _) dL_law_86 (by decide) ?_
        refine v_lo (lo' := [some (.ref S.1), some (.ref (ad75 30)), some (.ref (ad75 600)), some (.int co), some (.int br), some (.int (nI time)), some (.int x6), some (.int (nI (k + 1))), v8, v9, v10, v11, v12, v13, v14, v15, v16, v17, v18, v19, v20, v21, v22, v23]) (by rw [nI_succ k]) ?_
        refine v_wide (k := c + 70 * (k + 1)) (n := s0 + 700 * (k + 1)) (by show c + 70 * k + 70 ≤ c + 70 * (k + 1); omega) (by show s0 + 700 * k + 700 ≤ s0 + 700 * (k + 1); omega) ?_
        exact ih (k + 1) ad75 m75 s2 g75 (by omega) (by omega) ⟨hA75.1.trans hA.1, hA75.2.trans hA.2⟩ hE2 hR2 hF2 hRl2 (Int.le_trans hco hMo.1) (Int.le_trans hbr hMo.2) (Nat.le_trans hnf hnf2) (Nat.le_trans hnp hnp2)
      · exact absurd h78 (by decide)
set_option maxRecDepth 100000 in
theorem law_loop {P : Pm} {Z : Zc} {S : Sc} (hP9 : P.2.1.stackTraces = false) (C : Cx P Z cL_law "PosterTypesLaw") (hW9 : CxW P Z) (hC : CxP P S Z.z)
    (ret : ∀ (ad : Nat → Nat) (m g : MG) (lo : Lo), V P room_1 (Z.wl ad m) lo 997 [.int 1] g 600130 7301080)
    : ∀ (q time : Nat) (ad : Nat → Nat) (m s g : MG) (N : Nat) (co br : Int32) (v6 v7 v8 v9 v10 v11 v12 v13 v14 v15 v16 v17 v18 v19 v20 v21 v22 v23 : Option Value), 16 - time < q → time ≤ 16 → N ≤ 28 + 4 * time → LE N s → SimR s m → Fr m 900 → Rl s g → co.toInt ≤ (s 0 3).toInt → br.toInt ≤ (s 0 4).toInt → 1 ≤ nfO s → 1 ≤ npO s → V P room_1 (Z.wl ad m) [some (.ref S.1), some (.ref (ad 30)), some (.ref (ad 600)), some (.int co), some (.int br), some (.int (nI time)), v6, v7, v8, v9, v10, v11, v12, v13, v14, v15, v16, v17, v18, v19, v20, v21, v22, v23] 28 [] g (700 + 900 * time) (7000 + 6000 * time) := by
  intro q
  induction q with
  | zero => intro time ad m s g N co br v6 v7 v8 v9 v10 v11 v12 v13 v14 v15 v16 v17 v18 v19 v20 v21 v22 v23 hq; exact absurd hq (Nat.not_lt_zero _)
  | succ q ih =>
    intro time ad m s g N co br v6 v7 v8 v9 v10 v11 v12 v13 v14 v15 v16 v17 v18 v19 v20 v21 v22 v23 hq hi hN hE hR hF hRl hco hbr hnf hnp
    refine v_iload (C.wl _ _) dL_law_28 rfl ?_
    refine v_bipush (v := 16) (C.wl _ _) dL_law_30 (by decide) ?_
    refine v_icmp_ge (tgt := 992) (C.wl _ _) dL_law_32 (by decide) (fun h32 => ?_) (fun h32 => ?_)
    · refine v_aload_n (C.wl _ _) dL_law_992 rfl rfl ?_
      refine v_aload_n (C.wl _ _) dL_law_993 rfl rfl ?_
      refine l_callVi (n := 1) (k := 600) (as := [.ref (ad 30)]) C hW9 (l_isSame _ hP9 Z ad s m g hE.1.1 hE.1.2.1 hE.1.2.2.1 hE.2.1 hR hF hRl) (gv (tg2 236 rfl rfl) (tg2 237 rfl rfl) (tg2 238 rfl rfl) (tg1 6 rfl rfl) (tg2 239 rfl rfl)) (by decide +kernel) ⟨Nat.le_of_ble_eq_true rfl, Nat.le_of_ble_eq_true rfl⟩ rfl (by decide) (cW_6 hR.1.1) rfl rfl (Nat.le_of_ble_eq_true rfl) dL_law_994 ⟨(by show 700 + 900 * time + 400 ≤ 600130; omega), (by show 7000 + 6000 * time + 2400 ≤ 7301080; omega)⟩ (fun r994 ad994 m994 g994 hp994 => ?_)
      rw [show r994 = 1 from hp994]
      refine v_wide (k := 600130) (n := 7301080) (by show 700 + 900 * time + 400 ≤ 600130; omega) (by show 7000 + 6000 * time + 2400 ≤ 7301080; omega) ?_
      exact ret ad994 m994 g994 _
    · have ht16 : time < 16 := Nat.lt_of_not_le fun q => h32 ((nI_leI (a := 16) (by decide) (by omega)).mpr q)
      refine v_aload_n (C.wl _ _) dL_law_35 rfl rfl ?_
      refine v_iload (C.wl _ _) dL_law_36 rfl ?_
      refine s_call (n := 2) (S := S) (as := [.ref S.1, .int (nI time)]) (C.wl _ _) hC (l_cell _ (Z.wl ad m) S time (by omega) g) (gs (tg3 21 rfl rfl) (tg3 22 rfl rfl) (tg1 0 rfl rfl) (tg3 23 rfl rfl)) (by decide +kernel) ⟨Nat.le_of_ble_eq_true rfl, Nat.le_of_ble_eq_true rfl⟩ rfl rfl (Nat.le_of_ble_eq_true rfl) dL_law_38 ⟨(by show 700 + 900 * time + 0 ≤ 600130; omega), (by show 7000 + 6000 * time + 0 ≤ 7301080; omega)⟩ (fun r38 gg38 hp38 => ?_)
      rw [show gg38 = g from hp38]
      refine v_iconst (v := 2) (C.wl _ _) dL_law_41 (by decide) ?_
      refine v_ishr (C.wl _ _) dL_law_42 ?_
      refine v_bipush (v := 53) (C.wl _ _) dL_law_43 (by decide) ?_
      refine v_iload (C.wl _ _) dL_law_45 rfl ?_
      refine v_imul (C.wl _ _) dL_law_47 ?_
      refine v_iadd (C.wl _ _) dL_law_48 ?_
      refine v_istore (lo' := [some (.ref S.1), some (.ref (ad 30)), some (.ref (ad 600)), some (.int co), some (.int br), some (.int (nI time)), some (.int ((r38 >>> (2 &&& 31)) + (53 * (nI time)))), v7, v8, v9, v10, v11, v12, v13, v14, v15, v16, v17, v18, v19, v20, v21, v22, v23]) (C.wl _ _) dL_law_49 (Nat.le_of_ble_eq_true rfl) rfl rfl ?_
      refine v_iconst (v := 0) (C.wl _ _) dL_law_51 (by decide) ?_
      refine v_istore (lo' := [some (.ref S.1), some (.ref (ad 30)), some (.ref (ad 600)), some (.int co), some (.int br), some (.int (nI time)), some (.int ((r38 >>> (2 &&& 31)) + (53 * (nI time)))), some (.int 0), v8, v9, v10, v11, v12, v13, v14, v15, v16, v17, v18, v19, v20, v21, v22, v23]) (C.wl _ _) dL_law_52 (Nat.le_of_ble_eq_true rfl) rfl rfl ?_
      refine v_lo (lo' := [some (.ref S.1), some (.ref (ad 30)), some (.ref (ad 600)), some (.int co), some (.int br), some (.int (nI time)), some (.int ((r38 >>> (2 &&& 31)) + (53 * (nI time)))), some (.int (nI 0)), v8, v9, v10, v11, v12, v13, v14, v15, v16, v17, v18, v19, v20, v21, v22, v23]) rfl ?_
      generalize (r38 >>> (2 &&& 31)) + (53 * (nI time)) = x6
      refine v_wide (k := 700 + 900 * time + 70 * 0) (n := 7000 + 6000 * time + 700 * 0) (by show 700 + 900 * time ≤ 700 + 900 * time + 70 * 0; omega) (by show 7000 + 6000 * time ≤ 7000 + 6000 * time + 700 * 0; omega) ?_
      refine law_acts (ad0 := ad) (M := N) (c := 700 + 900 * time) (s0 := 7000 + 6000 * time) hP9 C hW9 (by omega) ⟨by omega, by omega⟩ (fun ad1 m1 s1 g1 hA1 hE1 hR1 hF1 hRl1 hco1 hbr1 hnf1 hnp1 => ?_) _ 0 ad m s g (Nat.lt_succ_self _) (Nat.zero_le _) ⟨rfl, rfl⟩ hE hR hF hRl hco hbr hnf hnp
      refine law_turn hP9 C hW9 hE1 hR1 hF1 (by omega) hco1 hbr1 (c := 700 + 900 * time + 140) (s0 := 7000 + 6000 * time + 1400) ⟨by omega, by omega⟩ (fun ad2 m2 g2 u6 u7 u8 u9 u10 u11 u12 u13 u14 u15 u16 u17 u18 u19 u20 u21 u22 u23 hT => ?_) g1 hRl1
      obtain ⟨-, s2, hE2, hMo2, hR2, hF2, hRl2, hnf2, hnp2⟩ := hT
      refine v_iinc (lo' := [some (.ref S.1), some (.ref (ad2 30)), some (.ref (ad2 600)), some (.int (s1 0 3)), some (.int (s1 0 4)), some (.int ((nI time) + 1)), u6, u7, u8, u9, u10, u11, u12, u13, u14, u15, u16, u17, u18, u19, u20, u21, u22, u23]) (C.wl _ _) dL_law_986 rfl rfl rfl rfl ?_
      refine v_goto (tgt := 28) (C.wl _ _) dL_law_989 (by decide) ?_
      refine v_lo (lo' := [some (.ref S.1), some (.ref (ad2 30)), some (.ref (ad2 600)), some (.int (s1 0 3)), some (.int (s1 0 4)), some (.int (nI (time + 1))), u6, u7, u8, u9, u10, u11, u12, u13, u14, u15, u16, u17, u18, u19, u20, u21, u22, u23]) (by rw [nI_succ time]) ?_
      refine v_wide (k := 700 + 900 * (time + 1)) (n := 7000 + 6000 * (time + 1)) (by show 700 + 900 * time + 140 + 700 ≤ 700 + 900 * (time + 1); omega) (by show 7000 + 6000 * time + 1400 + 4500 ≤ 7000 + 6000 * (time + 1); omega) ?_
      exact ih (time + 1) ad2 m2 s2 g2 (N + 2 + 2) _ _ _ _ _ _ _ _ _ _ _ _ _ _ _ _ _ _ _ _ (by omega) (by omega) (by omega) hE2 hR2 hF2 hRl2 hMo2.1 hMo2.2 (by omega) (by omega)
