/-! THE LAW: what is set and struck at once -/
set_option maxRecDepth 100000 in
theorem law_J {P : Pm} {Z : Zc} {S : Sc} {ad : Nat → Nat} {s m : MG} {N : Nat} {co br : Int32} {time : Nat} {b18 : Int32} {v6 v7 v8 v10 v11 v12 v13 v14 v15 v16 v17 : Option Value} (hP9 : P.2.1.stackTraces = false) (C : Cx P Z cL_law "PosterTypesLaw") (hW9 : CxW P Z) (hE : LE N s) {c s0 : Nat} (hc : c + 110 ≤ 600130 ∧ s0 + 660 ≤ 7301080) (hw : ∀ x, x < 50 → ¬ s 6 x - s 7 x ≤ 0 → s 8 x < 400)
    (K : ∀ (g : MG) (v20 v21 v22 v23 : Option Value), Rl s g → V P room_1 (Z.wl ad m) [some (.ref S.1), some (.ref (ad 30)), some (.ref (ad 600)), some (.int co), some (.int br), some (.int (nI time)), v6, v7, v8, some (.int (nI (nfO s))), v10, v11, v12, v13, v14, v15, v16, v17, some (.int b18), some (.int (nI (nfO s))), v20, v21, v22, v23] 986 [] g (c + 20 * nfO s) (s0 + 120 * nfO s))
    : ∀ (q f : Nat) (g : MG) (v20 v21 v22 v23 : Option Value), nfO s - f < q → f ≤ nfO s → Rl s g → V P room_1 (Z.wl ad m) [some (.ref S.1), some (.ref (ad 30)), some (.ref (ad 600)), some (.int co), some (.int br), some (.int (nI time)), v6, v7, v8, some (.int (nI (nfO s))), v10, v11, v12, v13, v14, v15, v16, v17, some (.int b18), some (.int (nI f)), v20, v21, v22, v23] 928 [] g (c + 20 * f) (s0 + 120 * f) := by
  have hI := hE.1.1
  have hf5 := (IvM_nf hI).1
  intro q
  induction q with
  | zero => intro f g v20 v21 v22 v23 hq; exact absurd hq (Nat.not_lt_zero _)
  | succ q ih =>
    intro f g v20 v21 v22 v23 hq hi hRl
    refine v_iload (C.wl _ _) dL_law_928 rfl ?_
    refine v_iload (C.wl _ _) dL_law_930 rfl ?_
    refine v_icmp_ge (tgt := 986) (C.wl _ _) dL_law_932 (by decide) (fun h932 => ?_) (fun h932 => ?_)
    · have hie : f = nfO s := Nat.le_antisymm hi ((nI_leI (by omega) (by omega)).mp h932)
      subst hie
      exact K g v20 v21 v22 v23 hRl
    · have hff : f < nfO s := Nat.lt_of_not_le fun q => h932 ((nI_leI (by omega) (by omega)).mpr q)
      refine v_iconst (v := 0) (C.wl _ _) dL_law_935 (by decide) ?_
      refine v_istore (lo' := [some (.ref S.1), some (.ref (ad 30)), some (.ref (ad 600)), some (.int co), some (.int br), some (.int (nI time)), v6, v7, v8, some (.int (nI (nfO s))), v10, v11, v12, v13, v14, v15, v16, v17, some (.int b18), some (.int (nI f)), some (.int 0), v21, v22, v23]) (C.wl _ _) dL_law_936 (Nat.le_of_ble_eq_true rfl) rfl rfl ?_
      refine v_lo (lo' := [some (.ref S.1), some (.ref (ad 30)), some (.ref (ad 600)), some (.int co), some (.int br), some (.int (nI time)), v6, v7, v8, some (.int (nI (nfO s))), v10, v11, v12, v13, v14, v15, v16, v17, some (.int b18), some (.int (nI f)), some (.int (nI 0)), v21, v22, v23]) rfl ?_
      have inn : ∀ (n2 k : Nat) (g : MG), 10 - k < n2 → k ≤ 10 → Rl s g → V P room_1 (Z.wl ad m) [some (.ref S.1), some (.ref (ad 30)), some (.ref (ad 600)), some (.int co), some (.int br), some (.int (nI time)), v6, v7, v8, some (.int (nI (nfO s))), v10, v11, v12, v13, v14, v15, v16, v17, some (.int b18), some (.int (nI f)), some (.int (nI k)), v21, v22, v23] 938 [] g (c + 20 * f + 2 * k) (s0 + 120 * f + 12 * k) := by
        intro n2
        induction n2 with
        | zero => intro k g hn; exact absurd hn (Nat.not_lt_zero _)
        | succ n2 ih2 =>
          intro k g hn2 hk hRl
          refine v_iload (C.wl _ _) dL_law_938 rfl ?_
          refine v_bipush (v := 10) (C.wl _ _) dL_law_940 (by decide) ?_
          refine v_icmp_ge (tgt := 980) (C.wl _ _) dL_law_942 (by decide) (fun h942 => ?_) (fun h942 => ?_)
          · have hie : k = 10 := Nat.le_antisymm hk ((nI_leI (a := 10) (by decide) (by omega)).mp h942)
            subst hie
            refine v_iinc (lo' := [some (.ref S.1), some (.ref (ad 30)), some (.ref (ad 600)), some (.int co), some (.int br), some (.int (nI time)), v6, v7, v8, some (.int (nI (nfO s))), v10, v11, v12, v13, v14, v15, v16, v17, some (.int b18), some (.int ((nI f) + 1)), some (.int (nI 10)), v21, v22, v23]) (C.wl _ _) dL_law_980 rfl rfl rfl rfl ?_
            refine v_goto (tgt := 928) (C.wl _ _) dL_law_983 (by decide) ?_
            refine v_lo (lo' := [some (.ref S.1), some (.ref (ad 30)), some (.ref (ad 600)), some (.int co), some (.int br), some (.int (nI time)), v6, v7, v8, some (.int (nI (nfO s))), v10, v11, v12, v13, v14, v15, v16, v17, some (.int b18), some (.int (nI (f + 1))), some (.int (nI 10)), v21, v22, v23]) (by rw [nI_succ f]) ?_
            refine v_wide (k := c + 20 * (f + 1)) (n := s0 + 120 * (f + 1)) (by show c + 20 * f + 2 * 10 ≤ c + 20 * (f + 1); omega) (by show s0 + 120 * f + 12 * 10 ≤ s0 + 120 * (f + 1); omega) ?_
            exact ih (f + 1) g _ _ _ _ (by omega) (by omega) hRl
          · have hkk : k < 10 := Nat.lt_of_not_le fun q => h942 ((nI_leI (a := 10) (by decide) (by omega)).mpr q)
            refine v_aload_n (C.wl _ _) dL_law_945 rfl rfl ?_
            refine v_iload (C.wl _ _) dL_law_946 rfl ?_
            refine v_iload (C.wl _ _) dL_law_948 rfl ?_
            refine v_iconst (v := 1) (C.wl _ _) dL_law_950 (by decide) ?_
            refine v_callX (n := 3) (k := 30) (as := [.int (nI f), .int (nI k), .int 1]) (C.wl _ _) hW9.S (x_block _ hP9 (Z.wl ad m) (nI f) (nI k) 1 s g hE.1.1 hE.1.2.1 hRl) (gv (tg2 34 rfl rfl) (tg2 35 rfl rfl) (tg2 36 rfl rfl) (tg1 1 rfl rfl) (tg2 37 rfl rfl)) (by decide +kernel) ⟨Nat.le_of_ble_eq_true rfl, Nat.le_of_ble_eq_true rfl⟩ rfl cx_T rfl rfl (Nat.le_of_ble_eq_true rfl) dL_law_951 ⟨(by show c + 20 * f + 2 * k + 1 ≤ 600130; omega), (by show s0 + 120 * f + 12 * k + 6 ≤ 7301080; omega)⟩ (fun E q g951 hp951 => absurd (cdB_0 hI hff hkk (v := 1) (by decide)) hp951.1) (fun r951 g951 hp951 => ?_)
            obtain ⟨-, hr951, hRl951, hK951⟩ := hp951
            refine v_topi (y := s 6 (10 * f + k) - s 7 (10 * f + k)) (hr951.trans (by rw [at_n (by omega) hkk]; rfl)) ?_
            refine v_if_le (tgt := 974) (C.wl _ _) dL_law_954 (by decide) (fun h954 => ?_) (fun h954 => ?_)
            · refine v_iinc (lo' := [some (.ref S.1), some (.ref (ad 30)), some (.ref (ad 600)), some (.int co), some (.int br), some (.int (nI time)), v6, v7, v8, some (.int (nI (nfO s))), v10, v11, v12, v13, v14, v15, v16, v17, some (.int b18), some (.int (nI f)), some (.int ((nI k) + 1)), v21, v22, v23]) (C.wl _ _) dL_law_974 rfl rfl rfl rfl ?_
              refine v_goto (tgt := 938) (C.wl _ _) dL_law_977 (by decide) ?_
              refine v_lo (lo' := [some (.ref S.1), some (.ref (ad 30)), some (.ref (ad 600)), some (.int co), some (.int br), some (.int (nI time)), v6, v7, v8, some (.int (nI (nfO s))), v10, v11, v12, v13, v14, v15, v16, v17, some (.int b18), some (.int (nI f)), some (.int (nI (k + 1))), v21, v22, v23]) (by rw [nI_succ k]) ?_
              refine v_wide (k := c + 20 * f + 2 * (k + 1)) (n := s0 + 120 * f + 12 * (k + 1)) (by show c + 20 * f + 2 * k + 1 ≤ c + 20 * f + 2 * (k + 1); omega) (by show s0 + 120 * f + 12 * k + 6 ≤ s0 + 120 * f + 12 * (k + 1); omega) ?_
              exact ih2 (k + 1) g951 (by omega) (by omega) hRl951
            · refine v_aload_n (C.wl _ _) dL_law_957 rfl rfl ?_
              refine v_iload (C.wl _ _) dL_law_958 rfl ?_
              refine v_iload (C.wl _ _) dL_law_960 rfl ?_
              refine v_iconst (v := 2) (C.wl _ _) dL_law_962 (by decide) ?_
              refine v_callX (n := 3) (k := 30) (as := [.int (nI f), .int (nI k), .int 2]) (C.wl _ _) hW9.S (x_block _ hP9 (Z.wl ad m) (nI f) (nI k) 2 s g951 hE.1.1 hE.1.2.1 hRl951) (gv (tg2 34 rfl rfl) (tg2 35 rfl rfl) (tg2 36 rfl rfl) (tg1 1 rfl rfl) (tg2 37 rfl rfl)) (by decide +kernel) ⟨Nat.le_of_ble_eq_true rfl, Nat.le_of_ble_eq_true rfl⟩ rfl cx_T rfl rfl (Nat.le_of_ble_eq_true rfl) dL_law_963 ⟨(by show c + 20 * f + 2 * k + 1 + 1 ≤ 600130; omega), (by show s0 + 120 * f + 12 * k + 6 + 6 ≤ 7301080; omega)⟩ (fun E q g963 hp963 => absurd (cdB_0 hI hff hkk (v := 2) (by decide)) hp963.1) (fun r963 g963 hp963 => ?_)
              obtain ⟨-, hr963, hRl963, hK963⟩ := hp963
              refine v_topi (y := s 8 (10 * f + k)) (hr963.trans (by rw [at_n (by omega) hkk]; rfl)) ?_
              refine v_sipush (v := 400) (C.wl _ _) dL_law_966 (by decide) ?_
              refine v_icmp_lt (tgt := 974) (C.wl _ _) dL_law_969 (by decide) (fun h969 => ?_) (fun h969 => ?_)
              · refine v_iinc (lo' := [some (.ref S.1), some (.ref (ad 30)), some (.ref (ad 600)), some (.int co), some (.int br), some (.int (nI time)), v6, v7, v8, some (.int (nI (nfO s))), v10, v11, v12, v13, v14, v15, v16, v17, some (.int b18), some (.int (nI f)), some (.int ((nI k) + 1)), v21, v22, v23]) (C.wl _ _) dL_law_974 rfl rfl rfl rfl ?_
                refine v_goto (tgt := 938) (C.wl _ _) dL_law_977 (by decide) ?_
                refine v_lo (lo' := [some (.ref S.1), some (.ref (ad 30)), some (.ref (ad 600)), some (.int co), some (.int br), some (.int (nI time)), v6, v7, v8, some (.int (nI (nfO s))), v10, v11, v12, v13, v14, v15, v16, v17, some (.int b18), some (.int (nI f)), some (.int (nI (k + 1))), v21, v22, v23]) (by rw [nI_succ k]) ?_
                refine v_wide (k := c + 20 * f + 2 * (k + 1)) (n := s0 + 120 * f + 12 * (k + 1)) (by show c + 20 * f + 2 * k + 1 + 1 ≤ c + 20 * f + 2 * (k + 1); omega) (by show s0 + 120 * f + 12 * k + 6 + 6 ≤ s0 + 120 * f + 12 * (k + 1); omega) ?_
                exact ih2 (k + 1) g963 (by omega) (by omega) hRl963
              · exact absurd (hw _ (show 10 * f + k < 50 by omega) h954) h969
      exact inn _ 0 g (Nat.lt_succ_self _) (Nat.zero_le _) hRl
/-- a turn has ended -/
def TurnP (ad : Nat → Nat) (N : Nat) (s : MG) (ad2 : Nat → Nat) (m2 g2 : MG) : Prop := (ad2 30 = ad 30 ∧ ad2 600 = ad 600) ∧ ∃ t, LE (N + 2) t ∧ Mo s t ∧ SimR t m2 ∧ Fr m2 900 ∧ Rl t g2 ∧ nfO s ≤ nfO t ∧ npO s ≤ npO t
set_option maxRecDepth 100000 in
theorem law_H {P : Pm} {Z : Zc} {S : Sc} {ad : Nat → Nat} {s m : MG} {N : Nat} {x6 : Int32} {time : Nat} {v7 v8 v10 v11 v12 : Option Value} (hP9 : P.2.1.stackTraces = false) (C : Cx P Z cL_law "PosterTypesLaw") (hW9 : CxW P Z) (hE : LE N s) (hR : SimR s m) (hF : Fr m 900) (hN : N + 2 ≤ 2048) {p c s0 : Nat} {a : List (Nat × TS) × (Nat → Int32)} (hp : p < npO s) (hpl : plO s p = some a) (hc : c + 200 ≤ 600130 ∧ s0 + 1500 ≤ 7301080)
    (K : ∀ (ad2 : Nat → Nat) (m2 g2 : MG) (u6 u7 u8 u9 u10 u11 u12 u13 u14 u15 u16 u17 u18 u19 u20 u21 u22 u23 : Option Value), TurnP ad N s ad2 m2 g2 → V P room_1 (Z.wl ad2 m2) [some (.ref S.1), some (.ref (ad2 30)), some (.ref (ad2 600)), some (.int (s 0 3)), some (.int (s 0 4)), some (.int (nI time)), u6, u7, u8, u9, u10, u11, u12, u13, u14, u15, u16, u17, u18, u19, u20, u21, u22, u23] 986 [] g2 (c + 200) (s0 + 1500))
    (g : MG) (v16 v17 v18 v19 v20 v21 v22 v23 : Option Value) (hRl : Rl s g) : V P room_1 (Z.wl ad m) [some (.ref S.1), some (.ref (ad 30)), some (.ref (ad 600)), some (.int (s 0 3)), some (.int (s 0 4)), some (.int (nI time)), some (.int x6), v7, v8, some (.int (nI (nfO s))), v10, v11, v12, some (.int (sumI (s 6) (10 * nfO s))), some (.int (sumI (s 7) (10 * nfO s))), some (.int (nI p)), v16, v17, v18, v19, v20, v21, v22, v23] 787 [] g (c) (s0) := by
  have hI := hE.1.1
  have hf5 := (IvM_nf hI).1
  have hp6 := (IvM_np hI).1
  have hs1 := stSe_0 hI hp hpl
  have hE1 := (LE_set hE (by omega) (nI p)).1
  have hMo1 := (LE_set hE (by omega) (nI p)).2
  rw [hs1] at hE1 hMo1
  have e10 : setG s p a 0 = s 0 := setG_r (by decide)
  have e16 : setG s p a 6 = s 6 := setG_r (by decide)
  have hp1 : p < npO (setG s p a) := by unfold npO; rw [e10]; exact hp
  have h151 : setG s p a 15 p = 1 := by rw [setG_15, if_pos rfl]
  refine v_aload_n (C.wl _ _) dL_law_787 rfl rfl ?_
  refine v_iload (C.wl _ _) dL_law_788 rfl ?_
  refine v_iconst (v := 0) (C.wl _ _) dL_law_790 (by decide) ?_
  refine v_callX (n := 2) (k := 30) (as := [.int (nI p), .int 0]) (C.wl _ _) hW9.S (x_would _ hP9 (Z.wl ad m) (nI p) 0 s g hE.1.1 _ hE.1.2.2.2.2 hRl) (gv (tg2 105 rfl rfl) (tg2 106 rfl rfl) (tg2 107 rfl rfl) (tg1 1 rfl rfl) (tg2 108 rfl rfl)) (by decide +kernel) ⟨Nat.le_of_ble_eq_true rfl, Nat.le_of_ble_eq_true rfl⟩ rfl cx_T rfl rfl (Nat.le_of_ble_eq_true rfl) dL_law_791 ⟨(by show c + 1 ≤ 600130; omega), (by show s0 + 6 ≤ 7301080; omega)⟩ (fun E q g791 hp791 => absurd (cdW_0 hI hp (v := 0) (by decide)) hp791.1) (fun r791 g791 hp791 => ?_)
  obtain ⟨-, hr791, hRl791, hK791⟩ := hp791
  refine v_topi (y := prP s p) (hr791.trans ((if_pos rfl).trans (congrArg (prP s) (iz_nI (show p < 2147483648 by omega))))) ?_
  refine v_istore (lo' := [some (.ref S.1), some (.ref (ad 30)), some (.ref (ad 600)), some (.int (s 0 3)), some (.int (s 0 4)), some (.int (nI time)), some (.int x6), v7, v8, some (.int (nI (nfO s))), v10, v11, v12, some (.int (sumI (s 6) (10 * nfO s))), some (.int (sumI (s 7) (10 * nfO s))), some (.int (nI p)), some (.int (prP s p)), v17, v18, v19, v20, v21, v22, v23]) (C.wl _ _) dL_law_794 (Nat.le_of_ble_eq_true rfl) rfl rfl ?_
  refine v_aload_n (C.wl _ _) dL_law_796 rfl rfl ?_
  refine v_iload (C.wl _ _) dL_law_797 rfl ?_
  refine v_iconst (v := 1) (C.wl _ _) dL_law_799 (by decide) ?_
  refine v_callX (n := 2) (k := 30) (as := [.int (nI p), .int 1]) (C.wl _ _) hW9.S (x_would _ hP9 (Z.wl ad m) (nI p) 1 s g791 hE.1.1 _ hE.1.2.2.2.2 hRl791) (gv (tg2 105 rfl rfl) (tg2 106 rfl rfl) (tg2 107 rfl rfl) (tg1 1 rfl rfl) (tg2 108 rfl rfl)) (by decide +kernel) ⟨Nat.le_of_ble_eq_true rfl, Nat.le_of_ble_eq_true rfl⟩ rfl cx_T rfl rfl (Nat.le_of_ble_eq_true rfl) dL_law_800 ⟨(by show c + 1 + 1 ≤ 600130; omega), (by show s0 + 6 + 6 ≤ 7301080; omega)⟩ (fun E q g800 hp800 => absurd (cdW_0 hI hp (v := 1) (by decide)) hp800.1) (fun r800 g800 hp800 => ?_)
  obtain ⟨-, hr800, hRl800, hK800⟩ := hp800
  refine v_topi (y := wdF (plO s p)) (hr800.trans ((if_neg (by decide)).trans (congrArg (fun q => wdF (plO s q)) (iz_nI (show p < 2147483648 by omega))))) ?_
  refine v_istore (lo' := [some (.ref S.1), some (.ref (ad 30)), some (.ref (ad 600)), some (.int (s 0 3)), some (.int (s 0 4)), some (.int (nI time)), some (.int x6), v7, v8, some (.int (nI (nfO s))), v10, v11, v12, some (.int (sumI (s 6) (10 * nfO s))), some (.int (sumI (s 7) (10 * nfO s))), some (.int (nI p)), some (.int (prP s p)), some (.int (wdF (plO s p))), v18, v19, v20, v21, v22, v23]) (C.wl _ _) dL_law_803 (Nat.le_of_ble_eq_true rfl) rfl rfl ?_
  refine v_aload_n (C.wl _ _) dL_law_805 rfl rfl ?_
  refine v_iload (C.wl _ _) dL_law_806 rfl ?_
  refine v_callX (n := 1) (k := 30) (as := [.int (nI p)]) (C.wl _ _) hW9.S (x_set _ hP9 (Z.wl ad m) (nI p) s g800 hE.1.1 _ hE.1.2.2.2.2 hRl800) (gv (tg1 89 rfl rfl) (tg1 90 rfl rfl) (tg1 91 rfl rfl) (tg1 1 rfl rfl) (tg1 92 rfl rfl)) (by decide +kernel) ⟨Nat.le_of_ble_eq_true rfl, Nat.le_of_ble_eq_true rfl⟩ rfl cx_T rfl rfl (Nat.le_of_ble_eq_true rfl) dL_law_808 ⟨(by show c + 1 + 1 + 1 ≤ 600130; omega), (by show s0 + 6 + 6 + 6 ≤ 7301080; omega)⟩ (fun E q g808 hp808 => absurd (cdSe_0 hI hp hpl) hp808.1) (fun r808 g808 hp808 => ?_)
  obtain ⟨-, hr808, hRl808, hK808⟩ := hp808
  refine v_topi (y := wdF (plO s p)) (hr808.trans (congrArg (fun q => wdF (plO s q)) (iz_nI (show p < 2147483648 by omega)))) ?_
  rw [hs1] at hRl808
  refine v_iload (C.wl _ _) dL_law_811 rfl ?_
  refine v_icmp_ne (tgt := 851) (C.wl _ _) dL_law_813 (by decide) (fun h813 => ?_) (fun h813 => ?_)
  · exact absurd rfl h813
  · refine v_aload_n (C.wl _ _) dL_law_816 rfl rfl ?_
    refine v_iload (C.wl _ _) dL_law_817 rfl ?_
    refine v_bipush (v := 7) (C.wl _ _) dL_law_819 (by decide) ?_
    refine v_callX (n := 2) (k := 30) (as := [.int (nI p), .int 7]) (C.wl _ _) hW9.S (x_told _ hP9 (Z.wl ad m) (nI p) 7 (setG s p a) g808 hE1.1.1 hE1.1.2.1 hRl808) (gv (tg2 47 rfl rfl) (tg2 48 rfl rfl) (tg2 49 rfl rfl) (tg1 1 rfl rfl) (tg2 50 rfl rfl)) (by decide +kernel) ⟨Nat.le_of_ble_eq_true rfl, Nat.le_of_ble_eq_true rfl⟩ rfl cx_T rfl rfl (Nat.le_of_ble_eq_true rfl) dL_law_821 ⟨(by show c + 1 + 1 + 1 + 1 ≤ 600130; omega), (by show s0 + 6 + 6 + 6 + 6 ≤ 7301080; omega)⟩ (fun E q g821 hp821 => absurd (cdT_0 hE1.1.1 hp1 (v := 7) (by decide)) hp821.1) (fun r821 g821 hp821 => ?_)
    obtain ⟨-, hr821, hRl821, hK821⟩ := hp821
    refine v_topi (y := prP s p) (hr821.trans ((congrArg (fun q => toldO (setG s p a) q 7) (iz_nI (show p < 2147483648 by omega))).trans (prO_set hI hp hpl))) ?_
    refine v_iload (C.wl _ _) dL_law_824 rfl ?_
    refine v_icmp_ne (tgt := 851) (C.wl _ _) dL_law_826 (by decide) (fun h826 => ?_) (fun h826 => ?_)
    · exact absurd rfl h826
    · refine v_aload_n (C.wl _ _) dL_law_829 rfl rfl ?_
      refine v_iload (C.wl _ _) dL_law_830 rfl ?_
      refine v_iconst (v := 4) (C.wl _ _) dL_law_832 (by decide) ?_
      refine v_callX (n := 2) (k := 30) (as := [.int (nI p), .int 4]) (C.wl _ _) hW9.S (x_told _ hP9 (Z.wl ad m) (nI p) 4 (setG s p a) g821 hE1.1.1 hE1.1.2.1 hRl821) (gv (tg2 47 rfl rfl) (tg2 48 rfl rfl) (tg2 49 rfl rfl) (tg1 1 rfl rfl) (tg2 50 rfl rfl)) (by decide +kernel) ⟨Nat.le_of_ble_eq_true rfl, Nat.le_of_ble_eq_true rfl⟩ rfl cx_T rfl rfl (Nat.le_of_ble_eq_true rfl) dL_law_833 ⟨(by show c + 1 + 1 + 1 + 1 + 1 ≤ 600130; omega), (by show s0 + 6 + 6 + 6 + 6 + 6 ≤ 7301080; omega)⟩ (fun E q g833 hp833 => absurd (cdT_0 hE1.1.1 hp1 (v := 4) (by decide)) hp833.1) (fun r833 g833 hp833 => ?_)
      obtain ⟨-, hr833, hRl833, hK833⟩ := hp833
      refine v_topi (y := 1) (hr833.trans ((congrArg (fun q => toldO (setG s p a) q 4) (iz_nI (show p < 2147483648 by omega))).trans h151)) ?_
      refine v_iconst (v := 1) (C.wl _ _) dL_law_836 (by decide) ?_
      refine v_icmp_ne (tgt := 851) (C.wl _ _) dL_law_837 (by decide) (fun h837 => ?_) (fun h837 => ?_)
      · exact absurd rfl h837
      · refine v_aload_n (C.wl _ _) dL_law_840 rfl rfl ?_
        refine v_iload (C.wl _ _) dL_law_841 rfl ?_
        refine l_callVi (n := 1) (k := 600) (as := [.int (nI p)]) C hW9 (l_set _ Z ad s m g833 p hF hI hR hp) (gv (tg2 155 rfl rfl) (tg2 156 rfl rfl) (tg2 157 rfl rfl) (tg1 6 rfl rfl) (tg2 158 rfl rfl)) (by decide +kernel) ⟨Nat.le_of_ble_eq_true rfl, Nat.le_of_ble_eq_true rfl⟩ rfl (by decide) (cW_6 hR.1.1) rfl rfl (Nat.le_of_ble_eq_true rfl) dL_law_843 ⟨(by show c + 1 + 1 + 1 + 1 + 1 + 60 ≤ 600130; omega), (by show s0 + 6 + 6 + 6 + 6 + 6 + 600 ≤ 7301080; omega)⟩ (fun r843 ad843 m843 gg843 hp843 => ?_)
        obtain ⟨rfl, ea843, hS843, hF843, eg843⟩ := hp843
        rw [eg843]
        rw [hs1] at hS843
        refine v_lo (lo' := [some (.ref S.1), some (.ref (ad843 30)), some (.ref (ad843 600)), some (.int (s 0 3)), some (.int (s 0 4)), some (.int (nI time)), some (.int x6), v7, v8, some (.int (nI (nfO s))), v10, v11, v12, some (.int (sumI (s 6) (10 * nfO s))), some (.int (sumI (s 7) (10 * nfO s))), some (.int (nI p)), some (.int (prP s p)), some (.int (wdF (plO s p))), v18, v19, v20, v21, v22, v23]) (by rw [ea843 600 (by decide), ea843 30 (by decide)]) ?_
        refine v_iload (C.wl _ _) dL_law_846 rfl ?_
        refine v_icmp_eq (tgt := 853) (C.wl _ _) dL_law_848 (by decide) (fun h848 => ?_) (fun h848 => ?_)
        · refine v_iload (C.wl _ _) dL_law_853 rfl ?_
          refine v_iconst (v := 5) (C.wl _ _) dL_law_855 (by decide) ?_
          refine v_ishr (C.wl _ _) dL_law_856 ?_
          refine v_iconst (v := 2) (C.wl _ _) dL_law_857 (by decide) ?_
          refine v_callSi (n := 2) (as := [.int (x6 >>> (5 &&& 31)), .int (nI 2)]) (C.wl _ _) (l_below _ Z ad843 m843 (x6 >>> (5 &&& 31)) 2 ⟨by omega, by omega⟩ g833) (gs (tg3 17 rfl rfl) (tg3 18 rfl rfl) (tg1 0 rfl rfl) (tg3 19 rfl rfl)) (by decide +kernel) ⟨Nat.le_of_ble_eq_true rfl, Nat.le_of_ble_eq_true rfl⟩ rfl rfl (Nat.le_of_ble_eq_true rfl) dL_law_858 ⟨(by show c + 1 + 1 + 1 + 1 + 1 + 60 + 0 ≤ 600130; omega), (by show s0 + 6 + 6 + 6 + 6 + 6 + 600 + 0 ≤ 7301080; omega)⟩ (fun r858 gg858 hp858 => ?_)
          obtain ⟨hr858, hgg858⟩ := hp858
          rw [hr858, hgg858]
          have bb : bwN (x6 >>> (5 &&& 31)) 2 < 2 := bwN_lt _ (by omega)
          generalize bwN (x6 >>> (5 &&& 31)) 2 = b at bb ⊢
          refine v_if_ne (tgt := 867) (C.wl _ _) dL_law_861 (by decide) (fun h861 => ?_) (fun h861 => ?_)
          · have hcd := cdSt_0 hE1.1.1 hp1 h151
            have hE2 := (LE_strike hE1 (by omega) (nI p)).1
            have hMo2 := (LE_strike hE1 (by omega) (nI p)).2
            have hso := stk_out hE hp hpl hcd hE2
            obtain ⟨r1, -, r0, -⟩ := stk_r (by omega) hcd
            have hwr : ∀ x, x < 50 → ¬ stStrike (setG s p a) (nI p) 6 x - stStrike (setG s p a) (nI p) 7 x ≤ 0 → stStrike (setG s p a) (nI p) 8 x < 400 := fun x hx h => stk_wear (by omega) hE1.1.2.2.2.2 hcd (Or.inr trivial) hx h
            have enf : nfO (stStrike (setG s p a) (nI p)) = nfO s := congrArg iz ((r0 1).trans ((if_neg (by decide)).trans (congrFun e10 1)))
            have enp : npO (stStrike (setG s p a) (nI p)) = npO s := congrArg iz ((r0 2).trans ((if_neg (by decide)).trans (congrFun e10 2)))
            have e67 := ct_eq hI hE.1.2.2.1 (k := 6) (by decide)
            have e65 := ct_eq hI hE.1.2.2.1 (k := 5) (by decide)
            refine v_aload_n (C.wl _ _) dL_law_867 rfl rfl ?_
            refine v_iload (C.wl _ _) dL_law_868 rfl ?_
            refine v_callX (n := 1) (k := 30) (as := [.int (nI p)]) (C.wl _ _) hW9.S (x_strike _ hP9 (Z.wl ad843 m843) (nI p) (setG s p a) g833 hE1.1.1 hE1.1.2.1 hE1.1.2.2.1 hRl833) (gv (tg2 18 rfl rfl) (tg2 19 rfl rfl) (tg2 20 rfl rfl) (tg1 1 rfl rfl) (tg2 21 rfl rfl)) (by decide +kernel) ⟨Nat.le_of_ble_eq_true rfl, Nat.le_of_ble_eq_true rfl⟩ rfl cx_T rfl rfl (Nat.le_of_ble_eq_true rfl) dL_law_870 ⟨(by show c + 1 + 1 + 1 + 1 + 1 + 60 + 1 ≤ 600130; omega), (by show s0 + 6 + 6 + 6 + 6 + 6 + 600 + 6 ≤ 7301080; omega)⟩ (fun E q g870 hp870 => absurd hcd hp870.1) (fun r870 g870 hp870 => ?_)
            obtain ⟨-, hr870, hRl870, hK870⟩ := hp870
            refine v_topi (y := sumI (brO (setG s p a) p) 50) (hr870.trans (congrArg (fun q => sumI (brO (setG s p a) q) 50) (iz_nI (show p < 2147483648 by omega)))) ?_
            refine v_istore (lo' := [some (.ref S.1), some (.ref (ad843 30)), some (.ref (ad843 600)), some (.int (s 0 3)), some (.int (s 0 4)), some (.int (nI time)), some (.int x6), v7, v8, some (.int (nI (nfO s))), v10, v11, v12, some (.int (sumI (s 6) (10 * nfO s))), some (.int (sumI (s 7) (10 * nfO s))), some (.int (nI p)), some (.int (prP s p)), some (.int (wdF (plO s p))), some (.int (sumI (brO (setG s p a) p) 50)), v19, v20, v21, v22, v23]) (C.wl _ _) dL_law_873 (Nat.le_of_ble_eq_true rfl) rfl rfl ?_
            refine v_aload_n (C.wl _ _) dL_law_875 rfl rfl ?_
            refine v_iload (C.wl _ _) dL_law_876 rfl ?_
            refine l_callVi (n := 1) (k := 600) (as := [.int (nI p)]) C hW9 (l_strike _ Z ad843 (setG s p a) m843 g870 (N + 1) p hE1.1.1 hE1.1.2.1 hS843 hp1 h151 hE1.1.2.2.1 hE1.1.2.2.2.2) (gv (tg2 232 rfl rfl) (tg2 233 rfl rfl) (tg2 234 rfl rfl) (tg1 6 rfl rfl) (tg2 235 rfl rfl)) (by decide +kernel) ⟨Nat.le_of_ble_eq_true rfl, Nat.le_of_ble_eq_true rfl⟩ rfl (by decide) (cW_6 hS843.1.1) rfl rfl (Nat.le_of_ble_eq_true rfl) dL_law_878 ⟨(by show c + 1 + 1 + 1 + 1 + 1 + 60 + 1 + 0 ≤ 600130; omega), (by show s0 + 6 + 6 + 6 + 6 + 6 + 600 + 6 + 0 ≤ 7301080; omega)⟩ (fun r878 ad878 m878 gg878 hp878 => ?_)
            obtain ⟨rfl, ea878, hS878, -, eg878⟩ := hp878
            rw [eg878, ea878]
            refine l_clean hE2.1.1 hS878 (fun ad9 m9 hA9 hS9 hF9 => ?_)
            clear hS878
            refine v_lo (lo' := [some (.ref S.1), some (.ref (ad9 30)), some (.ref (ad9 600)), some (.int (s 0 3)), some (.int (s 0 4)), some (.int (nI time)), some (.int x6), v7, v8, some (.int (nI (nfO s))), v10, v11, v12, some (.int (sumI (s 6) (10 * nfO s))), some (.int (sumI (s 7) (10 * nfO s))), some (.int (nI p)), some (.int (prP s p)), some (.int (wdF (plO s p))), some (.int (sumI (brO (setG s p a) p) 50)), v19, v20, v21, v22, v23]) (by rw [hA9 30, hA9 600]) ?_
            refine v_iload (C.wl _ _) dL_law_881 rfl ?_
            refine v_icmp_ne (tgt := 923) (C.wl _ _) dL_law_883 (by decide) (fun h883 => ?_) (fun h883 => ?_)
            · exact absurd rfl h883
            · refine v_aload_n (C.wl _ _) dL_law_886 rfl rfl ?_
              refine v_bipush (v := 6) (C.wl _ _) dL_law_887 (by decide) ?_
              refine v_callX (n := 1) (k := 30) (as := [.int 6]) (C.wl _ _) hW9.S (x_count _ hP9 (Z.wl ad9 m9) 6 (stStrike (setG s p a) (nI p)) g870 hE2.1.1 hE2.1.2.2.1 hRl870) (gv (tg2 88 rfl rfl) (tg2 89 rfl rfl) (tg2 90 rfl rfl) (tg1 1 rfl rfl) (tg2 91 rfl rfl)) (by decide +kernel) ⟨Nat.le_of_ble_eq_true rfl, Nat.le_of_ble_eq_true rfl⟩ rfl cx_T rfl rfl (Nat.le_of_ble_eq_true rfl) dL_law_889 ⟨(by show c + 1 + 1 + 1 + 1 + 1 + 60 + 1 + 0 + 1 ≤ 600130; omega), (by show s0 + 6 + 6 + 6 + 6 + 6 + 600 + 6 + 0 + 6 ≤ 7301080; omega)⟩ (fun E q g889 hp889 => absurd (cdC_0 (v := 6) (by decide)) hp889.1) (fun r889 g889 hp889 => ?_)
              obtain ⟨-, hr889, hRl889, hK889⟩ := hp889
              refine v_topi (y := sumI (s 7) (10 * nfO s)) (hr889.trans ((congrArg (ctO (stStrike (setG s p a) (nI p))) (show iz 6 = 6 from rfl)).trans ((show sumI (stStrike (setG s p a) (nI p) 7) 50 = sumI (s 7) 50 from sumI_cong 50 hso).trans e67))) ?_
              refine v_iload (C.wl _ _) dL_law_892 rfl ?_
              refine v_icmp_ne (tgt := 923) (C.wl _ _) dL_law_894 (by decide) (fun h894 => ?_) (fun h894 => ?_)
              · exact absurd rfl h894
              · refine v_aload_n (C.wl _ _) dL_law_897 rfl rfl ?_
                refine v_iconst (v := 5) (C.wl _ _) dL_law_898 (by decide) ?_
                refine v_callX (n := 1) (k := 30) (as := [.int 5]) (C.wl _ _) hW9.S (x_count _ hP9 (Z.wl ad9 m9) 5 (stStrike (setG s p a) (nI p)) g889 hE2.1.1 hE2.1.2.2.1 hRl889) (gv (tg2 88 rfl rfl) (tg2 89 rfl rfl) (tg2 90 rfl rfl) (tg1 1 rfl rfl) (tg2 91 rfl rfl)) (by decide +kernel) ⟨Nat.le_of_ble_eq_true rfl, Nat.le_of_ble_eq_true rfl⟩ rfl cx_T rfl rfl (Nat.le_of_ble_eq_true rfl) dL_law_899 ⟨(by show c + 1 + 1 + 1 + 1 + 1 + 60 + 1 + 0 + 1 + 1 ≤ 600130; omega), (by show s0 + 6 + 6 + 6 + 6 + 6 + 600 + 6 + 0 + 6 + 6 ≤ 7301080; omega)⟩ (fun E q g899 hp899 => absurd (cdC_0 (v := 5) (by decide)) hp899.1) (fun r899 g899 hp899 => ?_)
                obtain ⟨-, hr899, hRl899, hK899⟩ := hp899
                refine v_topi (y := sumI (s 6) (10 * nfO s) - sumI (brO (setG s p a) p) 50) (hr899.trans ((congrArg (ctO (stStrike (setG s p a) (nI p))) (show iz 5 = 5 from rfl)).trans ((show sumI (stStrike (setG s p a) (nI p) 6) 50 = sumI (fun x => setG s p a 6 x - brO (setG s p a) p x) 50 from sumI_cong 50 (fun x hx => (r1 x hx).2.1)).trans (sum_br.trans (by rw [e16]; exact congrArg (fun q => q - sumI (brO (setG s p a) p) 50) e65))))) ?_
                refine v_iload (C.wl _ _) dL_law_902 rfl ?_
                refine v_iload (C.wl _ _) dL_law_904 rfl ?_
                refine v_isub (C.wl _ _) dL_law_906 ?_
                refine v_icmp_ne (tgt := 923) (C.wl _ _) dL_law_907 (by decide) (fun h907 => ?_) (fun h907 => ?_)
                · exact absurd rfl h907
                · refine v_aload_n (C.wl _ _) dL_law_910 rfl rfl ?_
                  refine v_iconst (v := 4) (C.wl _ _) dL_law_911 (by decide) ?_
                  refine v_callX (n := 1) (k := 30) (as := [.int 4]) (C.wl _ _) hW9.S (x_count _ hP9 (Z.wl ad9 m9) 4 (stStrike (setG s p a) (nI p)) g899 hE2.1.1 hE2.1.2.2.1 hRl899) (gv (tg2 88 rfl rfl) (tg2 89 rfl rfl) (tg2 90 rfl rfl) (tg1 1 rfl rfl) (tg2 91 rfl rfl)) (by decide +kernel) ⟨Nat.le_of_ble_eq_true rfl, Nat.le_of_ble_eq_true rfl⟩ rfl cx_T rfl rfl (Nat.le_of_ble_eq_true rfl) dL_law_912 ⟨(by show c + 1 + 1 + 1 + 1 + 1 + 60 + 1 + 0 + 1 + 1 + 1 ≤ 600130; omega), (by show s0 + 6 + 6 + 6 + 6 + 6 + 600 + 6 + 0 + 6 + 6 + 6 ≤ 7301080; omega)⟩ (fun E q g912 hp912 => absurd (cdC_0 (v := 4) (by decide)) hp912.1) (fun r912 g912 hp912 => ?_)
                  obtain ⟨-, hr912, hRl912, hK912⟩ := hp912
                  refine v_topi (y := s 0 4 + sumI (brO (setG s p a) p) 50) (hr912.trans ((congrArg (ctO (stStrike (setG s p a) (nI p))) (show iz 4 = 4 from rfl)).trans ((r0 4).trans ((if_pos rfl).trans (congrArg (fun q => q + sumI (brO (setG s p a) p) 50) (congrFun e10 4)))))) ?_
                  refine v_iload (C.wl _ _) dL_law_915 rfl ?_
                  refine v_iload (C.wl _ _) dL_law_917 rfl ?_
                  refine v_iadd (C.wl _ _) dL_law_919 ?_
                  refine v_icmp_eq (tgt := 925) (C.wl _ _) dL_law_920 (by decide) (fun h920 => ?_) (fun h920 => ?_)
                  · refine v_iconst (v := 0) (C.wl _ _) dL_law_925 (by decide) ?_
                    refine v_istore (lo' := [some (.ref S.1), some (.ref (ad9 30)), some (.ref (ad9 600)), some (.int (s 0 3)), some (.int (s 0 4)), some (.int (nI time)), some (.int x6), v7, v8, some (.int (nI (nfO s))), v10, v11, v12, some (.int (sumI (s 6) (10 * nfO s))), some (.int (sumI (s 7) (10 * nfO s))), some (.int (nI p)), some (.int (prP s p)), some (.int (wdF (plO s p))), some (.int (sumI (brO (setG s p a) p) 50)), some (.int 0), v20, v21, v22, v23]) (C.wl _ _) dL_law_926 (Nat.le_of_ble_eq_true rfl) rfl rfl ?_
                    refine v_lo (lo' := [some (.ref S.1), some (.ref (ad9 30)), some (.ref (ad9 600)), some (.int (s 0 3)), some (.int (s 0 4)), some (.int (nI time)), some (.int x6), v7, v8, some (.int (nI (nfO s))), v10, v11, v12, some (.int (sumI (s 6) (10 * nfO s))), some (.int (sumI (s 7) (10 * nfO s))), some (.int (nI p)), some (.int (prP s p)), some (.int (wdF (plO s p))), some (.int (sumI (brO (setG s p a) p) 50)), some (.int (nI 0)), v20, v21, v22, v23]) rfl ?_
                    refine v_lo (lo' := [some (.ref S.1), some (.ref (ad9 30)), some (.ref (ad9 600)), some (.int (s 0 3)), some (.int (s 0 4)), some (.int (nI time)), some (.int x6), v7, v8, some (.int (nI (nfO (stStrike (setG s p a) (nI p))))), v10, v11, v12, some (.int (sumI (s 6) (10 * nfO s))), some (.int (sumI (s 7) (10 * nfO s))), some (.int (nI p)), some (.int (prP s p)), some (.int (wdF (plO s p))), some (.int (sumI (brO (setG s p a) p) 50)), some (.int (nI 0)), v20, v21, v22, v23]) (by rw [enf]) ?_
                    refine v_wide (k := c + 75 + 20 * 0) (n := s0 + 720 + 120 * 0) (by show c + 1 + 1 + 1 + 1 + 1 + 60 + 1 + 0 + 1 + 1 + 1 ≤ c + 75 + 20 * 0; omega) (by show s0 + 6 + 6 + 6 + 6 + 6 + 600 + 6 + 0 + 6 + 6 + 6 ≤ s0 + 720 + 120 * 0; omega) ?_
                    refine law_J (s := stStrike (setG s p a) (nI p)) (c := c + 75) (s0 := s0 + 720) hP9 C hW9 hE2 ⟨by omega, by omega⟩ hwr (fun g2 u20 u21 u22 u23 hRl2 => ?_) _ 0 g912 _ _ _ _ (Nat.lt_succ_self _) (Nat.zero_le _) hRl912
                    refine v_wide (k := c + 200) (n := s0 + 1500) (by omega) (by omega) ?_
                    exact K ad9 m9 g2 _ _ _ _ _ _ _ _ _ _ _ _ _ _ _ _ _ _ ⟨⟨(hA9 30).trans (ea843 30 (by decide)), (hA9 600).trans (ea843 600 (by decide))⟩, _, hE2, hMo1.trans hMo2, hS9, hF9, hRl2, by rw [enf]; exact Nat.le_refl _, by rw [enp]; exact Nat.le_refl _⟩
                  · exact absurd rfl h920
          · refine v_goto (tgt := 986) (C.wl _ _) dL_law_864 (by decide) ?_
            refine v_wide (k := c + 200) (n := s0 + 1500) (by show c + 1 + 1 + 1 + 1 + 1 + 60 ≤ c + 200; omega) (by show s0 + 6 + 6 + 6 + 6 + 6 + 600 ≤ s0 + 1500; omega) ?_
            exact K ad843 m843 g833 _ _ _ _ _ _ _ _ _ _ _ _ _ _ _ _ _ _ ⟨⟨ea843 30 (by decide), ea843 600 (by decide)⟩, setG s p a, (LE.rf hE1 (by omega)).1, hMo1, hS843, hF843, hRl833, by unfold nfO; rw [e10]; exact Nat.le_refl _, by unfold npO; rw [e10]; exact Nat.le_refl _⟩
        · exact absurd rfl h848
