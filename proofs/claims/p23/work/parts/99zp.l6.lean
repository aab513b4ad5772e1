/-! THE LAW: one turn's checks -/
theorem OutI.new {m : MG} {nf : Nat} (h5 : nf ≤ 5) : OutI m (m2M m 900 nf 10) nf (fun _ => 0) := by
  have d0 : ∀ k, k < 900 → m2M m 900 nf 10 k = m k := fun k hk => by unfold m2M mM; rw [rwr_ne _ _ _ (by omega), if_neg (by omega)]
  have d1 : ∀ f, f < nf → m2M m 900 nf 10 (900 + f) = rN 1 10 := fun f hf => by unfold m2M mM; rw [rwr_ne _ _ _ (by omega), if_pos (by omega)]
  have d2 : m2M m 900 nf 10 (900 + nf) = rO 900 nf := by unfold m2M; rw [rwr_same]
  refine ⟨fun k _ k2 => d0 k k2, ⟨?_, fun f hf => ?_⟩, fun f hf => ⟨?_, fun k hk => ?_⟩⟩
  · unfold isQ; rw [d2]; exact ⟨rfl, rfl⟩
  · rw [d2]; unfold rO; rw [if_neg (by omega), if_neg (by omega), if_pos hf]
  · unfold isA; rw [d1 f hf]; exact ⟨rfl, rfl⟩
  · rw [d1 f hf]; unfold rN; rw [if_neg (by omega), if_neg (by omega)]
set_option maxRecDepth 100000 in
theorem law_turn {P : Pm} {Z : Zc} {S : Sc} {ad : Nat → Nat} {s m : MG} {N : Nat} {co br x6 : Int32} {time : Nat} {k7 : Int32} {v8 v9 v10 v11 v12 v13 v14 v15 v16 v17 v18 v19 v20 v21 v22 v23 : Option Value} (hP9 : P.2.1.stackTraces = false) (C : Cx P Z cL_law "PosterTypesLaw") (hW9 : CxW P Z) (hE : LE N s) (hR0 : SimR s m) (hF : Fr m 900) (hN : N + 2 ≤ 2048) (hco : co.toInt ≤ (s 0 3).toInt) (hbr : br.toInt ≤ (s 0 4).toInt) {c s0 : Nat} (hc : c + 700 ≤ 600130 ∧ s0 + 4500 ≤ 7301080)
    (K : ∀ (ad2 : Nat → Nat) (m2 g2 : MG) (u6 u7 u8 u9 u10 u11 u12 u13 u14 u15 u16 u17 u18 u19 u20 u21 u22 u23 : Option Value), TurnP ad N s ad2 m2 g2 → V P room_1 (Z.wl ad2 m2) [some (.ref S.1), some (.ref (ad2 30)), some (.ref (ad2 600)), some (.int (s 0 3)), some (.int (s 0 4)), some (.int (nI time)), u6, u7, u8, u9, u10, u11, u12, u13, u14, u15, u16, u17, u18, u19, u20, u21, u22, u23] 986 [] g2 (c + 700) (s0 + 4500))
    (g : MG) (hRl : Rl s g) : V P room_1 (Z.wl ad m) [some (.ref S.1), some (.ref (ad 30)), some (.ref (ad 600)), some (.int co), some (.int br), some (.int (nI time)), some (.int x6), some (.int k7), v8, v9, v10, v11, v12, v13, v14, v15, v16, v17, v18, v19, v20, v21, v22, v23] 89 [] g (c) (s0) := by
  have hI := hE.1.1
  have hf5 := (IvM_nf hI).1
  have hp6 := (IvM_np hI).1
  refine v_aload_n (C.wl _ _) dL_law_89 rfl rfl ?_
  refine v_iconst (v := 3) (C.wl _ _) dL_law_90 (by decide) ?_
  refine v_callX (n := 1) (k := 30) (as := [.int 3]) (C.wl _ _) hW9.S (x_count _ hP9 (Z.wl ad m) 3 s g hE.1.1 hE.1.2.2.1 hRl) (gv (tg2 88 rfl rfl) (tg2 89 rfl rfl) (tg2 90 rfl rfl) (tg1 1 rfl rfl) (tg2 91 rfl rfl)) (by decide +kernel) ⟨Nat.le_of_ble_eq_true rfl, Nat.le_of_ble_eq_true rfl⟩ rfl cx_T rfl rfl (Nat.le_of_ble_eq_true rfl) dL_law_91 ⟨(by show c + 1 ≤ 600130; omega), (by show s0 + 6 ≤ 7301080; omega)⟩ (fun E q g91 hp91 => absurd (cdC_0 (v := 3) (by decide)) hp91.1) (fun r91 g91 hp91 => ?_)
  obtain ⟨-, hr91, hRl91, hK91⟩ := hp91
  refine v_topi (y := s 0 3) (hr91.trans ((congrArg (ctO s) (show iz 3 = 3 from rfl)).trans (ct_eq hI hE.1.2.2.1 (by decide)))) ?_
  refine v_iload_n (C.wl _ _) dL_law_94 rfl rfl ?_
  refine v_icmp_lt (tgt := 108) (C.wl _ _) dL_law_95 (by decide) (fun h95 => ?_) (fun h95 => ?_)
  · exact absurd ((i_lt _ _).mp h95) (by omega)
  · refine v_aload_n (C.wl _ _) dL_law_98 rfl rfl ?_
    refine v_iconst (v := 4) (C.wl _ _) dL_law_99 (by decide) ?_
    refine v_callX (n := 1) (k := 30) (as := [.int 4]) (C.wl _ _) hW9.S (x_count _ hP9 (Z.wl ad m) 4 s g91 hE.1.1 hE.1.2.2.1 hRl91) (gv (tg2 88 rfl rfl) (tg2 89 rfl rfl) (tg2 90 rfl rfl) (tg1 1 rfl rfl) (tg2 91 rfl rfl)) (by decide +kernel) ⟨Nat.le_of_ble_eq_true rfl, Nat.le_of_ble_eq_true rfl⟩ rfl cx_T rfl rfl (Nat.le_of_ble_eq_true rfl) dL_law_100 ⟨(by show c + 1 + 1 ≤ 600130; omega), (by show s0 + 6 + 6 ≤ 7301080; omega)⟩ (fun E q g100 hp100 => absurd (cdC_0 (v := 4) (by decide)) hp100.1) (fun r100 g100 hp100 => ?_)
    obtain ⟨-, hr100, hRl100, hK100⟩ := hp100
    refine v_topi (y := s 0 4) (hr100.trans ((congrArg (ctO s) (show iz 4 = 4 from rfl)).trans (ct_eq hI hE.1.2.2.1 (by decide)))) ?_
    refine v_iload (C.wl _ _) dL_law_103 rfl ?_
    refine v_icmp_ge (tgt := 110) (C.wl _ _) dL_law_105 (by decide) (fun h105 => ?_) (fun h105 => ?_)
    · refine v_aload_n (C.wl _ _) dL_law_110 rfl rfl ?_
      refine v_iconst (v := 3) (C.wl _ _) dL_law_111 (by decide) ?_
      refine v_callX (n := 1) (k := 30) (as := [.int 3]) (C.wl _ _) hW9.S (x_count _ hP9 (Z.wl ad m) 3 s g100 hE.1.1 hE.1.2.2.1 hRl100) (gv (tg2 88 rfl rfl) (tg2 89 rfl rfl) (tg2 90 rfl rfl) (tg1 1 rfl rfl) (tg2 91 rfl rfl)) (by decide +kernel) ⟨Nat.le_of_ble_eq_true rfl, Nat.le_of_ble_eq_true rfl⟩ rfl cx_T rfl rfl (Nat.le_of_ble_eq_true rfl) dL_law_112 ⟨(by show c + 1 + 1 + 1 ≤ 600130; omega), (by show s0 + 6 + 6 + 6 ≤ 7301080; omega)⟩ (fun E q g112 hp112 => absurd (cdC_0 (v := 3) (by decide)) hp112.1) (fun r112 g112 hp112 => ?_)
      obtain ⟨-, hr112, hRl112, hK112⟩ := hp112
      refine v_topi (y := s 0 3) (hr112.trans ((congrArg (ctO s) (show iz 3 = 3 from rfl)).trans (ct_eq hI hE.1.2.2.1 (by decide)))) ?_
      refine v_istore_n (lo' := [some (.ref S.1), some (.ref (ad 30)), some (.ref (ad 600)), some (.int (s 0 3)), some (.int br), some (.int (nI time)), some (.int x6), some (.int k7), v8, v9, v10, v11, v12, v13, v14, v15, v16, v17, v18, v19, v20, v21, v22, v23]) (C.wl _ _) dL_law_115 rfl (Nat.le_of_ble_eq_true rfl) rfl rfl ?_
      refine v_aload_n (C.wl _ _) dL_law_116 rfl rfl ?_
      refine v_iconst (v := 4) (C.wl _ _) dL_law_117 (by decide) ?_
      refine v_callX (n := 1) (k := 30) (as := [.int 4]) (C.wl _ _) hW9.S (x_count _ hP9 (Z.wl ad m) 4 s g112 hE.1.1 hE.1.2.2.1 hRl112) (gv (tg2 88 rfl rfl) (tg2 89 rfl rfl) (tg2 90 rfl rfl) (tg1 1 rfl rfl) (tg2 91 rfl rfl)) (by decide +kernel) ⟨Nat.le_of_ble_eq_true rfl, Nat.le_of_ble_eq_true rfl⟩ rfl cx_T rfl rfl (Nat.le_of_ble_eq_true rfl) dL_law_118 ⟨(by show c + 1 + 1 + 1 + 1 ≤ 600130; omega), (by show s0 + 6 + 6 + 6 + 6 ≤ 7301080; omega)⟩ (fun E q g118 hp118 => absurd (cdC_0 (v := 4) (by decide)) hp118.1) (fun r118 g118 hp118 => ?_)
      obtain ⟨-, hr118, hRl118, hK118⟩ := hp118
      refine v_topi (y := s 0 4) (hr118.trans ((congrArg (ctO s) (show iz 4 = 4 from rfl)).trans (ct_eq hI hE.1.2.2.1 (by decide)))) ?_
      refine v_istore (lo' := [some (.ref S.1), some (.ref (ad 30)), some (.ref (ad 600)), some (.int (s 0 3)), some (.int (s 0 4)), some (.int (nI time)), some (.int x6), some (.int k7), v8, v9, v10, v11, v12, v13, v14, v15, v16, v17, v18, v19, v20, v21, v22, v23]) (C.wl _ _) dL_law_121 (Nat.le_of_ble_eq_true rfl) rfl rfl ?_
      refine v_aload_n (C.wl _ _) dL_law_123 rfl rfl ?_
      refine v_callVl (n := 0) (k := 30) (as := []) (C.wl _ _) (m_digest _ (Z.wl ad m) s g118 hI hE.1.2.1 hRl118 hE.1.2.2.1) (gv (tg2 134 rfl rfl) (tg2 135 rfl rfl) (tg2 136 rfl rfl) (tg1 1 rfl rfl) (tg2 137 rfl rfl)) (by decide +kernel) ⟨Nat.le_of_ble_eq_true rfl, Nat.le_of_ble_eq_true rfl⟩ rfl cx_T rfl rfl (Nat.le_of_ble_eq_true rfl) dL_law_124 ⟨(by show c + 1 + 1 + 1 + 1 + 0 ≤ 600130; omega), (by show s0 + 6 + 6 + 6 + 6 + 0 ≤ 7301080; omega)⟩ (fun r124 g124 hp124 => ?_)
      obtain ⟨hr124, hg124⟩ := hp124
      rw [hr124, hg124]
      refine v_lstore (lo' := [some (.ref S.1), some (.ref (ad 30)), some (.ref (ad 600)), some (.int (s 0 3)), some (.int (s 0 4)), some (.int (nI time)), some (.int x6), some (.long (dgO s)), none, v9, v10, v11, v12, v13, v14, v15, v16, v17, v18, v19, v20, v21, v22, v23]) (C.wl _ _) dL_law_127 (Nat.le_of_ble_eq_true rfl) rfl rfl ?_
      refine v_aload_n (C.wl _ _) dL_law_129 rfl rfl ?_
      refine v_iconst (v := 0) (C.wl _ _) dL_law_130 (by decide) ?_
      refine v_callX (n := 1) (k := 30) (as := [.int 0]) (C.wl _ _) hW9.S (x_count _ hP9 (Z.wl ad m) 0 s g118 hE.1.1 hE.1.2.2.1 hRl118) (gv (tg2 88 rfl rfl) (tg2 89 rfl rfl) (tg2 90 rfl rfl) (tg1 1 rfl rfl) (tg2 91 rfl rfl)) (by decide +kernel) ⟨Nat.le_of_ble_eq_true rfl, Nat.le_of_ble_eq_true rfl⟩ rfl cx_T rfl rfl (Nat.le_of_ble_eq_true rfl) dL_law_131 ⟨(by show c + 1 + 1 + 1 + 1 + 1 ≤ 600130; omega), (by show s0 + 6 + 6 + 6 + 6 + 6 ≤ 7301080; omega)⟩ (fun E q g131 hp131 => absurd (cdC_0 (v := 0) (by decide)) hp131.1) (fun r131 g131 hp131 => ?_)
      obtain ⟨-, hr131, hRl131, hK131⟩ := hp131
      refine v_topi (y := nI (nfO s)) (hr131.trans ((congrArg (ctO s) (show iz 0 = 0 from rfl)).trans (ct_eq hI hE.1.2.2.1 (by decide)))) ?_
      refine v_istore (lo' := [some (.ref S.1), some (.ref (ad 30)), some (.ref (ad 600)), some (.int (s 0 3)), some (.int (s 0 4)), some (.int (nI time)), some (.int x6), some (.long (dgO s)), none, some (.int (nI (nfO s))), v10, v11, v12, v13, v14, v15, v16, v17, v18, v19, v20, v21, v22, v23]) (C.wl _ _) dL_law_134 (Nat.le_of_ble_eq_true rfl) rfl rfl ?_
      refine v_iload (C.wl _ _) dL_law_136 rfl ?_
      refine v_bipush (v := 10) (C.wl _ _) dL_law_138 (by decide) ?_
      refine l_multi2 (T := 900) (N := nfO s) (K := 10) C hW9.L hF (by omega) (by decide) (tg5 72 rfl rfl) (by show c + 1 + 1 + 1 + 1 + 1 + (1 + nfO s) ≤ 600130; omega) (by show s0 + 6 + 6 + 6 + 6 + 6 + (nfO s + nfO s * 10) ≤ 7301080; omega) dL_law_140 (fun ad140 hA140 => ?_)
      have hO0 := OutI.new (m := m) hf5
      generalize m2M m 900 (nfO s) 10 = m0 at hO0 ⊢
      refine v_lo (lo' := [some (.ref S.1), some (.ref (ad140 30)), some (.ref (ad140 600)), some (.int (s 0 3)), some (.int (s 0 4)), some (.int (nI time)), some (.int x6), some (.long (dgO s)), none, some (.int (nI (nfO s))), v10, v11, v12, v13, v14, v15, v16, v17, v18, v19, v20, v21, v22, v23]) (by rw [hA140 30 (by decide), hA140 600 (by decide)]) ?_
      refine v_astore (lo' := [some (.ref S.1), some (.ref (ad140 30)), some (.ref (ad140 600)), some (.int (s 0 3)), some (.int (s 0 4)), some (.int (nI time)), some (.int x6), some (.long (dgO s)), none, some (.int (nI (nfO s))), some (.ref (ad140 (900 + nfO s))), v11, v12, v13, v14, v15, v16, v17, v18, v19, v20, v21, v22, v23]) (C.wl _ _) dL_law_144 (Nat.le_of_ble_eq_true rfl) rfl rfl ?_
      refine v_iconst (v := 0) (C.wl _ _) dL_law_146 (by decide) ?_
      refine v_istore (lo' := [some (.ref S.1), some (.ref (ad140 30)), some (.ref (ad140 600)), some (.int (s 0 3)), some (.int (s 0 4)), some (.int (nI time)), some (.int x6), some (.long (dgO s)), none, some (.int (nI (nfO s))), some (.ref (ad140 (900 + nfO s))), some (.int 0), v12, v13, v14, v15, v16, v17, v18, v19, v20, v21, v22, v23]) (C.wl _ _) dL_law_147 (Nat.le_of_ble_eq_true rfl) rfl rfl ?_
      refine v_iconst (v := 0) (C.wl _ _) dL_law_149 (by decide) ?_
      refine v_istore (lo' := [some (.ref S.1), some (.ref (ad140 30)), some (.ref (ad140 600)), some (.int (s 0 3)), some (.int (s 0 4)), some (.int (nI time)), some (.int x6), some (.long (dgO s)), none, some (.int (nI (nfO s))), some (.ref (ad140 (900 + nfO s))), some (.int 0), some (.int 0), v13, v14, v15, v16, v17, v18, v19, v20, v21, v22, v23]) (C.wl _ _) dL_law_150 (Nat.le_of_ble_eq_true rfl) rfl rfl ?_
      refine v_iconst (v := 0) (C.wl _ _) dL_law_152 (by decide) ?_
      refine v_istore (lo' := [some (.ref S.1), some (.ref (ad140 30)), some (.ref (ad140 600)), some (.int (s 0 3)), some (.int (s 0 4)), some (.int (nI time)), some (.int x6), some (.long (dgO s)), none, some (.int (nI (nfO s))), some (.ref (ad140 (900 + nfO s))), some (.int 0), some (.int 0), some (.int 0), v14, v15, v16, v17, v18, v19, v20, v21, v22, v23]) (C.wl _ _) dL_law_153 (Nat.le_of_ble_eq_true rfl) rfl rfl ?_
      refine v_lo (lo' := [some (.ref S.1), some (.ref (ad140 30)), some (.ref (ad140 600)), some (.int (s 0 3)), some (.int (s 0 4)), some (.int (nI time)), some (.int x6), some (.long (dgO s)), none, some (.int (nI (nfO s))), some (.ref (ad140 (900 + nfO s))), some (.int (sumI (fun q => flO s q (nlO s q)) 0)), some (.int 0), some (.int 0), v14, v15, v16, v17, v18, v19, v20, v21, v22, v23]) rfl ?_
      refine v_lo (lo' := [some (.ref S.1), some (.ref (ad140 30)), some (.ref (ad140 600)), some (.int (s 0 3)), some (.int (s 0 4)), some (.int (nI time)), some (.int x6), some (.long (dgO s)), none, some (.int (nI (nfO s))), some (.ref (ad140 (900 + nfO s))), some (.int (sumI (fun q => flO s q (nlO s q)) 0)), some (.int (sumI (alO s) 0)), some (.int 0), v14, v15, v16, v17, v18, v19, v20, v21, v22, v23]) rfl ?_
      refine v_lo (lo' := [some (.ref S.1), some (.ref (ad140 30)), some (.ref (ad140 600)), some (.int (s 0 3)), some (.int (s 0 4)), some (.int (nI time)), some (.int x6), some (.long (dgO s)), none, some (.int (nI (nfO s))), some (.ref (ad140 (900 + nfO s))), some (.int (sumI (fun q => flO s q (nlO s q)) 0)), some (.int (sumI (alO s) 0)), some (.int (nI 0)), v14, v15, v16, v17, v18, v19, v20, v21, v22, v23]) rfl ?_
      refine v_wide (k := c + 11 + 40 * 0) (n := s0 + 85 + 240 * 0) (by show c + 1 + 1 + 1 + 1 + 1 + 1 + nfO s ≤ c + 11 + 40 * 0; omega) (by show s0 + 6 + 6 + 6 + 6 + 6 + nfO s + nfO s * 10 ≤ s0 + 85 + 240 * 0; omega) ?_
      refine law_P hP9 C hW9 hE hR0 (c := c + 11) (s0 := s0 + 85) ⟨by omega, by omega⟩ (fun m1 g1 w14 w15 w16 w17 w18 w19 w20 w21 w22 w23 hO1 hRl1 => ?_) _ 0 m0 g131 _ _ _ _ _ _ _ _ _ _ (Nat.lt_succ_self _) (Nat.zero_le _) hO0 hRl131
      have hO : OutI m m1 (nfO s) (s 7) := hO1.c (fun x hx => (hE.2.1.2.1 x (by omega)).symm)
      refine v_iconst (v := 0) (C.wl _ _) dL_law_584 (by decide) ?_
      refine v_istore (lo' := [some (.ref S.1), some (.ref (ad140 30)), some (.ref (ad140 600)), some (.int (s 0 3)), some (.int (s 0 4)), some (.int (nI time)), some (.int x6), some (.long (dgO s)), none, some (.int (nI (nfO s))), some (.ref (ad140 (900 + nfO s))), some (.int (sumI (fun q => flO s q (nlO s q)) (npO s))), some (.int (sumI (alO s) (npO s))), some (.int 0), w14, w15, w16, w17, w18, w19, w20, w21, w22, w23]) (C.wl _ _) dL_law_585 (Nat.le_of_ble_eq_true rfl) rfl rfl ?_
      refine v_iconst (v := 0) (C.wl _ _) dL_law_587 (by decide) ?_
      refine v_istore (lo' := [some (.ref S.1), some (.ref (ad140 30)), some (.ref (ad140 600)), some (.int (s 0 3)), some (.int (s 0 4)), some (.int (nI time)), some (.int x6), some (.long (dgO s)), none, some (.int (nI (nfO s))), some (.ref (ad140 (900 + nfO s))), some (.int (sumI (fun q => flO s q (nlO s q)) (npO s))), some (.int (sumI (alO s) (npO s))), some (.int 0), some (.int 0), w15, w16, w17, w18, w19, w20, w21, w22, w23]) (C.wl _ _) dL_law_588 (Nat.le_of_ble_eq_true rfl) rfl rfl ?_
      refine v_iconst (v := 0) (C.wl _ _) dL_law_590 (by decide) ?_
      refine v_istore (lo' := [some (.ref S.1), some (.ref (ad140 30)), some (.ref (ad140 600)), some (.int (s 0 3)), some (.int (s 0 4)), some (.int (nI time)), some (.int x6), some (.long (dgO s)), none, some (.int (nI (nfO s))), some (.ref (ad140 (900 + nfO s))), some (.int (sumI (fun q => flO s q (nlO s q)) (npO s))), some (.int (sumI (alO s) (npO s))), some (.int 0), some (.int 0), some (.int 0), w16, w17, w18, w19, w20, w21, w22, w23]) (C.wl _ _) dL_law_591 (Nat.le_of_ble_eq_true rfl) rfl rfl ?_
      refine v_lo (lo' := [some (.ref S.1), some (.ref (ad140 30)), some (.ref (ad140 600)), some (.int (s 0 3)), some (.int (s 0 4)), some (.int (nI time)), some (.int x6), some (.long (dgO s)), none, some (.int (nI (nfO s))), some (.ref (ad140 (900 + nfO s))), some (.int (sumI (fun q => flO s q (nlO s q)) (npO s))), some (.int (sumI (alO s) (npO s))), some (.int (sumI (s 6) (10 * 0))), some (.int 0), some (.int 0), w16, w17, w18, w19, w20, w21, w22, w23]) rfl ?_
      refine v_lo (lo' := [some (.ref S.1), some (.ref (ad140 30)), some (.ref (ad140 600)), some (.int (s 0 3)), some (.int (s 0 4)), some (.int (nI time)), some (.int x6), some (.long (dgO s)), none, some (.int (nI (nfO s))), some (.ref (ad140 (900 + nfO s))), some (.int (sumI (fun q => flO s q (nlO s q)) (npO s))), some (.int (sumI (alO s) (npO s))), some (.int (sumI (s 6) (10 * 0))), some (.int (sumI (s 7) (10 * 0))), some (.int 0), w16, w17, w18, w19, w20, w21, w22, w23]) rfl ?_
      refine v_lo (lo' := [some (.ref S.1), some (.ref (ad140 30)), some (.ref (ad140 600)), some (.int (s 0 3)), some (.int (s 0 4)), some (.int (nI time)), some (.int x6), some (.long (dgO s)), none, some (.int (nI (nfO s))), some (.ref (ad140 (900 + nfO s))), some (.int (sumI (fun q => flO s q (nlO s q)) (npO s))), some (.int (sumI (alO s) (npO s))), some (.int (sumI (s 6) (10 * 0))), some (.int (sumI (s 7) (10 * 0))), some (.int (nI 0)), w16, w17, w18, w19, w20, w21, w22, w23]) rfl ?_
      refine v_wide (k := c + 261 + 40 * 0) (n := s0 + 1585 + 240 * 0) (by show c + 11 + 250 ≤ c + 261 + 40 * 0; omega) (by show s0 + 85 + 1500 ≤ s0 + 1585 + 240 * 0; omega) ?_
      refine law_B hP9 C hW9 hE hR0 (c := c + 261) (s0 := s0 + 1585) ⟨by omega, by omega⟩ m1 hO (fun g2 x16 x17 x18 x19 x20 x21 x22 x23 hRl2 => ?_) _ 0 g1 _ _ _ _ _ _ _ _ (Nat.lt_succ_self _) (Nat.zero_le _) hRl1
      refine v_iload (C.wl _ _) dL_law_714 rfl ?_
      refine v_aload_n (C.wl _ _) dL_law_716 rfl rfl ?_
      refine v_iconst (v := 5) (C.wl _ _) dL_law_717 (by decide) ?_
      refine v_callX (n := 1) (k := 30) (as := [.int 5]) (C.wl _ _) hW9.S (x_count _ hP9 (Z.wl ad140 m1) 5 s g2 hE.1.1 hE.1.2.2.1 hRl2) (gv (tg2 88 rfl rfl) (tg2 89 rfl rfl) (tg2 90 rfl rfl) (tg1 1 rfl rfl) (tg2 91 rfl rfl)) (by decide +kernel) ⟨Nat.le_of_ble_eq_true rfl, Nat.le_of_ble_eq_true rfl⟩ rfl cx_T rfl rfl (Nat.le_of_ble_eq_true rfl) dL_law_718 ⟨(by show c + 261 + 40 * nfO s + 1 ≤ 600130; omega), (by show s0 + 1585 + 240 * nfO s + 6 ≤ 7301080; omega)⟩ (fun E q g718 hp718 => absurd (cdC_0 (v := 5) (by decide)) hp718.1) (fun r718 g718 hp718 => ?_)
      obtain ⟨-, hr718, hRl718, hK718⟩ := hp718
      refine v_topi (y := sumI (s 6) (10 * nfO s)) (hr718.trans ((congrArg (ctO s) (show iz 5 = 5 from rfl)).trans (ct_eq hI hE.1.2.2.1 (by decide)))) ?_
      refine v_icmp_ne (tgt := 759) (C.wl _ _) dL_law_721 (by decide) (fun h721 => ?_) (fun h721 => ?_)
      · exact absurd rfl h721
      · refine v_iload (C.wl _ _) dL_law_724 rfl ?_
        refine v_aload_n (C.wl _ _) dL_law_726 rfl rfl ?_
        refine v_bipush (v := 6) (C.wl _ _) dL_law_727 (by decide) ?_
        refine v_callX (n := 1) (k := 30) (as := [.int 6]) (C.wl _ _) hW9.S (x_count _ hP9 (Z.wl ad140 m1) 6 s g718 hE.1.1 hE.1.2.2.1 hRl718) (gv (tg2 88 rfl rfl) (tg2 89 rfl rfl) (tg2 90 rfl rfl) (tg1 1 rfl rfl) (tg2 91 rfl rfl)) (by decide +kernel) ⟨Nat.le_of_ble_eq_true rfl, Nat.le_of_ble_eq_true rfl⟩ rfl cx_T rfl rfl (Nat.le_of_ble_eq_true rfl) dL_law_729 ⟨(by show c + 261 + 40 * nfO s + 1 + 1 ≤ 600130; omega), (by show s0 + 1585 + 240 * nfO s + 6 + 6 ≤ 7301080; omega)⟩ (fun E q g729 hp729 => absurd (cdC_0 (v := 6) (by decide)) hp729.1) (fun r729 g729 hp729 => ?_)
        obtain ⟨-, hr729, hRl729, hK729⟩ := hp729
        refine v_topi (y := sumI (s 7) (10 * nfO s)) (hr729.trans ((congrArg (ctO s) (show iz 6 = 6 from rfl)).trans (ct_eq hI hE.1.2.2.1 (by decide)))) ?_
        refine v_icmp_ne (tgt := 759) (C.wl _ _) dL_law_732 (by decide) (fun h732 => ?_) (fun h732 => ?_)
        · exact absurd rfl h732
        · refine v_aload_n (C.wl _ _) dL_law_735 rfl rfl ?_
          refine v_callVd (n := 0) (k := 30) (as := []) (C.wl _ _) (m_mean _ (Z.wl ad140 m1) s g729 hI hE.1.2.1 hRl729) (gv (tg2 130 rfl rfl) (tg2 131 rfl rfl) (tg2 132 rfl rfl) (tg1 1 rfl rfl) (tg2 133 rfl rfl)) (by decide +kernel) ⟨Nat.le_of_ble_eq_true rfl, Nat.le_of_ble_eq_true rfl⟩ rfl cx_T rfl rfl (Nat.le_of_ble_eq_true rfl) dL_law_736 ⟨(by show c + 261 + 40 * nfO s + 1 + 1 + 0 ≤ 600130; omega), (by show s0 + 1585 + 240 * nfO s + 6 + 6 + 0 ≤ 7301080; omega)⟩ (fun r736 g736 hp736 => ?_)
          obtain ⟨hr736, hg736⟩ := hp736
          rw [hr736, hg736]
          refine v_iload (C.wl _ _) dL_law_739 rfl ?_
          have J741 : V P room_1 (Z.wl ad140 m1) [some (.ref S.1), some (.ref (ad140 30)), some (.ref (ad140 600)), some (.int (s 0 3)), some (.int (s 0 4)), some (.int (nI time)), some (.int x6), some (.long (dgO s)), none, some (.int (nI (nfO s))), some (.ref (ad140 (900 + nfO s))), some (.int (sumI (fun q => flO s q (nlO s q)) (npO s))), some (.int (sumI (alO s) (npO s))), some (.int (sumI (s 6) (10 * nfO s))), some (.int (sumI (s 7) (10 * nfO s))), some (.int (nI (nfO s))), x16, x17, x18, x19, x20, x21, x22, x23] 755 [.double (anMean s), .double (anMean s)] g729 (c + 261 + 40 * nfO s + 1 + 1) (s0 + 1585 + 240 * nfO s + 6 + 6) := by
            refine v_dcmp (C.wl _ _) dL_law_755 ?_
            refine v_topi (y := 0) (dcmp_self (mean_n64 hI)) ?_
            refine v_if_eq (tgt := 761) (C.wl _ _) dL_law_756 (by decide) (fun h756 => ?_) (fun h756 => ?_)
            · refine l_drop (ad0 := ad) (m0 := m) hF (fun q hq => hA140 q hq) (fun q q1 q2 => hO.1 q q1 q2) ?_
              refine v_lo (lo' := [some (.ref S.1), some (.ref (ad 30)), some (.ref (ad 600)), some (.int (s 0 3)), some (.int (s 0 4)), some (.int (nI time)), some (.int x6), some (.long (dgO s)), none, some (.int (nI (nfO s))), some (.ref (ad140 (900 + nfO s))), some (.int (sumI (fun q => flO s q (nlO s q)) (npO s))), some (.int (sumI (alO s) (npO s))), some (.int (sumI (s 6) (10 * nfO s))), some (.int (sumI (s 7) (10 * nfO s))), some (.int (nI (nfO s))), x16, x17, x18, x19, x20, x21, x22, x23]) (by rw [hA140 30 (by decide), hA140 600 (by decide)]) ?_
              refine v_aload_n (C.wl _ _) dL_law_761 rfl rfl ?_
              refine v_callVi (n := 0) (k := 30) (as := []) (C.wl _ _) (m_next _ (Z.wl ad m) s g729 hI N hE.1.2.2.2.2 hRl729) (gv (tg2 114 rfl rfl) (tg2 115 rfl rfl) (tg2 116 rfl rfl) (tg1 1 rfl rfl) (tg2 117 rfl rfl)) (by decide +kernel) ⟨Nat.le_of_ble_eq_true rfl, Nat.le_of_ble_eq_true rfl⟩ rfl cx_T rfl rfl (Nat.le_of_ble_eq_true rfl) dL_law_762 ⟨(by show c + 261 + 40 * nfO s + 1 + 1 + 0 ≤ 600130; omega), (by show s0 + 1585 + 240 * nfO s + 6 + 6 + 0 ≤ 7301080; omega)⟩ (fun r762 g762 hp762 => ?_)
              obtain ⟨hr762, hRl762, -⟩ := hp762
              rw [hr762]
              rcases nxt_some hI (npO s) with ⟨h1, -⟩ | ⟨⟨pq, hpq, h1, a, hpl⟩, -⟩
              · rw [h1]
                refine v_istore (lo' := [some (.ref S.1), some (.ref (ad 30)), some (.ref (ad 600)), some (.int (s 0 3)), some (.int (s 0 4)), some (.int (nI time)), some (.int x6), some (.long (dgO s)), none, some (.int (nI (nfO s))), some (.ref (ad140 (900 + nfO s))), some (.int (sumI (fun q => flO s q (nlO s q)) (npO s))), some (.int (sumI (alO s) (npO s))), some (.int (sumI (s 6) (10 * nfO s))), some (.int (sumI (s 7) (10 * nfO s))), some (.int (-1)), x16, x17, x18, x19, x20, x21, x22, x23]) (C.wl _ _) dL_law_765 (Nat.le_of_ble_eq_true rfl) rfl rfl ?_
                refine v_aload_n (C.wl _ _) dL_law_767 rfl rfl ?_
                refine v_callVl (n := 0) (k := 30) (as := []) (C.wl _ _) (m_digest _ (Z.wl ad m) s g762 hI hE.1.2.1 hRl762 hE.1.2.2.1) (gv (tg2 134 rfl rfl) (tg2 135 rfl rfl) (tg2 136 rfl rfl) (tg1 1 rfl rfl) (tg2 137 rfl rfl)) (by decide +kernel) ⟨Nat.le_of_ble_eq_true rfl, Nat.le_of_ble_eq_true rfl⟩ rfl cx_T rfl rfl (Nat.le_of_ble_eq_true rfl) dL_law_768 ⟨(by show c + 261 + 40 * nfO s + 1 + 1 + 0 ≤ 600130; omega), (by show s0 + 1585 + 240 * nfO s + 6 + 6 + 0 ≤ 7301080; omega)⟩ (fun r768 g768 hp768 => ?_)
                obtain ⟨hr768, hg768⟩ := hp768
                rw [hr768, hg768]
                refine v_lload (C.wl _ _) dL_law_771 rfl ?_
                refine v_lcmp (C.wl _ _) dL_law_773 ?_
                refine v_topi (y := 0) (lg_self _) ?_
                refine v_if_eq (tgt := 779) (C.wl _ _) dL_law_774 (by decide) (fun h774 => ?_) (fun h774 => ?_)
                · refine v_iload (C.wl _ _) dL_law_779 rfl ?_
                  refine v_if_ge (tgt := 787) (C.wl _ _) dL_law_781 (by decide) (fun h781 => ?_) (fun h781 => ?_)
                  · exact absurd h781 (by decide)
                  · refine v_goto (tgt := 986) (C.wl _ _) dL_law_784 (by decide) ?_
                    refine v_wide (k := c + 700) (n := s0 + 4500) (by show c + 261 + 40 * nfO s + 1 + 1 ≤ c + 700; omega) (by show s0 + 1585 + 240 * nfO s + 6 + 6 ≤ s0 + 4500; omega) ?_
                    exact K ad m g762 _ _ _ _ _ _ _ _ _ _ _ _ _ _ _ _ _ _ ⟨⟨rfl, rfl⟩, s, (LE.rf (LE.rf hE (by omega)).1 (by omega)).1, Mo.rf s, hR0, hF, hRl762, Nat.le_refl _, Nat.le_refl _⟩
                · exact absurd rfl h774
              · rw [h1]
                refine v_istore (lo' := [some (.ref S.1), some (.ref (ad 30)), some (.ref (ad 600)), some (.int (s 0 3)), some (.int (s 0 4)), some (.int (nI time)), some (.int x6), some (.long (dgO s)), none, some (.int (nI (nfO s))), some (.ref (ad140 (900 + nfO s))), some (.int (sumI (fun q => flO s q (nlO s q)) (npO s))), some (.int (sumI (alO s) (npO s))), some (.int (sumI (s 6) (10 * nfO s))), some (.int (sumI (s 7) (10 * nfO s))), some (.int (nI pq)), x16, x17, x18, x19, x20, x21, x22, x23]) (C.wl _ _) dL_law_765 (Nat.le_of_ble_eq_true rfl) rfl rfl ?_
                refine v_aload_n (C.wl _ _) dL_law_767 rfl rfl ?_
                refine v_callVl (n := 0) (k := 30) (as := []) (C.wl _ _) (m_digest _ (Z.wl ad m) s g762 hI hE.1.2.1 hRl762 hE.1.2.2.1) (gv (tg2 134 rfl rfl) (tg2 135 rfl rfl) (tg2 136 rfl rfl) (tg1 1 rfl rfl) (tg2 137 rfl rfl)) (by decide +kernel) ⟨Nat.le_of_ble_eq_true rfl, Nat.le_of_ble_eq_true rfl⟩ rfl cx_T rfl rfl (Nat.le_of_ble_eq_true rfl) dL_law_768 ⟨(by show c + 261 + 40 * nfO s + 1 + 1 + 0 ≤ 600130; omega), (by show s0 + 1585 + 240 * nfO s + 6 + 6 + 0 ≤ 7301080; omega)⟩ (fun r768 g768 hp768 => ?_)
                obtain ⟨hr768, hg768⟩ := hp768
                rw [hr768, hg768]
                refine v_lload (C.wl _ _) dL_law_771 rfl ?_
                refine v_lcmp (C.wl _ _) dL_law_773 ?_
                refine v_topi (y := 0) (lg_self _) ?_
                refine v_if_eq (tgt := 779) (C.wl _ _) dL_law_774 (by decide) (fun h774 => ?_) (fun h774 => ?_)
                · refine v_iload (C.wl _ _) dL_law_779 rfl ?_
                  refine v_if_ge (tgt := 787) (C.wl _ _) dL_law_781 (by decide) (fun h781 => ?_) (fun h781 => ?_)
                  · refine v_wide (k := c + 463) (n := s0 + 2797) (by show c + 261 + 40 * nfO s + 1 + 1 ≤ c + 463; omega) (by show s0 + 1585 + 240 * nfO s + 6 + 6 ≤ s0 + 2797; omega) ?_
                    exact law_H hP9 C hW9 hE hR0 hF hN hpq hpl (c := c + 463) (s0 := s0 + 2797) ⟨by omega, by omega⟩ (fun ad2 m2 g2 u6 u7 u8 u9 u10 u11 u12 u13 u14 u15 u16 u17 u18 u19 u20 u21 u22 u23 hT => v_wide (k := c + 700) (n := s0 + 4500) (by omega) (by omega) (K ad2 m2 g2 u6 u7 u8 u9 u10 u11 u12 u13 u14 u15 u16 u17 u18 u19 u20 u21 u22 u23 hT)) g762 _ _ _ _ _ _ _ _ hRl762
                  · exact absurd ((nI_leI (a := 0) (by decide) (by omega)).mpr (Nat.zero_le _)) h781
                · exact absurd rfl h774
            · exact absurd rfl h756
          refine v_if_ne (tgt := 748) (C.wl _ _) dL_law_741 (by decide) (fun h741 => ?_) (fun h741 => ?_)
          · refine v_iload (C.wl _ _) dL_law_748 rfl ?_
            refine v_i2d (C.wl _ _) dL_law_750 ?_
            refine v_iload (C.wl _ _) dL_law_751 rfl ?_
            refine v_i2d (C.wl _ _) dL_law_753 ?_
            refine v_ddiv (C.wl _ _) dL_law_754 (n64_div _ _ (al_div hI h741)) ?_
            refine v_st (st' := [.double (anMean s), .double (anMean s)]) (by rw [show FP.ddiv (FP.i2d (sumI (fun q => flO s q (nlO s q)) (npO s))) (FP.i2d (sumI (alO s) (npO s))) = anMean s by unfold anMean; rw [if_neg h741]]) ?_
            exact J741
          · refine v_dconst0 (C.wl _ _) dL_law_744 ?_
            refine v_goto (tgt := 755) (C.wl _ _) dL_law_745 (by decide) ?_
            refine v_st (st' := [.double (anMean s), .double (anMean s)]) (by rw [show FP.dconst0 = anMean s by unfold anMean; rw [if_pos h741]]) ?_
            exact J741
    · exact absurd ((i_le _ _).mpr hbr) h105
