/-! THE LAW'S SHOP against the class: its blocks -/
set_option maxRecDepth 100000 in
theorem same_B {P : Pm} {Z : Zc} {ad : Nat → Nat} {s m : MG} (hP9 : P.2.1.stackTraces = false) (C : Cx P Z cX5_isSame RX5) (hW9 : CxW P Z) (hI : IvM s) (hF9 : IvF s) (hZ9 : IvZ s) (hR : SimR s m)
    (K : ∀ (m1 g1 : MG) (v6 v7 : Option Value), CtI m m1 7 (cT s (10 * nfO s) 0) → Rl s g1 → V P (rmz 10 330 400 2400) (Z.wl ad m1) [some (.ref (ad 600)), some (.ref (ad 30)), some (.ref (ad 900)), some (.int 0), some (.int 0), some (.int (nI (nfO s))), v6, v7, none, none, none] 176 [] g1 (1 + 30 * nfO s) (7 + 180 * nfO s))
    : ∀ (n f : Nat) (m1 g1 : MG) (v6 v7 : Option Value), nfO s - f < n → f ≤ nfO s → CtI m m1 7 (cT s (10 * f) 0) → Rl s g1 → V P (rmz 10 330 400 2400) (Z.wl ad m1) [some (.ref (ad 600)), some (.ref (ad 30)), some (.ref (ad 900)), some (.int 0), some (.int 0), some (.int (nI f)), v6, v7, none, none, none] 56 [] g1 (1 + 30 * f) (7 + 180 * f) := by
  have hf5 := (IvM_nf hI).1
  intro n
  induction n with
  | zero => intro f m1 g1 v6 v7 hn; exact absurd hn (Nat.not_lt_zero _)
  | succ n ih =>
    intro f m1 g1 v6 v7 hn hf hC hRl
    refine v_iload (C.wl _ _) dX5_isSame_56 rfl ?_
    refine v_aload_n (C.wl _ _) dX5_isSame_58 rfl rfl ?_
    refine l_get (k := 600) C inG5 (ci := 6) rfl 2 (by decide) (tg5 5 rfl rfl) rfl ⟨by decide, by decide⟩ (cW_6 ((congrFun (hC.1 _ (by omega)) _).trans hR.1.1)) (sm_r (by decide) ((congrFun (hC.1 _ (by omega)) _).trans hR.1.2.2.2.1) ⟨by decide, by decide⟩) dX5_isSame_59 ?_
    refine l_len (k := 601) (n := nfO s) C ⟨by decide, by decide⟩ (Or.inl ((congrFun (hC.1 _ (by omega)) _).trans hR.2.1.1.1.1)) ((congrFun (hC.1 _ (by omega)) _).trans hR.2.1.1.1.2) (by omega) dX5_isSame_62 ?_
    refine v_icmp_ge (tgt := 176) (C.wl _ _) dX5_isSame_63 (by decide) (fun h63 => ?_) (fun h63 => ?_)
    · have hfe : f = nfO s := Nat.le_antisymm hf ((nI_leI (by omega) (by omega)).mp h63)
      subst hfe
      exact K m1 g1 v6 v7 hC hRl
    · have hff : f < nfO s := Nat.lt_of_not_le fun q => h63 ((nI_leI (by omega) (by omega)).mpr q)
      refine v_iconst (v := 0) (C.wl _ _) dX5_isSame_66 (by decide) ?_
      refine v_istore (lo' := [some (.ref (ad 600)), some (.ref (ad 30)), some (.ref (ad 900)), some (.int 0), some (.int 0), some (.int (nI f)), some (.int 0), v7, none, none, none]) (C.wl _ _) dX5_isSame_67 (Nat.le_of_ble_eq_true rfl) rfl rfl ?_
      refine v_lo (lo' := [some (.ref (ad 600)), some (.ref (ad 30)), some (.ref (ad 900)), some (.int 0), some (.int 0), some (.int (nI f)), some (.int (nI 0)), v7, none, none, none]) rfl ?_
      have inn : ∀ (n2 k : Nat) (m1 g1 : MG) (v7 : Option Value), 10 - k < n2 → k ≤ 10 → CtI m m1 7 (cT s (10 * f + k) 0) → Rl s g1 → V P (rmz 10 330 400 2400) (Z.wl ad m1) [some (.ref (ad 600)), some (.ref (ad 30)), some (.ref (ad 900)), some (.int 0), some (.int 0), some (.int (nI f)), some (.int (nI k)), v7, none, none, none] 69 [] g1 (1 + 30 * f + 3 * k) (7 + 180 * f + 18 * k) := by
        intro n2
        induction n2 with
        | zero => intro k m1 g1 v7 hn; exact absurd hn (Nat.not_lt_zero _)
        | succ n2 ih2 =>
          intro k m1 g1 v7 hn2 hk hC hRl
          refine v_iload (C.wl _ _) dX5_isSame_69 rfl ?_
          refine v_bipush (v := 10) (C.wl _ _) dX5_isSame_71 (by decide) ?_
          refine v_icmp_ge (tgt := 170) (C.wl _ _) dX5_isSame_73 (by decide) (fun h73 => ?_) (fun h73 => ?_)
          · have hke : k = 10 := Nat.le_antisymm hk ((nI_leI (a := 10) (by decide) (by omega)).mp h73)
            subst hke
            refine v_iinc (lo' := [some (.ref (ad 600)), some (.ref (ad 30)), some (.ref (ad 900)), some (.int 0), some (.int 0), some (.int ((nI f) + 1)), some (.int (nI 10)), v7, none, none, none]) (C.wl _ _) dX5_isSame_170 rfl rfl rfl rfl ?_
            refine v_goto (tgt := 56) (C.wl _ _) dX5_isSame_173 (by decide) ?_
            refine v_lo (lo' := [some (.ref (ad 600)), some (.ref (ad 30)), some (.ref (ad 900)), some (.int 0), some (.int 0), some (.int (nI (f + 1))), some (.int (nI 10)), v7, none, none, none]) (by rw [nI_succ f]) ?_
            refine v_wide (k := 1 + 30 * (f + 1)) (n := 7 + 180 * (f + 1)) (by show 1 + 30 * f + 3 * 10 ≤ 1 + 30 * (f + 1); omega) (by show 7 + 180 * f + 18 * 10 ≤ 7 + 180 * (f + 1); omega) ?_
            exact ih (f + 1) m1 g1 _ _ (by omega) (by omega) hC hRl
          · have hkk : k < 10 := Nat.lt_of_not_le fun q => h73 ((nI_leI (a := 10) (by decide) (by omega)).mpr q)
            have hb0 : m (620 + (10 * f + k)) 0 = s 6 (10 * f + k) := by rw [← Nat.add_assoc]; exact (hR.2.2.1 f k hff hkk).2.1
            have hb1 : m (620 + (10 * f + k)) 1 = s 7 (10 * f + k) := by rw [← Nat.add_assoc]; exact (hR.2.2.1 f k hff hkk).2.2.1
            have hb2 : m (620 + (10 * f + k)) 2 = s 8 (10 * f + k) := by rw [← Nat.add_assoc]; exact (hR.2.2.1 f k hff hkk).2.2.2
            refine v_aload_n (C.wl _ _) dX5_isSame_76 rfl rfl ?_
            refine l_get (k := 600) C inG5 (ci := 6) rfl 3 (by decide) (tg5 7 rfl rfl) rfl ⟨by decide, by decide⟩ (cW_6 ((congrFun (hC.1 _ (by omega)) _).trans hR.1.1)) (sm_r (by decide) ((congrFun (hC.1 _ (by omega)) _).trans hR.1.2.2.2.2.1) ⟨by decide, by decide⟩) dX5_isSame_77 ?_
            refine v_iload (C.wl _ _) dX5_isSame_80 rfl ?_
            refine l_aald (k := 602) (n := nfO s) (a := f) (k2 := 610 + f) C ⟨by decide, by decide⟩ (Or.inr (Or.inl ((congrFun (hC.1 _ (by omega)) _).trans hR.2.1.2.1.1.1))) ((congrFun (hC.1 _ (by omega)) _).trans hR.2.1.2.1.1.2) (by omega) ((congrFun (hC.1 _ (by omega)) _).trans (hR.2.1.2.1.2 _ hff)) ⟨by omega, by omega⟩ dX5_isSame_82 ?_
            refine v_iload (C.wl _ _) dX5_isSame_83 rfl ?_
            refine l_aald (k := 610 + f) (n := 10) (a := k) (k2 := 620 + (10 * f + k)) C ⟨by omega, by omega⟩ (Or.inl ((congrFun (hC.1 _ (by omega)) _).trans (hR.2.1.2.2 _ hff).1.1)) ((congrFun (hC.1 _ (by omega)) _).trans (hR.2.1.2.2 _ hff).1.2) ⟨hkk, by decide⟩ (((congrFun (hC.1 _ (by omega)) _).trans ((hR.2.1.2.2 _ hff).2 _ hkk)).trans (congrArg nI (Nat.add_assoc _ _ _))) ⟨by omega, by omega⟩ dX5_isSame_85 ?_
            refine v_astore (lo' := [some (.ref (ad 600)), some (.ref (ad 30)), some (.ref (ad 900)), some (.int 0), some (.int 0), some (.int (nI f)), some (.int (nI k)), some (.ref (ad (620 + (10 * f + k)))), none, none, none]) (C.wl _ _) dX5_isSame_86 (Nat.le_of_ble_eq_true rfl) rfl rfl ?_
            refine v_aload_n (C.wl _ _) dX5_isSame_88 rfl rfl ?_
            refine v_iconst (v := 5) (C.wl _ _) dX5_isSame_89 (by decide) ?_
            refine v_dup2 (C.wl _ _) dX5_isSame_90 rfl rfl ?_
            refine l_iald (k := 900) (n := 7) (a := 5) C ⟨by decide, by decide⟩ hC.2.1.1 hC.2.1.2 (by omega) dX5_isSame_91 ?_
            refine v_topi (y := sumI (s 6) (10 * f + k)) (hC.2.2 5 (by decide)) ?_
            refine v_aload (C.wl _ _) dX5_isSame_92 rfl ?_
            refine v_iconst (v := 0) (C.wl _ _) dX5_isSame_94 (by decide) ?_
            refine l_iald (k := 620 + (10 * f + k)) (n := 3) (a := 0) C ⟨by omega, by omega⟩ ((congrFun (hC.1 _ (by omega)) _).trans ((Nat.add_assoc 620 (10 * f) k) ▸ hR.2.2.1 _ _ hff hkk).1.1) ((congrFun (hC.1 _ (by omega)) _).trans ((Nat.add_assoc 620 (10 * f) k) ▸ hR.2.2.1 _ _ hff hkk).1.2) (by omega) dX5_isSame_95 ?_
            refine v_topi (y := s 6 (10 * f + k)) ((congrFun (hC.1 _ (by omega)) _).trans hb0) ?_
            refine v_iadd (C.wl _ _) dX5_isSame_96 ?_
            refine v_topi (y := sumI (s 6) ((10 * f + k) + 1)) rfl ?_
            refine l_iast (k := 900) (n := 7) (a := 5) C ⟨by decide, by decide⟩ hC.2.1.1 hC.2.1.2 (by omega) dX5_isSame_97 ?_
            refine v_aload_n (C.wl _ _) dX5_isSame_98 rfl rfl ?_
            refine v_bipush (v := 6) (C.wl _ _) dX5_isSame_99 (by decide) ?_
            refine v_dup2 (C.wl _ _) dX5_isSame_101 rfl rfl ?_
            refine l_iald (k := 900) (n := 7) (a := 6) C ⟨by decide, by decide⟩ ((wr_ne _ _ _ _ (by omega)).trans hC.2.1.1) ((wr_ne _ _ _ _ (by omega)).trans hC.2.1.2) (by omega) dX5_isSame_102 ?_
            refine v_topi (y := sumI (s 7) (10 * f + k)) ((wr_ne _ _ _ _ (by decide)).trans (hC.2.2 6 (by decide))) ?_
            refine v_aload (C.wl _ _) dX5_isSame_103 rfl ?_
            refine v_iconst (v := 1) (C.wl _ _) dX5_isSame_105 (by decide) ?_
            refine l_iald (k := 620 + (10 * f + k)) (n := 3) (a := 1) C ⟨by omega, by omega⟩ ((wr_ne _ _ _ _ (by omega)).trans ((congrFun (hC.1 _ (by omega)) _).trans ((Nat.add_assoc 620 (10 * f) k) ▸ hR.2.2.1 _ _ hff hkk).1.1)) ((wr_ne _ _ _ _ (by omega)).trans ((congrFun (hC.1 _ (by omega)) _).trans ((Nat.add_assoc 620 (10 * f) k) ▸ hR.2.2.1 _ _ hff hkk).1.2)) (by omega) dX5_isSame_106 ?_
            refine v_topi (y := s 7 (10 * f + k)) ((wr_ne _ _ _ _ (by omega)).trans ((congrFun (hC.1 _ (by omega)) _).trans hb1)) ?_
            refine v_iadd (C.wl _ _) dX5_isSame_107 ?_
            refine v_topi (y := sumI (s 7) ((10 * f + k) + 1)) rfl ?_
            refine l_iast (k := 900) (n := 7) (a := 6) C ⟨by decide, by decide⟩ ((wr_ne _ _ _ _ (by omega)).trans hC.2.1.1) ((wr_ne _ _ _ _ (by omega)).trans hC.2.1.2) (by omega) dX5_isSame_108 ?_
            have hC2 := hC.bl
            generalize wr (wr m1 900 5 (sumI (s 6) ((10 * f + k) + 1))) 900 6 (sumI (s 7) ((10 * f + k) + 1)) = m2 at hC2 ⊢
            refine v_aload_n (C.wl _ _) dX5_isSame_109 rfl rfl ?_
            refine v_iload (C.wl _ _) dX5_isSame_110 rfl ?_
            refine v_iload (C.wl _ _) dX5_isSame_112 rfl ?_
            refine v_iconst (v := 0) (C.wl _ _) dX5_isSame_114 (by decide) ?_
            refine v_callX (n := 3) (k := 30) (as := [.int (nI f), .int (nI k), .int 0]) (C.wl _ _) hW9.S (x_block _ hP9 (Z.wl ad m2) (nI f) (nI k) 0 s g1 hI hF9 hRl) (gv (tg3 0 rfl rfl) (tg2 35 rfl rfl) (tg2 36 rfl rfl) (tg1 1 rfl rfl) (tg2 37 rfl rfl)) (by decide +kernel) ⟨Nat.le_of_ble_eq_true rfl, Nat.le_of_ble_eq_true rfl⟩ rfl cx_T rfl rfl (Nat.le_of_ble_eq_true rfl) dX5_isSame_115 ⟨(by show 1 + 30 * f + 3 * k + 1 ≤ 400; omega), (by show 7 + 180 * f + 18 * k + 6 ≤ 2400; omega)⟩ (fun E q g115 hp115 => absurd (cdB_0 hI hff hkk (v := 0) (by decide)) hp115.1) (fun r115 g115 hp115 => ?_)
            obtain ⟨-, hr115, hRl115, hK115⟩ := hp115
            refine v_topi (y := s 6 (10 * f + k)) (hr115.trans (by rw [at_n (by omega) hkk]; rfl)) ?_
            refine v_aload (C.wl _ _) dX5_isSame_118 rfl ?_
            refine v_iconst (v := 0) (C.wl _ _) dX5_isSame_120 (by decide) ?_
            refine l_iald (k := 620 + (10 * f + k)) (n := 3) (a := 0) C ⟨by omega, by omega⟩ ((congrFun (hC2.1 _ (by omega)) _).trans ((Nat.add_assoc 620 (10 * f) k) ▸ hR.2.2.1 _ _ hff hkk).1.1) ((congrFun (hC2.1 _ (by omega)) _).trans ((Nat.add_assoc 620 (10 * f) k) ▸ hR.2.2.1 _ _ hff hkk).1.2) (by omega) dX5_isSame_121 ?_
            refine v_topi (y := s 6 (10 * f + k)) ((congrFun (hC2.1 _ (by omega)) _).trans hb0) ?_
            refine v_icmp_ne (tgt := 162) (C.wl _ _) dX5_isSame_122 (by decide) (fun h122 => ?_) (fun h122 => ?_)
            · exact absurd rfl h122
            · refine v_aload_n (C.wl _ _) dX5_isSame_125 rfl rfl ?_
              refine v_iload (C.wl _ _) dX5_isSame_126 rfl ?_
              refine v_iload (C.wl _ _) dX5_isSame_128 rfl ?_
              refine v_iconst (v := 1) (C.wl _ _) dX5_isSame_130 (by decide) ?_
              refine v_callX (n := 3) (k := 30) (as := [.int (nI f), .int (nI k), .int 1]) (C.wl _ _) hW9.S (x_block _ hP9 (Z.wl ad m2) (nI f) (nI k) 1 s g115 hI hF9 hRl115) (gv (tg3 0 rfl rfl) (tg2 35 rfl rfl) (tg2 36 rfl rfl) (tg1 1 rfl rfl) (tg2 37 rfl rfl)) (by decide +kernel) ⟨Nat.le_of_ble_eq_true rfl, Nat.le_of_ble_eq_true rfl⟩ rfl cx_T rfl rfl (Nat.le_of_ble_eq_true rfl) dX5_isSame_131 ⟨(by show 1 + 30 * f + 3 * k + 1 + 1 ≤ 400; omega), (by show 7 + 180 * f + 18 * k + 6 + 6 ≤ 2400; omega)⟩ (fun E q g131 hp131 => absurd (cdB_0 hI hff hkk (v := 1) (by decide)) hp131.1) (fun r131 g131 hp131 => ?_)
              obtain ⟨-, hr131, hRl131, hK131⟩ := hp131
              refine v_topi (y := s 6 (10 * f + k) - s 7 (10 * f + k)) (hr131.trans (by rw [at_n (by omega) hkk]; rfl)) ?_
              refine v_aload (C.wl _ _) dX5_isSame_134 rfl ?_
              refine v_iconst (v := 0) (C.wl _ _) dX5_isSame_136 (by decide) ?_
              refine l_iald (k := 620 + (10 * f + k)) (n := 3) (a := 0) C ⟨by omega, by omega⟩ ((congrFun (hC2.1 _ (by omega)) _).trans ((Nat.add_assoc 620 (10 * f) k) ▸ hR.2.2.1 _ _ hff hkk).1.1) ((congrFun (hC2.1 _ (by omega)) _).trans ((Nat.add_assoc 620 (10 * f) k) ▸ hR.2.2.1 _ _ hff hkk).1.2) (by omega) dX5_isSame_137 ?_
              refine v_topi (y := s 6 (10 * f + k)) ((congrFun (hC2.1 _ (by omega)) _).trans hb0) ?_
              refine v_aload (C.wl _ _) dX5_isSame_138 rfl ?_
              refine v_iconst (v := 1) (C.wl _ _) dX5_isSame_140 (by decide) ?_
              refine l_iald (k := 620 + (10 * f + k)) (n := 3) (a := 1) C ⟨by omega, by omega⟩ ((congrFun (hC2.1 _ (by omega)) _).trans ((Nat.add_assoc 620 (10 * f) k) ▸ hR.2.2.1 _ _ hff hkk).1.1) ((congrFun (hC2.1 _ (by omega)) _).trans ((Nat.add_assoc 620 (10 * f) k) ▸ hR.2.2.1 _ _ hff hkk).1.2) (by omega) dX5_isSame_141 ?_
              refine v_topi (y := s 7 (10 * f + k)) ((congrFun (hC2.1 _ (by omega)) _).trans hb1) ?_
              refine v_isub (C.wl _ _) dX5_isSame_142 ?_
              refine v_icmp_ne (tgt := 162) (C.wl _ _) dX5_isSame_143 (by decide) (fun h143 => ?_) (fun h143 => ?_)
              · exact absurd rfl h143
              · refine v_aload_n (C.wl _ _) dX5_isSame_146 rfl rfl ?_
                refine v_iload (C.wl _ _) dX5_isSame_147 rfl ?_
                refine v_iload (C.wl _ _) dX5_isSame_149 rfl ?_
                refine v_iconst (v := 2) (C.wl _ _) dX5_isSame_151 (by decide) ?_
                refine v_callX (n := 3) (k := 30) (as := [.int (nI f), .int (nI k), .int 2]) (C.wl _ _) hW9.S (x_block _ hP9 (Z.wl ad m2) (nI f) (nI k) 2 s g131 hI hF9 hRl131) (gv (tg3 0 rfl rfl) (tg2 35 rfl rfl) (tg2 36 rfl rfl) (tg1 1 rfl rfl) (tg2 37 rfl rfl)) (by decide +kernel) ⟨Nat.le_of_ble_eq_true rfl, Nat.le_of_ble_eq_true rfl⟩ rfl cx_T rfl rfl (Nat.le_of_ble_eq_true rfl) dX5_isSame_152 ⟨(by show 1 + 30 * f + 3 * k + 1 + 1 + 1 ≤ 400; omega), (by show 7 + 180 * f + 18 * k + 6 + 6 + 6 ≤ 2400; omega)⟩ (fun E q g152 hp152 => absurd (cdB_0 hI hff hkk (v := 2) (by decide)) hp152.1) (fun r152 g152 hp152 => ?_)
                obtain ⟨-, hr152, hRl152, hK152⟩ := hp152
                refine v_topi (y := s 8 (10 * f + k)) (hr152.trans (by rw [at_n (by omega) hkk]; rfl)) ?_
                refine v_aload (C.wl _ _) dX5_isSame_155 rfl ?_
                refine v_iconst (v := 2) (C.wl _ _) dX5_isSame_157 (by decide) ?_
                refine l_iald (k := 620 + (10 * f + k)) (n := 3) (a := 2) C ⟨by omega, by omega⟩ ((congrFun (hC2.1 _ (by omega)) _).trans ((Nat.add_assoc 620 (10 * f) k) ▸ hR.2.2.1 _ _ hff hkk).1.1) ((congrFun (hC2.1 _ (by omega)) _).trans ((Nat.add_assoc 620 (10 * f) k) ▸ hR.2.2.1 _ _ hff hkk).1.2) (by omega) dX5_isSame_158 ?_
                refine v_topi (y := s 8 (10 * f + k)) ((congrFun (hC2.1 _ (by omega)) _).trans hb2) ?_
                refine v_icmp_eq (tgt := 164) (C.wl _ _) dX5_isSame_159 (by decide) (fun h159 => ?_) (fun h159 => ?_)
                · refine v_iinc (lo' := [some (.ref (ad 600)), some (.ref (ad 30)), some (.ref (ad 900)), some (.int 0), some (.int 0), some (.int (nI f)), some (.int ((nI k) + 1)), some (.ref (ad (620 + (10 * f + k)))), none, none, none]) (C.wl _ _) dX5_isSame_164 rfl rfl rfl rfl ?_
                  refine v_goto (tgt := 69) (C.wl _ _) dX5_isSame_167 (by decide) ?_
                  refine v_lo (lo' := [some (.ref (ad 600)), some (.ref (ad 30)), some (.ref (ad 900)), some (.int 0), some (.int 0), some (.int (nI f)), some (.int (nI (k + 1))), some (.ref (ad (620 + (10 * f + k)))), none, none, none]) (by rw [nI_succ k]) ?_
                  refine v_wide (k := 1 + 30 * f + 3 * (k + 1)) (n := 7 + 180 * f + 18 * (k + 1)) (by show 1 + 30 * f + 3 * k + 1 + 1 + 1 ≤ 1 + 30 * f + 3 * (k + 1); omega) (by show 7 + 180 * f + 18 * k + 6 + 6 + 6 ≤ 7 + 180 * f + 18 * (k + 1); omega) ?_
                  exact ih2 (k + 1) m2 g152 _ (by omega) (by omega) hC2 hRl152
                · exact absurd rfl h159
      exact inn _ 0 m1 g1 _ (Nat.lt_succ_self _) (Nat.zero_le _) hC hRl
