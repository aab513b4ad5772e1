/-! THE CLASS: digest, a poster's numbers -/
set_option maxRecDepth 100000 in
theorem c_mixedWithPoster (l : Launch) (Z : Zc) (d : Int64) (i : Nat) (s g : MG) (hI : IvM s) (hF9 : IvF s) (hR : Rl s g) (hi : i < npO s) : ML l yX3_mixedWithPoster cX3_mixedWithPoster 9 (rmz 9 285 0 0) Z [.ref (Z.ad 30), .long d, .int (nI i)] g (fun r g' => r = mixLs s i (nlO s i) (mixN (fun w => toldO s i w) 8 d) ∧ g' = g) := by
  refine ent_l (own := RX3) (lo := [some (.ref (Z.ad 30)), some (.long d), none, some (.int (nI i)), none, none, none, none, none]) (by decide) rfl (by simp [lg_sl, Value.category]) rfl (fun P hl C ret => ?_)
  have hnp := (IvM_np hI).2
  have hp6 := (IvM_np hI).1
  have hn2 : g 32 2 = nI (npO s) := hR.1.2.1.trans hnp
  have hP := PsP.mk hn2 hi hp6
  obtain ⟨r12, r13, r15, r16, r14, rL⟩ := hR.2.2 i hi
  have hm := r14.trans (IvM_nl hI (show i < 6 by omega)).1
  have hm4 := (IvM_nl hI (show i < 6 by omega)).2
  have loopW : ∀ (n : Nat) (w k : Nat), 4 - w < n → w ≤ 4 → k < nlO s i → (∀ v, V P (rmz 9 285 0 0) Z [some (.ref (Z.ad 30)), some (.long d), none, some (.int (nI i)), some (.long (mixLs s i (k + 1) (mixN (fun w => toldO s i w) 8 d))), none, some (.int (nI (nlO s i))), some (.int (nI (k + 1))), v] 55 [] g 0 0) → V P (rmz 9 285 0 0) Z [some (.ref (Z.ad 30)), some (.long d), none, some (.int (nI i)), some (.long (mixN (fun w => ltoO s i k (nI w)) w (mixLs s i k (mixN (fun w => toldO s i w) 8 d)))), none, some (.int (nI (nlO s i))), some (.int (nI k)), some (.int (nI w))] 65 [] g 0 0 := by
    intro n
    induction n with
    | zero => intro w k hm9 hk hkl K; exact absurd hm9 (Nat.not_lt_zero _)
    | succ n ih =>
      intro w k hm9 hk hkl K
      refine v_iload C dX3_mixedWithPoster_65 rfl ?_
      refine v_iconst (v := 4) C dX3_mixedWithPoster_67 (by decide) ?_
      refine v_icmp_ge (tgt := 93) C dX3_mixedWithPoster_68 (by decide) (fun h68 => ?_) (fun h68 => ?_)
      · have hkn : w = 4 := Nat.le_antisymm hk ((nI_leI (a := 4) (by omega) (by omega)).mp h68)
        subst hkn
        refine v_iinc (lo' := [some (.ref (Z.ad 30)), some (.long d), none, some (.int (nI i)), some (.long (mixN (fun w => ltoO s i k (nI w)) 4 (mixLs s i k (mixN (fun w => toldO s i w) 8 d)))), none, some (.int (nI (nlO s i))), some (.int ((nI k) + 1)), some (.int (nI 4))]) C dX3_mixedWithPoster_93 rfl rfl rfl rfl ?_
        refine v_lo (lo' := [some (.ref (Z.ad 30)), some (.long d), none, some (.int (nI i)), some (.long (mixLs s i (k + 1) (mixN (fun w => toldO s i w) 8 d))), none, some (.int (nI (nlO s i))), some (.int (nI (k + 1))), some (.int (nI 4))]) (by rw [← nI_1 k]; rfl) ?_
        refine v_goto (tgt := 55) C dX3_mixedWithPoster_96 (by decide) ?_
        exact K _
      · have hkn : w < 4 := Nat.lt_of_not_le fun z => h68 ((nI_leI (a := 4) (by omega) (by omega)).mpr z)
        refine v_lload C dX3_mixedWithPoster_71 rfl ?_
        refine v_aload_n C dX3_mixedWithPoster_73 rfl rfl ?_
        refine v_iload_n C dX3_mixedWithPoster_74 rfl rfl ?_
        refine v_iload C dX3_mixedWithPoster_75 rfl ?_
        refine v_iload C dX3_mixedWithPoster_77 rfl ?_
        refine v_callVi (n := 3) (as := [.int (nI i), .int (nI k), .int (nI w)]) C (m_about _ Z (nI i) (nI k) (nI w) s g hI hF9 hR (by unfold cdAbout; rw [iz_nI (show i < 2 ^ 31 by omega), isN_of hi (by omega), isN_of hkl (by omega), show inB (nI w) 0 3 = true from inB_of (n := 3) (by omega) (by omega)]; rfl)) (gv (tg2 154 rfl rfl) (tg2 79 rfl rfl) (tg2 80 rfl rfl) (tg1 1 rfl rfl) (tg2 81 rfl rfl)) (by decide +kernel) ⟨Nat.le_of_ble_eq_true rfl, Nat.le_of_ble_eq_true rfl⟩ rfl cx_T rfl rfl (Nat.le_of_ble_eq_true rfl) dX3_mixedWithPoster_79 ⟨Nat.le_of_ble_eq_true rfl, Nat.le_of_ble_eq_true rfl⟩ (fun r79 g79 hp79 => ?_)
        obtain ⟨rfl, hg79⟩ := hp79
        rw [hg79]
        refine v_topi (y := ltoO s i k (nI w)) (by rw [iz_nI (show i < 2 ^ 31 by omega), iz_nI (show k < 2 ^ 31 by omega)]) ?_
        refine v_callSl (n := 2) (as := [.long (mixN (fun w => ltoO s i k (nI w)) w (mixLs s i k (mixN (fun w => toldO s i w) 8 d))), .int (ltoO s i k (nI w))]) C (c_cmixed _ Z (mixN (fun w => ltoO s i k (nI w)) w (mixLs s i k (mixN (fun w => toldO s i w) 8 d))) (ltoO s i k (nI w)) g) (gs (tg2 140 rfl rfl) (tg2 141 rfl rfl) (tg1 1 rfl rfl) (tg2 142 rfl rfl)) (by decide +kernel) ⟨Nat.le_of_ble_eq_true rfl, Nat.le_of_ble_eq_true rfl⟩ rfl rfl (Nat.le_of_ble_eq_true rfl) dX3_mixedWithPoster_82 ⟨Nat.le_of_ble_eq_true rfl, Nat.le_of_ble_eq_true rfl⟩ (fun r82 g82 hp82 => ?_)
        obtain ⟨rfl, hg82⟩ := hp82
        rw [hg82]
        refine v_topl (y := mixN (fun w => ltoO s i k (nI w)) (w + 1) (mixLs s i k (mixN (fun w => toldO s i w) 8 d))) rfl ?_
        refine v_lstore (lo' := [some (.ref (Z.ad 30)), some (.long d), none, some (.int (nI i)), some (.long (mixN (fun w => ltoO s i k (nI w)) (w + 1) (mixLs s i k (mixN (fun w => toldO s i w) 8 d)))), none, some (.int (nI (nlO s i))), some (.int (nI k)), some (.int (nI w))]) C dX3_mixedWithPoster_85 (Nat.le_of_ble_eq_true rfl) rfl rfl ?_
        refine v_iinc (lo' := [some (.ref (Z.ad 30)), some (.long d), none, some (.int (nI i)), some (.long (mixN (fun w => ltoO s i k (nI w)) (w + 1) (mixLs s i k (mixN (fun w => toldO s i w) 8 d)))), none, some (.int (nI (nlO s i))), some (.int (nI k)), some (.int ((nI w) + 1))]) C dX3_mixedWithPoster_87 rfl rfl rfl rfl ?_
        refine v_lo (lo' := [some (.ref (Z.ad 30)), some (.long d), none, some (.int (nI i)), some (.long (mixN (fun w => ltoO s i k (nI w)) (w + 1) (mixLs s i k (mixN (fun w => toldO s i w) 8 d)))), none, some (.int (nI (nlO s i))), some (.int (nI k)), some (.int (nI (w + 1)))]) (by rw [← nI_1 w]) ?_
        refine v_goto (tgt := 65) C dX3_mixedWithPoster_90 (by decide) ?_
        exact ih (w + 1) k (by omega) (by omega) hkl K
  have loopK : ∀ (n : Nat) (k : Nat) (v : Option Value), nlO s i - k < n → k ≤ nlO s i → V P (rmz 9 285 0 0) Z [some (.ref (Z.ad 30)), some (.long d), none, some (.int (nI i)), some (.long (mixLs s i k (mixN (fun w => toldO s i w) 8 d))), none, some (.int (nI (nlO s i))), some (.int (nI k)), v] 55 [] g 0 0 := by
    intro n
    induction n with
    | zero => intro k v hm9 hk; exact absurd hm9 (Nat.not_lt_zero _)
    | succ n ih =>
      intro k v hm9 hk
      refine v_iload C dX3_mixedWithPoster_55 rfl ?_
      refine v_iload C dX3_mixedWithPoster_57 rfl ?_
      refine v_icmp_ge (tgt := 99) C dX3_mixedWithPoster_59 (by decide) (fun h59 => ?_) (fun h59 => ?_)
      · have hkn : k = nlO s i := Nat.le_antisymm hk ((nI_leI (by omega) (by omega)).mp h59)
        refine v_lload C dX3_mixedWithPoster_99 rfl ?_
        exact ret _ _ _ _ dX3_mixedWithPoster_101 ⟨by rw [hkn], rfl⟩
      · have hkn : k < nlO s i := Nat.lt_of_not_le fun z => h59 ((nI_leI (by omega) (by omega)).mpr z)
        refine v_iconst (v := 0) C dX3_mixedWithPoster_62 (by decide) ?_
        refine v_topi (y := nI 0) rfl ?_
        refine v_istore (lo' := [some (.ref (Z.ad 30)), some (.long d), none, some (.int (nI i)), some (.long (mixLs s i k (mixN (fun w => toldO s i w) 8 d))), none, some (.int (nI (nlO s i))), some (.int (nI k)), some (.int (nI 0))]) C dX3_mixedWithPoster_63 (Nat.le_of_ble_eq_true rfl) rfl rfl ?_
        refine v_lo (lo' := [some (.ref (Z.ad 30)), some (.long d), none, some (.int (nI i)), some (.long (mixN (fun w => ltoO s i k (nI w)) 0 (mixLs s i k (mixN (fun w => toldO s i w) 8 d)))), none, some (.int (nI (nlO s i))), some (.int (nI k)), some (.int (nI 0))]) rfl ?_
        exact loopW 5 0 k (by omega) (by omega) hkn (fun v => ih (k + 1) v (by omega) (by omega))
  have loopT : ∀ (n : Nat) (w : Nat), 8 - w < n → w ≤ 8 → V P (rmz 9 285 0 0) Z [some (.ref (Z.ad 30)), some (.long d), none, some (.int (nI i)), some (.long (mixN (fun w => toldO s i w) w d)), none, some (.int (nI w)), none, none] 6 [] g 0 0 := by
    intro n
    induction n with
    | zero => intro w hm9 hk; exact absurd hm9 (Nat.not_lt_zero _)
    | succ n ih =>
      intro w hm9 hk
      refine v_iload C dX3_mixedWithPoster_6 rfl ?_
      refine v_bipush (v := 8) C dX3_mixedWithPoster_8 (by decide) ?_
      refine v_icmp_ge (tgt := 33) C dX3_mixedWithPoster_10 (by decide) (fun h10 => ?_) (fun h10 => ?_)
      · have hkn : w = 8 := Nat.le_antisymm hk ((nI_leI (a := 8) (by omega) (by omega)).mp h10)
        subst hkn
        refine v_aload_n C dX3_mixedWithPoster_33 rfl rfl ?_
        refine v_get C inG3 rfl 1 (by decide) (tg1 67 rfl rfl) rfl cx_T rfl dX3_mixedWithPoster_34 ?_
        refine v_iload_n C dX3_mixedWithPoster_37 rfl rfl ?_
        refine v_callVq (n := 1) (as := [.int (nI i)]) C (c_lget _ Z 32 37 (npO s) i g cx_L2 hn2 hi (by omega) (fun j => Z.ad (100 + 10 * j)) (cxE2 hn2)) (gv (tg1 169 rfl rfl) (tg1 170 rfl rfl) (tg1 171 rfl rfl) (tg1 4 rfl rfl) (tg1 172 rfl rfl)) (by decide +kernel) ⟨Nat.le_of_ble_eq_true rfl, Nat.le_of_ble_eq_true rfl⟩ rfl cx_L2 rfl rfl (Nat.le_of_ble_eq_true rfl) dX3_mixedWithPoster_38 ⟨Nat.le_of_ble_eq_true rfl, Nat.le_of_ble_eq_true rfl⟩ (fun r38 g38 hp38 => ?_)
        obtain ⟨rfl, hg38⟩ := hp38
        rw [hg38]
        refine v_st (st' := [.ref (Z.ad (100 + 10 * i))]) rfl ?_
        refine v_cast C rfl (tg1 183 rfl rfl) (cxP hP) dX3_mixedWithPoster_41 ?_
        refine v_get C inG2 rfl 2 (by decide) (tg3 94 rfl rfl) rfl (cxP hP) rfl dX3_mixedWithPoster_44 ?_
        refine v_callVi (n := 0) (as := []) C (c_lsize _ Z (100 + 10 * i + 1) (100 + 10 * i + 1 + 1) g (cxPL hP)) (gv (tg1 97 rfl rfl) (tg1 98 rfl rfl) (tg1 99 rfl rfl) (tg1 4 rfl rfl) (tg1 100 rfl rfl)) (by decide +kernel) ⟨Nat.le_of_ble_eq_true rfl, Nat.le_of_ble_eq_true rfl⟩ rfl (cxPL hP) rfl rfl (Nat.le_of_ble_eq_true rfl) dX3_mixedWithPoster_47 ⟨Nat.le_of_ble_eq_true rfl, Nat.le_of_ble_eq_true rfl⟩ (fun r47 g47 hp47 => ?_)
        obtain ⟨rfl, hg47⟩ := hp47
        rw [hg47]
        refine v_topi (y := nI (nlO s i)) hm ?_
        refine v_istore (lo' := [some (.ref (Z.ad 30)), some (.long d), none, some (.int (nI i)), some (.long (mixN (fun w => toldO s i w) 8 d)), none, some (.int (nI (nlO s i))), none, none]) C dX3_mixedWithPoster_50 (Nat.le_of_ble_eq_true rfl) rfl rfl ?_
        refine v_iconst (v := 0) C dX3_mixedWithPoster_52 (by decide) ?_
        refine v_topi (y := nI 0) rfl ?_
        refine v_istore (lo' := [some (.ref (Z.ad 30)), some (.long d), none, some (.int (nI i)), some (.long (mixN (fun w => toldO s i w) 8 d)), none, some (.int (nI (nlO s i))), some (.int (nI 0)), none]) C dX3_mixedWithPoster_53 (Nat.le_of_ble_eq_true rfl) rfl rfl ?_
        refine v_lo (lo' := [some (.ref (Z.ad 30)), some (.long d), none, some (.int (nI i)), some (.long (mixLs s i 0 (mixN (fun w => toldO s i w) 8 d))), none, some (.int (nI (nlO s i))), some (.int (nI 0)), none]) rfl ?_
        exact loopK (nlO s i + 1) 0 _ (by omega) (by omega)
      · have hkn : w < 8 := Nat.lt_of_not_le fun z => h10 ((nI_leI (a := 8) (by omega) (by omega)).mpr z)
        refine v_lload C dX3_mixedWithPoster_13 rfl ?_
        refine v_aload_n C dX3_mixedWithPoster_15 rfl rfl ?_
        refine v_iload_n C dX3_mixedWithPoster_16 rfl rfl ?_
        refine v_iload C dX3_mixedWithPoster_17 rfl ?_
        refine v_callVi (n := 2) (as := [.int (nI i), .int (nI w)]) C (m_told _ Z (nI i) (nI w) s g hI hF9 hR (by unfold cdTold; rw [isN_of hi (by omega), show inB (nI w) 0 7 = true from inB_of (n := 7) (by omega) (by omega)]; rfl)) (gv (tg2 153 rfl rfl) (tg2 48 rfl rfl) (tg2 49 rfl rfl) (tg1 1 rfl rfl) (tg2 50 rfl rfl)) (by decide +kernel) ⟨Nat.le_of_ble_eq_true rfl, Nat.le_of_ble_eq_true rfl⟩ rfl cx_T rfl rfl (Nat.le_of_ble_eq_true rfl) dX3_mixedWithPoster_19 ⟨Nat.le_of_ble_eq_true rfl, Nat.le_of_ble_eq_true rfl⟩ (fun r19 g19 hp19 => ?_)
        obtain ⟨rfl, hg19⟩ := hp19
        rw [hg19]
        refine v_topi (y := toldO s i w) (by rw [iz_nI (show i < 2 ^ 31 by omega), iz_nI (show w < 2 ^ 31 by omega)]) ?_
        refine v_callSl (n := 2) (as := [.long (mixN (fun w => toldO s i w) w d), .int (toldO s i w)]) C (c_cmixed _ Z (mixN (fun w => toldO s i w) w d) (toldO s i w) g) (gs (tg2 140 rfl rfl) (tg2 141 rfl rfl) (tg1 1 rfl rfl) (tg2 142 rfl rfl)) (by decide +kernel) ⟨Nat.le_of_ble_eq_true rfl, Nat.le_of_ble_eq_true rfl⟩ rfl rfl (Nat.le_of_ble_eq_true rfl) dX3_mixedWithPoster_22 ⟨Nat.le_of_ble_eq_true rfl, Nat.le_of_ble_eq_true rfl⟩ (fun r22 g22 hp22 => ?_)
        obtain ⟨rfl, hg22⟩ := hp22
        rw [hg22]
        refine v_topl (y := mixN (fun w => toldO s i w) (w + 1) d) rfl ?_
        refine v_lstore (lo' := [some (.ref (Z.ad 30)), some (.long d), none, some (.int (nI i)), some (.long (mixN (fun w => toldO s i w) (w + 1) d)), none, some (.int (nI w)), none, none]) C dX3_mixedWithPoster_25 (Nat.le_of_ble_eq_true rfl) rfl rfl ?_
        refine v_iinc (lo' := [some (.ref (Z.ad 30)), some (.long d), none, some (.int (nI i)), some (.long (mixN (fun w => toldO s i w) (w + 1) d)), none, some (.int ((nI w) + 1)), none, none]) C dX3_mixedWithPoster_27 rfl rfl rfl rfl ?_
        refine v_lo (lo' := [some (.ref (Z.ad 30)), some (.long d), none, some (.int (nI i)), some (.long (mixN (fun w => toldO s i w) (w + 1) d)), none, some (.int (nI (w + 1))), none, none]) (by rw [← nI_1 w]) ?_
        refine v_goto (tgt := 6) C dX3_mixedWithPoster_30 (by decide) ?_
        exact ih (w + 1) (by omega) (by omega)
  refine v_lload_n C dX3_mixedWithPoster_0 rfl rfl ?_
  refine v_topl (y := mixN (fun w => toldO s i w) 0 d) rfl ?_
  refine v_lstore (lo' := [some (.ref (Z.ad 30)), some (.long d), none, some (.int (nI i)), some (.long (mixN (fun w => toldO s i w) 0 d)), none, none, none, none]) C dX3_mixedWithPoster_1 (Nat.le_of_ble_eq_true rfl) rfl rfl ?_
  refine v_iconst (v := 0) C dX3_mixedWithPoster_3 (by decide) ?_
  refine v_topi (y := nI 0) rfl ?_
  refine v_istore (lo' := [some (.ref (Z.ad 30)), some (.long d), none, some (.int (nI i)), some (.long (mixN (fun w => toldO s i w) 0 d)), none, some (.int (nI 0)), none, none]) C dX3_mixedWithPoster_4 (Nat.le_of_ble_eq_true rfl) rfl rfl ?_
  exact loopT 9 0 (by omega) (by omega)
