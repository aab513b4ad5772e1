/-! THE CLASS: digest -/
set_option maxRecDepth 100000 in
theorem m_digest (l : Launch) (Z : Zc) (s g : MG) (hI : IvM s) (hF9 : IvF s) (hR : Rl s g) (hZ : IvZ s) : ML l yX3_digest cX3_digest 4 (rmz 10 315 0 0) Z [.ref (Z.ad 30)] g (fun r g' => r = dgO s ∧ g' = g) := by
  refine ent_l (own := RX3) (lo := [some (.ref (Z.ad 30)), none, none, none]) (by decide) rfl (by simp [lg_sl, Value.category]) rfl (fun P hl C ret => ?_)
  have hnf := (IvM_nf hI).2
  have hf5 := (IvM_nf hI).1
  have hnp := (IvM_np hI).2
  have hp6 := (IvM_np hI).1
  have hn1 : g 31 2 = nI (nfO s) := hR.1.1.trans hnf
  have hn2 : g 32 2 = nI (npO s) := hR.1.2.1.trans hnp
  have loop4 : ∀ (n : Nat) (k : Nat), npO s - k < n → k ≤ npO s → V P (rmz 10 315 0 0) Z [some (.ref (Z.ad 30)), some (.long (mixPs s k (mixFs s (nfO s) (mixN (s 9) 10 (mixN (ctO s) 7 1721))))), none, some (.int (nI k))] 81 [] g 0 0 := by
    intro n
    induction n with
    | zero => intro k hm9 hk; exact absurd hm9 (Nat.not_lt_zero _)
    | succ n ih =>
      intro k hm9 hk
      refine v_iload_n C dX3_digest_81 rfl rfl ?_
      refine v_aload_n C dX3_digest_82 rfl rfl ?_
      refine v_get C inG3 rfl 1 (by decide) (tg1 67 rfl rfl) rfl cx_T rfl dX3_digest_83 ?_
      refine v_callVi (n := 0) (as := []) C (c_lsize _ Z 32 37 g cx_L2) (gv (tg1 97 rfl rfl) (tg1 98 rfl rfl) (tg1 99 rfl rfl) (tg1 4 rfl rfl) (tg1 100 rfl rfl)) (by decide +kernel) ⟨Nat.le_of_ble_eq_true rfl, Nat.le_of_ble_eq_true rfl⟩ rfl cx_L2 rfl rfl (Nat.le_of_ble_eq_true rfl) dX3_digest_86 ⟨Nat.le_of_ble_eq_true rfl, Nat.le_of_ble_eq_true rfl⟩ (fun r86 g86 hp86 => ?_)
      obtain ⟨rfl, hg86⟩ := hp86
      rw [hg86]
      refine v_topi (y := nI (npO s)) hn2 ?_
      refine v_icmp_ge (tgt := 105) C dX3_digest_89 (by decide) (fun h89 => ?_) (fun h89 => ?_)
      · have hkn : k = npO s := Nat.le_antisymm hk ((nI_leI (by omega) (by omega)).mp h89)
        rw [hkn]
        refine v_lload_n C dX3_digest_105 rfl rfl ?_
        exact ret _ _ _ _ dX3_digest_106 ⟨rfl, rfl⟩
      · have hkn : k < npO s := Nat.lt_of_not_le fun z => h89 ((nI_leI (by omega) (by omega)).mpr z)
        refine v_aload_n C dX3_digest_92 rfl rfl ?_
        refine v_lload_n C dX3_digest_93 rfl rfl ?_
        refine v_iload_n C dX3_digest_94 rfl rfl ?_
        refine v_callVl (n := 2) (as := [.long (mixPs s k (mixFs s (nfO s) (mixN (s 9) 10 (mixN (ctO s) 7 1721)))), .int (nI k)]) C (c_mixedWithPoster _ Z (mixPs s k (mixFs s (nfO s) (mixN (s 9) 10 (mixN (ctO s) 7 1721)))) k s g hI hF9 hR hkn) (gv (tg2 149 rfl rfl) (tg2 151 rfl rfl) (tg0 15 rfl rfl) (tg1 1 rfl rfl) (tg2 152 rfl rfl)) (by decide +kernel) ⟨Nat.le_of_ble_eq_true rfl, Nat.le_of_ble_eq_true rfl⟩ rfl cx_T rfl rfl (Nat.le_of_ble_eq_true rfl) dX3_digest_95 ⟨Nat.le_of_ble_eq_true rfl, Nat.le_of_ble_eq_true rfl⟩ (fun r95 g95 hp95 => ?_)
        obtain ⟨rfl, hg95⟩ := hp95
        rw [hg95]
        refine v_topl (y := mixPs s (k + 1) (mixFs s (nfO s) (mixN (s 9) 10 (mixN (ctO s) 7 1721)))) rfl ?_
        refine v_lstore_n (lo' := [some (.ref (Z.ad 30)), some (.long (mixPs s (k + 1) (mixFs s (nfO s) (mixN (s 9) 10 (mixN (ctO s) 7 1721))))), none, some (.int (nI k))]) C dX3_digest_98 rfl (Nat.le_of_ble_eq_true rfl) rfl rfl ?_
        refine v_iinc (lo' := [some (.ref (Z.ad 30)), some (.long (mixPs s (k + 1) (mixFs s (nfO s) (mixN (s 9) 10 (mixN (ctO s) 7 1721))))), none, some (.int ((nI k) + 1))]) C dX3_digest_99 rfl rfl rfl rfl ?_
        refine v_lo (lo' := [some (.ref (Z.ad 30)), some (.long (mixPs s (k + 1) (mixFs s (nfO s) (mixN (s 9) 10 (mixN (ctO s) 7 1721))))), none, some (.int (nI (k + 1)))]) (by rw [← nI_1 k]) ?_
        refine v_goto (tgt := 81) C dX3_digest_102 (by decide) ?_
        exact ih (k + 1) (by omega) (by omega)
  have loop3 : ∀ (n : Nat) (k : Nat), nfO s - k < n → k ≤ nfO s → V P (rmz 10 315 0 0) Z [some (.ref (Z.ad 30)), some (.long (mixFs s k (mixN (s 9) 10 (mixN (ctO s) 7 1721)))), none, some (.int (nI k))] 55 [] g 0 0 := by
    intro n
    induction n with
    | zero => intro k hm9 hk; exact absurd hm9 (Nat.not_lt_zero _)
    | succ n ih =>
      intro k hm9 hk
      refine v_iload_n C dX3_digest_55 rfl rfl ?_
      refine v_aload_n C dX3_digest_56 rfl rfl ?_
      refine v_get C inG3 rfl 0 (by decide) (tg1 66 rfl rfl) rfl cx_T rfl dX3_digest_57 ?_
      refine v_callVi (n := 0) (as := []) C (c_lsize _ Z 31 36 g cx_L1) (gv (tg1 97 rfl rfl) (tg1 98 rfl rfl) (tg1 99 rfl rfl) (tg1 4 rfl rfl) (tg1 100 rfl rfl)) (by decide +kernel) ⟨Nat.le_of_ble_eq_true rfl, Nat.le_of_ble_eq_true rfl⟩ rfl cx_L1 rfl rfl (Nat.le_of_ble_eq_true rfl) dX3_digest_60 ⟨Nat.le_of_ble_eq_true rfl, Nat.le_of_ble_eq_true rfl⟩ (fun r60 g60 hp60 => ?_)
      obtain ⟨rfl, hg60⟩ := hp60
      rw [hg60]
      refine v_topi (y := nI (nfO s)) hn1 ?_
      refine v_icmp_ge (tgt := 79) C dX3_digest_63 (by decide) (fun h63 => ?_) (fun h63 => ?_)
      · have hkn : k = nfO s := Nat.le_antisymm hk ((nI_leI (by omega) (by omega)).mp h63)
        rw [hkn]
        refine v_iconst (v := 0) C dX3_digest_79 (by decide) ?_
        refine v_topi (y := nI 0) rfl ?_
        refine v_istore_n (lo' := [some (.ref (Z.ad 30)), some (.long (mixFs s (nfO s) (mixN (s 9) 10 (mixN (ctO s) 7 1721)))), none, some (.int (nI 0))]) C dX3_digest_80 rfl (Nat.le_of_ble_eq_true rfl) rfl rfl ?_
        refine v_lo (lo' := [some (.ref (Z.ad 30)), some (.long (mixPs s 0 (mixFs s (nfO s) (mixN (s 9) 10 (mixN (ctO s) 7 1721))))), none, some (.int (nI 0))]) rfl ?_
        exact loop4 (npO s + 1) 0 (by omega) (by omega)
      · have hkn : k < nfO s := Nat.lt_of_not_le fun z => h63 ((nI_leI (by omega) (by omega)).mpr z)
        refine v_aload_n C dX3_digest_66 rfl rfl ?_
        refine v_lload_n C dX3_digest_67 rfl rfl ?_
        refine v_iload_n C dX3_digest_68 rfl rfl ?_
        refine v_callVl (n := 2) (as := [.long (mixFs s k (mixN (s 9) 10 (mixN (ctO s) 7 1721))), .int (nI k)]) C (c_mixedWithFount _ Z (mixFs s k (mixN (s 9) 10 (mixN (ctO s) 7 1721))) k s g hI hF9 hR hkn) (gv (tg2 144 rfl rfl) (tg2 146 rfl rfl) (tg0 14 rfl rfl) (tg1 1 rfl rfl) (tg2 147 rfl rfl)) (by decide +kernel) ⟨Nat.le_of_ble_eq_true rfl, Nat.le_of_ble_eq_true rfl⟩ rfl cx_T rfl rfl (Nat.le_of_ble_eq_true rfl) dX3_digest_69 ⟨Nat.le_of_ble_eq_true rfl, Nat.le_of_ble_eq_true rfl⟩ (fun r69 g69 hp69 => ?_)
        obtain ⟨rfl, hg69⟩ := hp69
        rw [hg69]
        refine v_topl (y := mixFs s (k + 1) (mixN (s 9) 10 (mixN (ctO s) 7 1721))) rfl ?_
        refine v_lstore_n (lo' := [some (.ref (Z.ad 30)), some (.long (mixFs s (k + 1) (mixN (s 9) 10 (mixN (ctO s) 7 1721)))), none, some (.int (nI k))]) C dX3_digest_72 rfl (Nat.le_of_ble_eq_true rfl) rfl rfl ?_
        refine v_iinc (lo' := [some (.ref (Z.ad 30)), some (.long (mixFs s (k + 1) (mixN (s 9) 10 (mixN (ctO s) 7 1721)))), none, some (.int ((nI k) + 1))]) C dX3_digest_73 rfl rfl rfl rfl ?_
        refine v_lo (lo' := [some (.ref (Z.ad 30)), some (.long (mixFs s (k + 1) (mixN (s 9) 10 (mixN (ctO s) 7 1721)))), none, some (.int (nI (k + 1)))]) (by rw [← nI_1 k]) ?_
        refine v_goto (tgt := 55) C dX3_digest_76 (by decide) ?_
        exact ih (k + 1) (by omega) (by omega)
  have loop2 : ∀ (n : Nat) (k : Nat), 10 - k < n → k ≤ 10 → V P (rmz 10 315 0 0) Z [some (.ref (Z.ad 30)), some (.long (mixN (s 9) k (mixN (ctO s) 7 1721))), none, some (.int (nI k))] 30 [] g 0 0 := by
    intro n
    induction n with
    | zero => intro k hm9 hk; exact absurd hm9 (Nat.not_lt_zero _)
    | succ n ih =>
      intro k hm9 hk
      refine v_iload_n C dX3_digest_30 rfl rfl ?_
      refine v_bipush (v := 10) C dX3_digest_31 (by decide) ?_
      refine v_icmp_ge (tgt := 53) C dX3_digest_33 (by decide) (fun h33 => ?_) (fun h33 => ?_)
      · have hkn : k = 10 := Nat.le_antisymm hk ((nI_leI (a := 10) (by decide) (by omega)).mp h33)
        rw [hkn]
        refine v_iconst (v := 0) C dX3_digest_53 (by decide) ?_
        refine v_topi (y := nI 0) rfl ?_
        refine v_istore_n (lo' := [some (.ref (Z.ad 30)), some (.long (mixN (s 9) 10 (mixN (ctO s) 7 1721))), none, some (.int (nI 0))]) C dX3_digest_54 rfl (Nat.le_of_ble_eq_true rfl) rfl rfl ?_
        refine v_lo (lo' := [some (.ref (Z.ad 30)), some (.long (mixFs s 0 (mixN (s 9) 10 (mixN (ctO s) 7 1721)))), none, some (.int (nI 0))]) rfl ?_
        exact loop3 (nfO s + 1) 0 (by omega) (by omega)
      · have hkn : k < 10 := Nat.lt_of_not_le fun z => h33 ((nI_leI (a := 10) (by decide) (by omega)).mpr z)
        refine v_lload_n C dX3_digest_36 rfl rfl ?_
        refine v_aload_n C dX3_digest_37 rfl rfl ?_
        refine v_get C inG3 rfl 2 (by decide) (tg1 68 rfl rfl) rfl cx_T rfl dX3_digest_38 ?_
        refine v_iload_n C dX3_digest_41 rfl rfl ?_
        refine v_ialdN (a := k) C cx_O ⟨hkn, by decide⟩ dX3_digest_42 ?_
        refine v_topi (y := s 9 k) (hR.1.2.2.2.2.1 k hkn) ?_
        refine v_callSl (n := 2) (as := [.long (mixN (s 9) k (mixN (ctO s) 7 1721)), .int (s 9 k)]) C (c_cmixed _ Z (mixN (s 9) k (mixN (ctO s) 7 1721)) (s 9 k) g) (gs (tg2 140 rfl rfl) (tg2 141 rfl rfl) (tg1 1 rfl rfl) (tg2 142 rfl rfl)) (by decide +kernel) ⟨Nat.le_of_ble_eq_true rfl, Nat.le_of_ble_eq_true rfl⟩ rfl rfl (Nat.le_of_ble_eq_true rfl) dX3_digest_43 ⟨Nat.le_of_ble_eq_true rfl, Nat.le_of_ble_eq_true rfl⟩ (fun r43 g43 hp43 => ?_)
        obtain ⟨rfl, hg43⟩ := hp43
        rw [hg43]
        refine v_topl (y := mixN (s 9) (k + 1) (mixN (ctO s) 7 1721)) rfl ?_
        refine v_lstore_n (lo' := [some (.ref (Z.ad 30)), some (.long (mixN (s 9) (k + 1) (mixN (ctO s) 7 1721))), none, some (.int (nI k))]) C dX3_digest_46 rfl (Nat.le_of_ble_eq_true rfl) rfl rfl ?_
        refine v_iinc (lo' := [some (.ref (Z.ad 30)), some (.long (mixN (s 9) (k + 1) (mixN (ctO s) 7 1721))), none, some (.int ((nI k) + 1))]) C dX3_digest_47 rfl rfl rfl rfl ?_
        refine v_lo (lo' := [some (.ref (Z.ad 30)), some (.long (mixN (s 9) (k + 1) (mixN (ctO s) 7 1721))), none, some (.int (nI (k + 1)))]) (by rw [← nI_1 k]) ?_
        refine v_goto (tgt := 30) C dX3_digest_50 (by decide) ?_
        exact ih (k + 1) (by omega) (by omega)
  have loop1 : ∀ (n : Nat) (k : Nat), 7 - k < n → k ≤ 7 → V P (rmz 10 315 0 0) Z [some (.ref (Z.ad 30)), some (.long (mixN (ctO s) k 1721)), none, some (.int (nI k))] 6 [] g 0 0 := by
    intro n
    induction n with
    | zero => intro k hm9 hk; exact absurd hm9 (Nat.not_lt_zero _)
    | succ n ih =>
      intro k hm9 hk
      refine v_iload_n C dX3_digest_6 rfl rfl ?_
      refine v_bipush (v := 7) C dX3_digest_7 (by decide) ?_
      refine v_icmp_ge (tgt := 28) C dX3_digest_9 (by decide) (fun h9 => ?_) (fun h9 => ?_)
      · have hkn : k = 7 := Nat.le_antisymm hk ((nI_leI (a := 7) (by decide) (by omega)).mp h9)
        rw [hkn]
        refine v_iconst (v := 0) C dX3_digest_28 (by decide) ?_
        refine v_topi (y := nI 0) rfl ?_
        refine v_istore_n (lo' := [some (.ref (Z.ad 30)), some (.long (mixN (ctO s) 7 1721)), none, some (.int (nI 0))]) C dX3_digest_29 rfl (Nat.le_of_ble_eq_true rfl) rfl rfl ?_
        refine v_lo (lo' := [some (.ref (Z.ad 30)), some (.long (mixN (s 9) 0 (mixN (ctO s) 7 1721))), none, some (.int (nI 0))]) rfl ?_
        exact loop2 11 0 (by omega) (by omega)
      · have hkn : k < 7 := Nat.lt_of_not_le fun z => h9 ((nI_leI (a := 7) (by decide) (by omega)).mpr z)
        refine v_lload_n C dX3_digest_12 rfl rfl ?_
        refine v_aload_n C dX3_digest_13 rfl rfl ?_
        refine v_iload_n C dX3_digest_14 rfl rfl ?_
        refine v_callVi (n := 1) (as := [.int (nI k)]) C (m_count _ Z (nI k) s g hI hZ hR (by unfold cdCount; rw [show inB (nI k) 0 6 = true from inB_of (n := 6) (by omega) (by omega)]; rfl)) (gv (tg2 139 rfl rfl) (tg2 89 rfl rfl) (tg2 90 rfl rfl) (tg1 1 rfl rfl) (tg2 91 rfl rfl)) (by decide +kernel) ⟨Nat.le_of_ble_eq_true rfl, Nat.le_of_ble_eq_true rfl⟩ rfl cx_T rfl rfl (Nat.le_of_ble_eq_true rfl) dX3_digest_15 ⟨Nat.le_of_ble_eq_true rfl, Nat.le_of_ble_eq_true rfl⟩ (fun r15 g15 hp15 => ?_)
        obtain ⟨rfl, hg15⟩ := hp15
        rw [hg15]
        refine v_topi (y := ctO s k) (by rw [iz_nI (by omega)]) ?_
        refine v_callSl (n := 2) (as := [.long (mixN (ctO s) k 1721), .int (ctO s k)]) C (c_cmixed _ Z (mixN (ctO s) k 1721) (ctO s k) g) (gs (tg2 140 rfl rfl) (tg2 141 rfl rfl) (tg1 1 rfl rfl) (tg2 142 rfl rfl)) (by decide +kernel) ⟨Nat.le_of_ble_eq_true rfl, Nat.le_of_ble_eq_true rfl⟩ rfl rfl (Nat.le_of_ble_eq_true rfl) dX3_digest_18 ⟨Nat.le_of_ble_eq_true rfl, Nat.le_of_ble_eq_true rfl⟩ (fun r18 g18 hp18 => ?_)
        obtain ⟨rfl, hg18⟩ := hp18
        rw [hg18]
        refine v_topl (y := mixN (ctO s) (k + 1) 1721) rfl ?_
        refine v_lstore_n (lo' := [some (.ref (Z.ad 30)), some (.long (mixN (ctO s) (k + 1) 1721)), none, some (.int (nI k))]) C dX3_digest_21 rfl (Nat.le_of_ble_eq_true rfl) rfl rfl ?_
        refine v_iinc (lo' := [some (.ref (Z.ad 30)), some (.long (mixN (ctO s) (k + 1) 1721)), none, some (.int ((nI k) + 1))]) C dX3_digest_22 rfl rfl rfl rfl ?_
        refine v_lo (lo' := [some (.ref (Z.ad 30)), some (.long (mixN (ctO s) (k + 1) 1721)), none, some (.int (nI (k + 1)))]) (by rw [← nI_1 k]) ?_
        refine v_goto (tgt := 6) C dX3_digest_25 (by decide) ?_
        exact ih (k + 1) (by omega) (by omega)
  refine v_ldc2 (v := 1721) C (tg2 138 rfl rfl) dX3_digest_0 ?_
  refine v_topl (y := mixN (ctO s) 0 1721) rfl ?_
  refine v_lstore_n (lo' := [some (.ref (Z.ad 30)), some (.long (mixN (ctO s) 0 1721)), none, none]) C dX3_digest_3 rfl (Nat.le_of_ble_eq_true rfl) rfl rfl ?_
  refine v_iconst (v := 0) C dX3_digest_4 (by decide) ?_
  refine v_topi (y := nI 0) rfl ?_
  refine v_istore_n (lo' := [some (.ref (Z.ad 30)), some (.long (mixN (ctO s) 0 1721)), none, some (.int (nI 0))]) C dX3_digest_5 rfl (Nat.le_of_ble_eq_true rfl) rfl rfl ?_
  exact loop1 8 0 (by omega) (by omega)
