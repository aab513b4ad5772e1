/-! THE REFERENCE: buy, buyAll, setOther, setTown, poster, line -/
theorem isN_ex {n : Nat} {v : Int32} (h : isN n v = true) : ∃ a, a < n ∧ v = nI a := ⟨iz v, (isN_nI h).2, (isN_nI h).1⟩
theorem atO_nI {f k : Nat} (hf : f < 5) (hk : k < 10) : atO (nI f) (nI k) = 10 * f + k := by unfold atO; rw [iz_nI (by omega), iz_nI (by omega)]
set_option maxRecDepth 100000 in
theorem c_setTown (l : Launch) (Z : Zc) (t p v : Int32) (g : MG) (hI : IvM g) : MI l yX4_setTown cX4_setTown 5 (some .int) (rmz 2 43 0 0) Z [.ref (Z.ad 0), .int t, .int p, .int v] g (PM g (cdSetTown t p v) (100 * g 10 (iz t) + g 11 (iz t)) (stSetTown g t p v)) := by
  refine ent_i (own := RX4) (lo := [some (.ref (Z.ad 0)), some (.int t), some (.int p), some (.int v), none]) (by decide) rfl (by simp [lg_sl, Value.category]) rfl (fun P hl C ret => ?_)
  obtain ⟨⟨nf, hf5, hnf⟩, ⟨np, hp6, hnp⟩, hot, hnl, htn, his, hwd, htk⟩ := id hI
  have enf : nfO g = nf := by unfold nfO; rw [hnf]; exact iz_nI (by omega)
  have enp : npO g = np := by unfold npO; rw [hnp]; exact iz_nI (by omega)
  refine v_aload_n C dX4_setTown_0 rfl rfl ?_
  refine v_iconst (v := 0) C dX4_setTown_1 (by decide) ?_
  refine v_put C inG4 rfl tyX4 tyX4_ok nmX4 0 (by decide) (tg3 195 rfl rfl) rfl rfl (ty := .int) rfl rfl rfl cx_M (Nat.le_of_ble_eq_true rfl) rfl (by omega) cx_M dX4_setTown_2 ?_
  refine v_iload_n C dX4_setTown_5 rfl rfl ?_
  refine v_callSi (n := 1) (as := [.int t]) C (c_isTown _ Z t (wr g 0 0 0)) (gs (tg4 76 rfl rfl) (tg4 77 rfl rfl) (tg1 6 rfl rfl) (tg4 78 rfl rfl)) (by decide +kernel) ⟨Nat.le_of_ble_eq_true rfl, Nat.le_of_ble_eq_true rfl⟩ rfl rfl (Nat.le_of_ble_eq_true rfl) dX4_setTown_6 ⟨Nat.le_of_ble_eq_true rfl, Nat.le_of_ble_eq_true rfl⟩ (fun r6 g6 hp6 => ?_)
  obtain ⟨rfl, hg6⟩ := hp6
  rw [hg6]
  refine v_if_ne (tgt := 18) C dX4_setTown_9 (by decide) (fun h9 => ?_) (fun h9 => ?_)
  · have k9 := bI_1.mp h9
    refine v_iload_n C dX4_setTown_18 rfl rfl ?_
    refine v_iconst (v := 0) C dX4_setTown_19 (by decide) ?_
    refine v_bipush (v := 9) C dX4_setTown_20 (by decide) ?_
    refine v_callSi (n := 3) (as := [.int p, .int 0, .int 9]) C (c_isIn _ Z p 0 9 (wr g 0 0 0)) (gs (tg4 45 rfl rfl) (tg4 46 rfl rfl) (tg1 6 rfl rfl) (tg4 47 rfl rfl)) (by decide +kernel) ⟨Nat.le_of_ble_eq_true rfl, Nat.le_of_ble_eq_true rfl⟩ rfl rfl (Nat.le_of_ble_eq_true rfl) dX4_setTown_22 ⟨Nat.le_of_ble_eq_true rfl, Nat.le_of_ble_eq_true rfl⟩ (fun r22 g22 hp22 => ?_)
    obtain ⟨rfl, hg22⟩ := hp22
    rw [hg22]
    refine v_if_eq (tgt := 38) C dX4_setTown_25 (by decide) (fun h25 => ?_) (fun h25 => ?_)
    · have k25 := bI_0.mp h25
      refine v_aload_n C dX4_setTown_38 rfl rfl ?_
      refine v_iconst (v := 2) C dX4_setTown_39 (by decide) ?_
      refine v_callVi (n := 1) (as := [.int 2]) C (c_no _ Z 2 (wr g 0 0 0)) (gv (tg4 48 rfl rfl) (tg4 50 rfl rfl) (tg0 20 rfl rfl) (tg1 6 rfl rfl) (tg4 51 rfl rfl)) (by decide +kernel) ⟨Nat.le_of_ble_eq_true rfl, Nat.le_of_ble_eq_true rfl⟩ rfl cx_M rfl rfl (Nat.le_of_ble_eq_true rfl) dX4_setTown_40 ⟨Nat.le_of_ble_eq_true rfl, Nat.le_of_ble_eq_true rfl⟩ (fun r40 g40 hp40 => ?_)
      obtain ⟨rfl, hg40⟩ := hp40
      rw [hg40]
      exact ret _ _ _ _ dX4_setTown_43 (PM.no (k := 2) (by unfold cdSetTown; rw [if_neg (by rw [k9]; decide), if_pos (Or.inl k25)]) (by decide) (by unfold stSetTown; rw [if_neg (by rw [show cdSetTown t p v = 2 by unfold cdSetTown; rw [if_neg (by rw [k9]; decide), if_pos (Or.inl k25)]]; decide)]) (fun j h1 h2 => wr_ne _ _ _ _ (Or.inr (by omega))) (fun q h1 h2 => wr_row _ _ _ _ (by omega)) (fun q hq => wr_row _ _ _ _ (by omega)))
    · have k25 := bI_1.mp h25
      refine v_iload_n C dX4_setTown_28 rfl rfl ?_
      refine v_iconst (v := 0) C dX4_setTown_29 (by decide) ?_
      refine v_bipush (v := 30) C dX4_setTown_30 (by decide) ?_
      refine v_callSi (n := 3) (as := [.int v, .int 0, .int 30]) C (c_isIn _ Z v 0 30 (wr g 0 0 0)) (gs (tg4 45 rfl rfl) (tg4 46 rfl rfl) (tg1 6 rfl rfl) (tg4 47 rfl rfl)) (by decide +kernel) ⟨Nat.le_of_ble_eq_true rfl, Nat.le_of_ble_eq_true rfl⟩ rfl rfl (Nat.le_of_ble_eq_true rfl) dX4_setTown_32 ⟨Nat.le_of_ble_eq_true rfl, Nat.le_of_ble_eq_true rfl⟩ (fun r32 g32 hp32 => ?_)
      obtain ⟨rfl, hg32⟩ := hp32
      rw [hg32]
      refine v_if_ne (tgt := 44) C dX4_setTown_35 (by decide) (fun h35 => ?_) (fun h35 => ?_)
      · have k35 := bI_1.mp h35
        have hcd : cdSetTown t p v = 0 := by unfold cdSetTown; rw [if_neg (by rw [k9]; decide), if_neg (by rw [k25, k35]; decide)]
        obtain ⟨a, ha, rfl⟩ := isN_ex k9
        have ea : iz (nI a) = a := iz_nI (by omega)
        refine v_bipush (v := 100) C dX4_setTown_44 (by decide) ?_
        refine v_aload_n C dX4_setTown_46 rfl rfl ?_
        refine v_get C inG4 rfl 10 (by decide) (tg3 205 rfl rfl) rfl cx_M rfl dX4_setTown_47 ?_
        refine v_iload_n C dX4_setTown_50 rfl rfl ?_
        refine v_ialdN (a := a) C cxA10 ⟨ha, by decide⟩ dX4_setTown_51 ?_
        refine v_imul C dX4_setTown_52 ?_
        refine v_aload_n C dX4_setTown_53 rfl rfl ?_
        refine v_get C inG4 rfl 11 (by decide) (tg3 206 rfl rfl) rfl cx_M rfl dX4_setTown_54 ?_
        refine v_iload_n C dX4_setTown_57 rfl rfl ?_
        refine v_ialdN (a := a) C cxA11 ⟨ha, by decide⟩ dX4_setTown_58 ?_
        refine v_iadd C dX4_setTown_59 ?_
        refine v_istore (lo' := [some (.ref (Z.ad 0)), some (.int (nI a)), some (.int p), some (.int v), some (.int ((100 * ((wr g 0 0 0) 10 a)) + ((wr g 0 0 0) 11 a)))]) C dX4_setTown_60 (Nat.le_of_ble_eq_true rfl) rfl rfl ?_
        refine v_aload_n C dX4_setTown_62 rfl rfl ?_
        refine v_get C inG4 rfl 10 (by decide) (tg3 205 rfl rfl) rfl cx_M rfl dX4_setTown_63 ?_
        refine v_iload_n C dX4_setTown_66 rfl rfl ?_
        refine v_iload_n C dX4_setTown_67 rfl rfl ?_
        refine v_iastN (a := a) C (fun _ _ => cxA10) rfl (by omega) ⟨ha, by decide⟩ dX4_setTown_68 ?_
        refine v_aload_n C dX4_setTown_69 rfl rfl ?_
        refine v_get C inG4 rfl 11 (by decide) (tg3 206 rfl rfl) rfl cx_M rfl dX4_setTown_70 ?_
        refine v_iload_n C dX4_setTown_73 rfl rfl ?_
        refine v_iload_n C dX4_setTown_74 rfl rfl ?_
        refine v_iastN (a := a) C (fun _ _ => cxA11) rfl (by omega) ⟨ha, by decide⟩ dX4_setTown_75 ?_
        refine v_iload C dX4_setTown_76 rfl ?_
        exact ret _ _ _ _ dX4_setTown_78 ⟨by rw [hcd]; rfl, fun _ => by rw [ea]; rfl, by unfold stSetTown; rw [if_pos hcd, ea]; exact RE.of (fun j h1 h2 => by simp only [wr, rwr]; repeat' (first | rfl | (exfalso; omega) | split)) (fun q h1 h2 => by funext b; simp only [wr, rwr]; repeat' (first | rfl | (exfalso; omega) | split)), fun q hq => by funext b; simp only [wr, rwr]; repeat' (first | rfl | (exfalso; omega) | split)⟩
      · have k35 := bI_0.mp h35
        refine v_aload_n C dX4_setTown_38 rfl rfl ?_
        refine v_iconst (v := 2) C dX4_setTown_39 (by decide) ?_
        refine v_callVi (n := 1) (as := [.int 2]) C (c_no _ Z 2 (wr g 0 0 0)) (gv (tg4 48 rfl rfl) (tg4 50 rfl rfl) (tg0 20 rfl rfl) (tg1 6 rfl rfl) (tg4 51 rfl rfl)) (by decide +kernel) ⟨Nat.le_of_ble_eq_true rfl, Nat.le_of_ble_eq_true rfl⟩ rfl cx_M rfl rfl (Nat.le_of_ble_eq_true rfl) dX4_setTown_40 ⟨Nat.le_of_ble_eq_true rfl, Nat.le_of_ble_eq_true rfl⟩ (fun r40 g40 hp40 => ?_)
        obtain ⟨rfl, hg40⟩ := hp40
        rw [hg40]
        exact ret _ _ _ _ dX4_setTown_43 (PM.no (k := 2) (by unfold cdSetTown; rw [if_neg (by rw [k9]; decide), if_pos (Or.inr k35)]) (by decide) (by unfold stSetTown; rw [if_neg (by rw [show cdSetTown t p v = 2 by unfold cdSetTown; rw [if_neg (by rw [k9]; decide), if_pos (Or.inr k35)]]; decide)]) (fun j h1 h2 => wr_ne _ _ _ _ (Or.inr (by omega))) (fun q h1 h2 => wr_row _ _ _ _ (by omega)) (fun q hq => wr_row _ _ _ _ (by omega)))
  · have k9 := bI_0.mp h9
    refine v_aload_n C dX4_setTown_12 rfl rfl ?_
    refine v_iconst (v := 1) C dX4_setTown_13 (by decide) ?_
    refine v_callVi (n := 1) (as := [.int 1]) C (c_no _ Z 1 (wr g 0 0 0)) (gv (tg4 48 rfl rfl) (tg4 50 rfl rfl) (tg0 20 rfl rfl) (tg1 6 rfl rfl) (tg4 51 rfl rfl)) (by decide +kernel) ⟨Nat.le_of_ble_eq_true rfl, Nat.le_of_ble_eq_true rfl⟩ rfl cx_M rfl rfl (Nat.le_of_ble_eq_true rfl) dX4_setTown_14 ⟨Nat.le_of_ble_eq_true rfl, Nat.le_of_ble_eq_true rfl⟩ (fun r14 g14 hp14 => ?_)
    obtain ⟨rfl, hg14⟩ := hp14
    rw [hg14]
    exact ret _ _ _ _ dX4_setTown_17 (PM.no (k := 1) (by unfold cdSetTown; rw [if_pos k9]) (by decide) (by unfold stSetTown; rw [if_neg (by rw [show cdSetTown t p v = 1 by unfold cdSetTown; rw [if_pos k9]]; decide)]) (fun j h1 h2 => wr_ne _ _ _ _ (Or.inr (by omega))) (fun q h1 h2 => wr_row _ _ _ _ (by omega)) (fun q hq => wr_row _ _ _ _ (by omega)))
set_option maxRecDepth 100000 in
theorem c_setOther (l : Launch) (Z : Zc) (k o : Int32) (g : MG) (hI : IvM g) : MI l yX4_setOther cX4_setOther 4 (some .int) (rmz 2 43 0 0) Z [.ref (Z.ad 0), .int k, .int o] g (PM g (cdSetOther k o) (g 9 (iz k)) (stSetOther g k o)) := by
  refine ent_i (own := RX4) (lo := [some (.ref (Z.ad 0)), some (.int k), some (.int o), none]) (by decide) rfl (by simp [lg_sl, Value.category]) rfl (fun P hl C ret => ?_)
  obtain ⟨⟨nf, hf5, hnf⟩, ⟨np, hp6, hnp⟩, hot, hnl, htn, his, hwd, htk⟩ := id hI
  have enf : nfO g = nf := by unfold nfO; rw [hnf]; exact iz_nI (by omega)
  have enp : npO g = np := by unfold npO; rw [hnp]; exact iz_nI (by omega)
  refine v_aload_n C dX4_setOther_0 rfl rfl ?_
  refine v_iconst (v := 0) C dX4_setOther_1 (by decide) ?_
  refine v_put C inG4 rfl tyX4 tyX4_ok nmX4 0 (by decide) (tg3 195 rfl rfl) rfl rfl (ty := .int) rfl rfl rfl cx_M (Nat.le_of_ble_eq_true rfl) rfl (by omega) cx_M dX4_setOther_2 ?_
  refine v_iload_n C dX4_setOther_5 rfl rfl ?_
  refine v_callSi (n := 1) (as := [.int k]) C (c_isLetter _ Z k (wr g 0 0 0)) (gs (tg4 60 rfl rfl) (tg4 61 rfl rfl) (tg1 6 rfl rfl) (tg4 62 rfl rfl)) (by decide +kernel) ⟨Nat.le_of_ble_eq_true rfl, Nat.le_of_ble_eq_true rfl⟩ rfl rfl (Nat.le_of_ble_eq_true rfl) dX4_setOther_6 ⟨Nat.le_of_ble_eq_true rfl, Nat.le_of_ble_eq_true rfl⟩ (fun r6 g6 hp6 => ?_)
  obtain ⟨rfl, hg6⟩ := hp6
  rw [hg6]
  refine v_if_eq (tgt := 24) C dX4_setOther_9 (by decide) (fun h9 => ?_) (fun h9 => ?_)
  · have k9 := bI_0.mp h9
    refine v_aload_n C dX4_setOther_24 rfl rfl ?_
    refine v_iconst (v := 1) C dX4_setOther_25 (by decide) ?_
    refine v_callVi (n := 1) (as := [.int 1]) C (c_no _ Z 1 (wr g 0 0 0)) (gv (tg4 48 rfl rfl) (tg4 50 rfl rfl) (tg0 20 rfl rfl) (tg1 6 rfl rfl) (tg4 51 rfl rfl)) (by decide +kernel) ⟨Nat.le_of_ble_eq_true rfl, Nat.le_of_ble_eq_true rfl⟩ rfl cx_M rfl rfl (Nat.le_of_ble_eq_true rfl) dX4_setOther_26 ⟨Nat.le_of_ble_eq_true rfl, Nat.le_of_ble_eq_true rfl⟩ (fun r26 g26 hp26 => ?_)
    obtain ⟨rfl, hg26⟩ := hp26
    rw [hg26]
    exact ret _ _ _ _ dX4_setOther_29 (PM.no (k := 1) (by unfold cdSetOther; rw [if_pos (Or.inl k9)]) (by decide) (by unfold stSetOther; rw [if_neg (by rw [show cdSetOther k o = 1 by unfold cdSetOther; rw [if_pos (Or.inl k9)]]; decide)]) (fun j h1 h2 => wr_ne _ _ _ _ (Or.inr (by omega))) (fun q h1 h2 => wr_row _ _ _ _ (by omega)) (fun q hq => wr_row _ _ _ _ (by omega)))
  · have k9 := bI_1.mp h9
    refine v_iload_n C dX4_setOther_12 rfl rfl ?_
    refine v_iconst (v := (-1)) C dX4_setOther_13 (by decide) ?_
    refine v_icmp_eq (tgt := 30) C dX4_setOther_14 (by decide) (fun h14 => ?_) (fun h14 => ?_)
    · refine v_iload_n C dX4_setOther_30 rfl rfl ?_
      refine v_iload_n C dX4_setOther_31 rfl rfl ?_
      refine v_icmp_ne (tgt := 41) C dX4_setOther_32 (by decide) (fun h32 => ?_) (fun h32 => ?_)
      · have hcd : cdSetOther k o = 0 := by unfold cdSetOther; rw [if_neg (by rintro (q | ⟨q1, q2⟩); (· rw [k9] at q; cases q); (· exact q1 h14)), if_neg h32]
        obtain ⟨a, ha, rfl⟩ := isN_ex k9
        have ea : iz (nI a) = a := iz_nI (by omega)
        refine v_aload_n C dX4_setOther_41 rfl rfl ?_
        refine v_get C inG4 rfl 9 (by decide) (tg3 204 rfl rfl) rfl cx_M rfl dX4_setOther_42 ?_
        refine v_iload_n C dX4_setOther_45 rfl rfl ?_
        refine v_ialdN (a := a) C cxA9 ⟨ha, by decide⟩ dX4_setOther_46 ?_
        refine v_istore_n (lo' := [some (.ref (Z.ad 0)), some (.int (nI a)), some (.int o), some (.int ((wr g 0 0 0) 9 a))]) C dX4_setOther_47 rfl (Nat.le_of_ble_eq_true rfl) rfl rfl ?_
        refine v_aload_n C dX4_setOther_48 rfl rfl ?_
        refine v_get C inG4 rfl 9 (by decide) (tg3 204 rfl rfl) rfl cx_M rfl dX4_setOther_49 ?_
        refine v_iload_n C dX4_setOther_52 rfl rfl ?_
        refine v_iload_n C dX4_setOther_53 rfl rfl ?_
        refine v_iastN (a := a) C (fun _ _ => cxA9) rfl (by omega) ⟨ha, by decide⟩ dX4_setOther_54 ?_
        refine v_iload_n C dX4_setOther_55 rfl rfl ?_
        exact ret _ _ _ _ dX4_setOther_56 ⟨by rw [hcd]; rfl, fun _ => by rw [ea]; rfl, by unfold stSetOther; rw [if_pos hcd, ea]; exact RE.of (fun j h1 h2 => by simp only [wr, rwr]; repeat' (first | rfl | (exfalso; omega) | split)) (fun q h1 h2 => by funext b; simp only [wr, rwr]; repeat' (first | rfl | (exfalso; omega) | split)), fun q hq => by funext b; simp only [wr, rwr]; repeat' (first | rfl | (exfalso; omega) | split)⟩
      · refine v_aload_n C dX4_setOther_35 rfl rfl ?_
        refine v_iconst (v := 2) C dX4_setOther_36 (by decide) ?_
        refine v_callVi (n := 1) (as := [.int 2]) C (c_no _ Z 2 (wr g 0 0 0)) (gv (tg4 48 rfl rfl) (tg4 50 rfl rfl) (tg0 20 rfl rfl) (tg1 6 rfl rfl) (tg4 51 rfl rfl)) (by decide +kernel) ⟨Nat.le_of_ble_eq_true rfl, Nat.le_of_ble_eq_true rfl⟩ rfl cx_M rfl rfl (Nat.le_of_ble_eq_true rfl) dX4_setOther_37 ⟨Nat.le_of_ble_eq_true rfl, Nat.le_of_ble_eq_true rfl⟩ (fun r37 g37 hp37 => ?_)
        obtain ⟨rfl, hg37⟩ := hp37
        rw [hg37]
        exact ret _ _ _ _ dX4_setOther_40 (PM.no (k := 2) (by unfold cdSetOther; rw [if_neg (by rintro (q | ⟨q1, q2⟩); (· rw [k9] at q; cases q); (· exact q1 h14)), if_pos h32]) (by decide) (by unfold stSetOther; rw [if_neg (by rw [show cdSetOther k o = 2 by unfold cdSetOther; rw [if_neg (by rintro (q | ⟨q1, q2⟩); (· rw [k9] at q; cases q); (· exact q1 h14)), if_pos h32]]; decide)]) (fun j h1 h2 => wr_ne _ _ _ _ (Or.inr (by omega))) (fun q h1 h2 => wr_row _ _ _ _ (by omega)) (fun q hq => wr_row _ _ _ _ (by omega)))
    · refine v_iload_n C dX4_setOther_17 rfl rfl ?_
      refine v_callSi (n := 1) (as := [.int o]) C (c_isLetter _ Z o (wr g 0 0 0)) (gs (tg4 60 rfl rfl) (tg4 61 rfl rfl) (tg1 6 rfl rfl) (tg4 62 rfl rfl)) (by decide +kernel) ⟨Nat.le_of_ble_eq_true rfl, Nat.le_of_ble_eq_true rfl⟩ rfl rfl (Nat.le_of_ble_eq_true rfl) dX4_setOther_18 ⟨Nat.le_of_ble_eq_true rfl, Nat.le_of_ble_eq_true rfl⟩ (fun r18 g18 hp18 => ?_)
      obtain ⟨rfl, hg18⟩ := hp18
      rw [hg18]
      refine v_if_ne (tgt := 30) C dX4_setOther_21 (by decide) (fun h21 => ?_) (fun h21 => ?_)
      · have k21 := bI_1.mp h21
        refine v_iload_n C dX4_setOther_30 rfl rfl ?_
        refine v_iload_n C dX4_setOther_31 rfl rfl ?_
        refine v_icmp_ne (tgt := 41) C dX4_setOther_32 (by decide) (fun h32 => ?_) (fun h32 => ?_)
        · have hcd : cdSetOther k o = 0 := by unfold cdSetOther; rw [if_neg (by rintro (q | ⟨q1, q2⟩); (· rw [k9] at q; cases q); (· rw [k21] at q2; cases q2)), if_neg h32]
          obtain ⟨a, ha, rfl⟩ := isN_ex k9
          have ea : iz (nI a) = a := iz_nI (by omega)
          refine v_aload_n C dX4_setOther_41 rfl rfl ?_
          refine v_get C inG4 rfl 9 (by decide) (tg3 204 rfl rfl) rfl cx_M rfl dX4_setOther_42 ?_
          refine v_iload_n C dX4_setOther_45 rfl rfl ?_
          refine v_ialdN (a := a) C cxA9 ⟨ha, by decide⟩ dX4_setOther_46 ?_
          refine v_istore_n (lo' := [some (.ref (Z.ad 0)), some (.int (nI a)), some (.int o), some (.int ((wr g 0 0 0) 9 a))]) C dX4_setOther_47 rfl (Nat.le_of_ble_eq_true rfl) rfl rfl ?_
          refine v_aload_n C dX4_setOther_48 rfl rfl ?_
          refine v_get C inG4 rfl 9 (by decide) (tg3 204 rfl rfl) rfl cx_M rfl dX4_setOther_49 ?_
          refine v_iload_n C dX4_setOther_52 rfl rfl ?_
          refine v_iload_n C dX4_setOther_53 rfl rfl ?_
          refine v_iastN (a := a) C (fun _ _ => cxA9) rfl (by omega) ⟨ha, by decide⟩ dX4_setOther_54 ?_
          refine v_iload_n C dX4_setOther_55 rfl rfl ?_
          exact ret _ _ _ _ dX4_setOther_56 ⟨by rw [hcd]; rfl, fun _ => by rw [ea]; rfl, by unfold stSetOther; rw [if_pos hcd, ea]; exact RE.of (fun j h1 h2 => by simp only [wr, rwr]; repeat' (first | rfl | (exfalso; omega) | split)) (fun q h1 h2 => by funext b; simp only [wr, rwr]; repeat' (first | rfl | (exfalso; omega) | split)), fun q hq => by funext b; simp only [wr, rwr]; repeat' (first | rfl | (exfalso; omega) | split)⟩
        · refine v_aload_n C dX4_setOther_35 rfl rfl ?_
          refine v_iconst (v := 2) C dX4_setOther_36 (by decide) ?_
          refine v_callVi (n := 1) (as := [.int 2]) C (c_no _ Z 2 (wr g 0 0 0)) (gv (tg4 48 rfl rfl) (tg4 50 rfl rfl) (tg0 20 rfl rfl) (tg1 6 rfl rfl) (tg4 51 rfl rfl)) (by decide +kernel) ⟨Nat.le_of_ble_eq_true rfl, Nat.le_of_ble_eq_true rfl⟩ rfl cx_M rfl rfl (Nat.le_of_ble_eq_true rfl) dX4_setOther_37 ⟨Nat.le_of_ble_eq_true rfl, Nat.le_of_ble_eq_true rfl⟩ (fun r37 g37 hp37 => ?_)
          obtain ⟨rfl, hg37⟩ := hp37
          rw [hg37]
          exact ret _ _ _ _ dX4_setOther_40 (PM.no (k := 2) (by unfold cdSetOther; rw [if_neg (by rintro (q | ⟨q1, q2⟩); (· rw [k9] at q; cases q); (· rw [k21] at q2; cases q2)), if_pos h32]) (by decide) (by unfold stSetOther; rw [if_neg (by rw [show cdSetOther k o = 2 by unfold cdSetOther; rw [if_neg (by rintro (q | ⟨q1, q2⟩); (· rw [k9] at q; cases q); (· rw [k21] at q2; cases q2)), if_pos h32]]; decide)]) (fun j h1 h2 => wr_ne _ _ _ _ (Or.inr (by omega))) (fun q h1 h2 => wr_row _ _ _ _ (by omega)) (fun q hq => wr_row _ _ _ _ (by omega)))
      · have k21 := bI_0.mp h21
        refine v_aload_n C dX4_setOther_24 rfl rfl ?_
        refine v_iconst (v := 1) C dX4_setOther_25 (by decide) ?_
        refine v_callVi (n := 1) (as := [.int 1]) C (c_no _ Z 1 (wr g 0 0 0)) (gv (tg4 48 rfl rfl) (tg4 50 rfl rfl) (tg0 20 rfl rfl) (tg1 6 rfl rfl) (tg4 51 rfl rfl)) (by decide +kernel) ⟨Nat.le_of_ble_eq_true rfl, Nat.le_of_ble_eq_true rfl⟩ rfl cx_M rfl rfl (Nat.le_of_ble_eq_true rfl) dX4_setOther_26 ⟨Nat.le_of_ble_eq_true rfl, Nat.le_of_ble_eq_true rfl⟩ (fun r26 g26 hp26 => ?_)
        obtain ⟨rfl, hg26⟩ := hp26
        rw [hg26]
        exact ret _ _ _ _ dX4_setOther_29 (PM.no (k := 1) (by unfold cdSetOther; rw [if_pos (Or.inr ⟨h14, k21⟩)]) (by decide) (by unfold stSetOther; rw [if_neg (by rw [show cdSetOther k o = 1 by unfold cdSetOther; rw [if_pos (Or.inr ⟨h14, k21⟩)]]; decide)]) (fun j h1 h2 => wr_ne _ _ _ _ (Or.inr (by omega))) (fun q h1 h2 => wr_row _ _ _ _ (by omega)) (fun q hq => wr_row _ _ _ _ (by omega)))
set_option maxRecDepth 100000 in
theorem c_poster (l : Launch) (Z : Zc) (t h : Int32) (g : MG) (hI : IvM g) : MI l yX4_poster cX4_poster 3 (some .int) (rmz 2 43 0 0) Z [.ref (Z.ad 0), .int t, .int h] g (PM g (cdPoster g t h) (nI (npO g)) (stPoster g t h)) := by
  refine ent_i (own := RX4) (lo := [some (.ref (Z.ad 0)), some (.int t), some (.int h)]) (by decide) rfl (by simp [lg_sl, Value.category]) rfl (fun P hl C ret => ?_)
  obtain ⟨⟨nf, hf5, hnf⟩, ⟨np, hp6, hnp⟩, hot, hnl, htn, his, hwd, htk⟩ := id hI
  have enf : nfO g = nf := by unfold nfO; rw [hnf]; exact iz_nI (by omega)
  have enp : npO g = np := by unfold npO; rw [hnp]; exact iz_nI (by omega)
  refine v_aload_n C dX4_poster_0 rfl rfl ?_
  refine v_iconst (v := 0) C dX4_poster_1 (by decide) ?_
  refine v_put C inG4 rfl tyX4 tyX4_ok nmX4 0 (by decide) (tg3 195 rfl rfl) rfl rfl (ty := .int) rfl rfl rfl cx_M (Nat.le_of_ble_eq_true rfl) rfl (by omega) cx_M dX4_poster_2 ?_
  refine v_iload_n C dX4_poster_5 rfl rfl ?_
  refine v_callSi (n := 1) (as := [.int t]) C (c_isTown _ Z t (wr g 0 0 0)) (gs (tg4 76 rfl rfl) (tg4 77 rfl rfl) (tg1 6 rfl rfl) (tg4 78 rfl rfl)) (by decide +kernel) ⟨Nat.le_of_ble_eq_true rfl, Nat.le_of_ble_eq_true rfl⟩ rfl rfl (Nat.le_of_ble_eq_true rfl) dX4_poster_6 ⟨Nat.le_of_ble_eq_true rfl, Nat.le_of_ble_eq_true rfl⟩ (fun r6 g6 hp6 => ?_)
  obtain ⟨rfl, hg6⟩ := hp6
  rw [hg6]
  refine v_if_ne (tgt := 18) C dX4_poster_9 (by decide) (fun h9 => ?_) (fun h9 => ?_)
  · have k9 := bI_1.mp h9
    refine v_iload_n C dX4_poster_18 rfl rfl ?_
    refine v_iconst (v := 1) C dX4_poster_19 (by decide) ?_
    refine v_bipush (v := 20) C dX4_poster_20 (by decide) ?_
    refine v_callSi (n := 3) (as := [.int h, .int 1, .int 20]) C (c_isIn _ Z h 1 20 (wr g 0 0 0)) (gs (tg4 45 rfl rfl) (tg4 46 rfl rfl) (tg1 6 rfl rfl) (tg4 47 rfl rfl)) (by decide +kernel) ⟨Nat.le_of_ble_eq_true rfl, Nat.le_of_ble_eq_true rfl⟩ rfl rfl (Nat.le_of_ble_eq_true rfl) dX4_poster_22 ⟨Nat.le_of_ble_eq_true rfl, Nat.le_of_ble_eq_true rfl⟩ (fun r22 g22 hp22 => ?_)
    obtain ⟨rfl, hg22⟩ := hp22
    rw [hg22]
    refine v_if_ne (tgt := 34) C dX4_poster_25 (by decide) (fun h25 => ?_) (fun h25 => ?_)
    · have k25 := bI_1.mp h25
      refine v_aload_n C dX4_poster_34 rfl rfl ?_
      refine v_get C inG4 rfl 2 (by decide) (tg3 197 rfl rfl) rfl cx_M rfl dX4_poster_35 ?_
      refine v_topi (y := nI np) (show _ = nI np from hnp) ?_
      refine v_bipush (v := 6) C dX4_poster_38 (by decide) ?_
      refine v_icmp_ne (tgt := 49) C dX4_poster_40 (by decide) (fun h40 => ?_) (fun h40 => ?_)
      · have h40x : ¬ np = 6 := fun q => h40 (by rw [q]; rfl)
        have hcd : cdPoster g t h = 0 := by unfold cdPoster; rw [if_neg (by rw [k9]; decide), if_neg (by rw [k25]; decide), enp, if_neg h40x]
        refine v_aload_n C dX4_poster_49 rfl rfl ?_
        refine v_get C inG4 rfl 12 (by decide) (tg3 207 rfl rfl) rfl cx_M rfl dX4_poster_50 ?_
        refine v_aload_n C dX4_poster_53 rfl rfl ?_
        refine v_get C inG4 rfl 2 (by decide) (tg3 197 rfl rfl) rfl cx_M rfl dX4_poster_54 ?_
        refine v_topi (y := nI np) (show _ = nI np from hnp) ?_
        refine v_iload_n C dX4_poster_57 rfl rfl ?_
        refine v_iastN (a := np) C (fun _ _ => cxA12) rfl (by omega) ⟨by omega, by decide⟩ dX4_poster_58 ?_
        refine v_aload_n C dX4_poster_59 rfl rfl ?_
        refine v_get C inG4 rfl 13 (by decide) (tg3 208 rfl rfl) rfl cx_M rfl dX4_poster_60 ?_
        refine v_aload_n C dX4_poster_63 rfl rfl ?_
        refine v_get C inG4 rfl 2 (by decide) (tg3 197 rfl rfl) rfl cx_M rfl dX4_poster_64 ?_
        refine v_topi (y := nI np) (by rw [wr_row _ _ _ _ (by decide)]; exact hnp) ?_
        refine v_iload_n C dX4_poster_67 rfl rfl ?_
        refine v_iastN (a := np) C (fun _ _ => cxA13) rfl (by omega) ⟨by omega, by decide⟩ dX4_poster_68 ?_
        refine v_aload_n C dX4_poster_69 rfl rfl ?_
        refine v_dup C dX4_poster_70 rfl ?_
        refine v_get C inG4 rfl 2 (by decide) (tg3 197 rfl rfl) rfl cx_M rfl dX4_poster_71 ?_
        refine v_topi (y := nI np) (by rw [wr_row _ _ _ _ (by decide), wr_row _ _ _ _ (by decide)]; exact hnp) ?_
        refine v_iconst (v := 1) C dX4_poster_74 (by decide) ?_
        refine v_iadd C dX4_poster_75 ?_
        refine v_topi (y := nI (np + 1)) (nI_1 np) ?_
        refine v_put C inG4 rfl tyX4 tyX4_ok nmX4 2 (by decide) (tg3 197 rfl rfl) rfl rfl (ty := .int) rfl rfl rfl cx_M (Nat.le_of_ble_eq_true rfl) rfl (by omega) cx_M dX4_poster_76 ?_
        refine v_aload_n C dX4_poster_79 rfl rfl ?_
        refine v_get C inG4 rfl 2 (by decide) (tg3 197 rfl rfl) rfl cx_M rfl dX4_poster_80 ?_
        refine v_topi (y := nI (np + 1)) (wr_same _ _ _ _) ?_
        refine v_iconst (v := 1) C dX4_poster_83 (by decide) ?_
        refine v_isub C dX4_poster_84 ?_
        refine v_topi (y := nI np) (nI_pred np) ?_
        exact ret _ _ _ _ dX4_poster_85 ⟨by rw [hcd]; rfl, fun _ => by rw [enp], by unfold stPoster; rw [if_pos hcd, enp]; exact RE.of (fun j h1 h2 => by simp only [wr, rwr]; repeat' (first | rfl | (exfalso; omega) | split)) (fun q h1 h2 => by funext b; simp only [wr, rwr]; repeat' (first | rfl | (exfalso; omega) | split)), fun q hq => by funext b; simp only [wr, rwr]; repeat' (first | rfl | (exfalso; omega) | split)⟩
      · have h40x : np = 6 := nI_inj (by omega) (by decide) h40
        refine v_aload_n C dX4_poster_43 rfl rfl ?_
        refine v_iconst (v := 3) C dX4_poster_44 (by decide) ?_
        refine v_callVi (n := 1) (as := [.int 3]) C (c_no _ Z 3 (wr g 0 0 0)) (gv (tg4 48 rfl rfl) (tg4 50 rfl rfl) (tg0 20 rfl rfl) (tg1 6 rfl rfl) (tg4 51 rfl rfl)) (by decide +kernel) ⟨Nat.le_of_ble_eq_true rfl, Nat.le_of_ble_eq_true rfl⟩ rfl cx_M rfl rfl (Nat.le_of_ble_eq_true rfl) dX4_poster_45 ⟨Nat.le_of_ble_eq_true rfl, Nat.le_of_ble_eq_true rfl⟩ (fun r45 g45 hp45 => ?_)
        obtain ⟨rfl, hg45⟩ := hp45
        rw [hg45]
        exact ret _ _ _ _ dX4_poster_48 (PM.no (k := 3) (by unfold cdPoster; rw [if_neg (by rw [k9]; decide), if_neg (by rw [k25]; decide), enp, if_pos h40x]) (by decide) (by unfold stPoster; rw [if_neg (by rw [show cdPoster g t h = 3 by unfold cdPoster; rw [if_neg (by rw [k9]; decide), if_neg (by rw [k25]; decide), enp, if_pos h40x]]; decide)]) (fun j h1 h2 => wr_ne _ _ _ _ (Or.inr (by omega))) (fun q h1 h2 => wr_row _ _ _ _ (by omega)) (fun q hq => wr_row _ _ _ _ (by omega)))
    · have k25 := bI_0.mp h25
      refine v_aload_n C dX4_poster_28 rfl rfl ?_
      refine v_iconst (v := 2) C dX4_poster_29 (by decide) ?_
      refine v_callVi (n := 1) (as := [.int 2]) C (c_no _ Z 2 (wr g 0 0 0)) (gv (tg4 48 rfl rfl) (tg4 50 rfl rfl) (tg0 20 rfl rfl) (tg1 6 rfl rfl) (tg4 51 rfl rfl)) (by decide +kernel) ⟨Nat.le_of_ble_eq_true rfl, Nat.le_of_ble_eq_true rfl⟩ rfl cx_M rfl rfl (Nat.le_of_ble_eq_true rfl) dX4_poster_30 ⟨Nat.le_of_ble_eq_true rfl, Nat.le_of_ble_eq_true rfl⟩ (fun r30 g30 hp30 => ?_)
      obtain ⟨rfl, hg30⟩ := hp30
      rw [hg30]
      exact ret _ _ _ _ dX4_poster_33 (PM.no (k := 2) (by unfold cdPoster; rw [if_neg (by rw [k9]; decide), if_pos k25]) (by decide) (by unfold stPoster; rw [if_neg (by rw [show cdPoster g t h = 2 by unfold cdPoster; rw [if_neg (by rw [k9]; decide), if_pos k25]]; decide)]) (fun j h1 h2 => wr_ne _ _ _ _ (Or.inr (by omega))) (fun q h1 h2 => wr_row _ _ _ _ (by omega)) (fun q hq => wr_row _ _ _ _ (by omega)))
  · have k9 := bI_0.mp h9
    refine v_aload_n C dX4_poster_12 rfl rfl ?_
    refine v_iconst (v := 1) C dX4_poster_13 (by decide) ?_
    refine v_callVi (n := 1) (as := [.int 1]) C (c_no _ Z 1 (wr g 0 0 0)) (gv (tg4 48 rfl rfl) (tg4 50 rfl rfl) (tg0 20 rfl rfl) (tg1 6 rfl rfl) (tg4 51 rfl rfl)) (by decide +kernel) ⟨Nat.le_of_ble_eq_true rfl, Nat.le_of_ble_eq_true rfl⟩ rfl cx_M rfl rfl (Nat.le_of_ble_eq_true rfl) dX4_poster_14 ⟨Nat.le_of_ble_eq_true rfl, Nat.le_of_ble_eq_true rfl⟩ (fun r14 g14 hp14 => ?_)
    obtain ⟨rfl, hg14⟩ := hp14
    rw [hg14]
    exact ret _ _ _ _ dX4_poster_17 (PM.no (k := 1) (by unfold cdPoster; rw [if_pos k9]) (by decide) (by unfold stPoster; rw [if_neg (by rw [show cdPoster g t h = 1 by unfold cdPoster; rw [if_pos k9]]; decide)]) (fun j h1 h2 => wr_ne _ _ _ _ (Or.inr (by omega))) (fun q h1 h2 => wr_row _ _ _ _ (by omega)) (fun q hq => wr_row _ _ _ _ (by omega)))
set_option maxRecDepth 100000 in
theorem c_line (l : Launch) (Z : Zc) (p v : Int32) (g : MG) (hI : IvM g) : MI l yX4_line cX4_line 3 (some .int) (rmz 2 43 0 0) Z [.ref (Z.ad 0), .int p, .int v] g (PM g (cdLine g p v) (nI (nlO g (iz p))) (stLine g p v)) := by
  refine ent_i (own := RX4) (lo := [some (.ref (Z.ad 0)), some (.int p), some (.int v)]) (by decide) rfl (by simp [lg_sl, Value.category]) rfl (fun P hl C ret => ?_)
  obtain ⟨⟨nf, hf5, hnf⟩, ⟨np, hp6, hnp⟩, hot, hnl, htn, his, hwd, htk⟩ := id hI
  have enf : nfO g = nf := by unfold nfO; rw [hnf]; exact iz_nI (by omega)
  have enp : npO g = np := by unfold npO; rw [hnp]; exact iz_nI (by omega)
  refine v_aload_n C dX4_line_0 rfl rfl ?_
  refine v_iconst (v := 0) C dX4_line_1 (by decide) ?_
  refine v_put C inG4 rfl tyX4 tyX4_ok nmX4 0 (by decide) (tg3 195 rfl rfl) rfl rfl (ty := .int) rfl rfl rfl cx_M (Nat.le_of_ble_eq_true rfl) rfl (by omega) cx_M dX4_line_2 ?_
  refine v_aload_n C dX4_line_5 rfl rfl ?_
  refine v_iload_n C dX4_line_6 rfl rfl ?_
  refine v_callVi (n := 1) (as := [.int p]) C (c_isPoster _ Z np p (wr g 0 0 0) hnp hp6) (gv (tg4 87 rfl rfl) (tg4 89 rfl rfl) (tg0 22 rfl rfl) (tg1 6 rfl rfl) (tg4 90 rfl rfl)) (by decide +kernel) ⟨Nat.le_of_ble_eq_true rfl, Nat.le_of_ble_eq_true rfl⟩ rfl cx_M rfl rfl (Nat.le_of_ble_eq_true rfl) dX4_line_7 ⟨Nat.le_of_ble_eq_true rfl, Nat.le_of_ble_eq_true rfl⟩ (fun r7 g7 hp7 => ?_)
  obtain ⟨rfl, hg7⟩ := hp7
  rw [hg7]
  refine v_if_ne (tgt := 19) C dX4_line_10 (by decide) (fun h10 => ?_) (fun h10 => ?_)
  · have k10 := bI_1.mp h10
    refine v_iload_n C dX4_line_19 rfl rfl ?_
    refine v_iconst (v := 0) C dX4_line_20 (by decide) ?_
    refine v_ldc (v := 99999999) C (tg4 91 rfl rfl) dX4_line_21 ?_
    refine v_callSi (n := 3) (as := [.int v, .int 0, .int 99999999]) C (c_isIn _ Z v 0 99999999 (wr g 0 0 0)) (gs (tg4 45 rfl rfl) (tg4 46 rfl rfl) (tg1 6 rfl rfl) (tg4 47 rfl rfl)) (by decide +kernel) ⟨Nat.le_of_ble_eq_true rfl, Nat.le_of_ble_eq_true rfl⟩ rfl rfl (Nat.le_of_ble_eq_true rfl) dX4_line_23 ⟨Nat.le_of_ble_eq_true rfl, Nat.le_of_ble_eq_true rfl⟩ (fun r23 g23 hp23 => ?_)
    obtain ⟨rfl, hg23⟩ := hp23
    rw [hg23]
    refine v_if_ne (tgt := 35) C dX4_line_26 (by decide) (fun h26 => ?_) (fun h26 => ?_)
    · have k26 := bI_1.mp h26
      obtain ⟨a, ha, rfl⟩ := isN_ex k10
      have ea : iz (nI a) = a := iz_nI (by omega)
      obtain ⟨nl, hl4, hnl⟩ := hnl a (by omega)
      have enl : nlO g a = nl := by unfold nlO; rw [hnl]; exact iz_nI (by omega)
      refine v_aload_n C dX4_line_35 rfl rfl ?_
      refine v_get C inG4 rfl 15 (by decide) (tg3 210 rfl rfl) rfl cx_M rfl dX4_line_36 ?_
      refine v_iload_n C dX4_line_39 rfl rfl ?_
      refine v_ialdN (a := a) C cxA15 ⟨by omega, by decide⟩ dX4_line_40 ?_
      refine v_topi (y := g 15 a) (show _ = g 15 a from rfl) ?_
      refine v_iconst (v := 1) C dX4_line_41 (by decide) ?_
      refine v_icmp_eq (tgt := 55) C dX4_line_42 (by decide) (fun h42 => ?_) (fun h42 => ?_)
      · refine v_aload_n C dX4_line_55 rfl rfl ?_
        refine v_iconst (v := 3) C dX4_line_56 (by decide) ?_
        refine v_callVi (n := 1) (as := [.int 3]) C (c_no _ Z 3 (wr g 0 0 0)) (gv (tg4 48 rfl rfl) (tg4 50 rfl rfl) (tg0 20 rfl rfl) (tg1 6 rfl rfl) (tg4 51 rfl rfl)) (by decide +kernel) ⟨Nat.le_of_ble_eq_true rfl, Nat.le_of_ble_eq_true rfl⟩ rfl cx_M rfl rfl (Nat.le_of_ble_eq_true rfl) dX4_line_57 ⟨Nat.le_of_ble_eq_true rfl, Nat.le_of_ble_eq_true rfl⟩ (fun r57 g57 hp57 => ?_)
        obtain ⟨rfl, hg57⟩ := hp57
        rw [hg57]
        exact ret _ _ _ _ dX4_line_60 (PM.no (k := 3) (by unfold cdLine; rw [enp, if_neg (by rw [k10]; decide), if_neg (by rw [k26]; decide), ea, if_pos (Or.inl h42)]) (by decide) (by unfold stLine; rw [if_neg (by rw [show cdLine g (nI a) v = 3 by unfold cdLine; rw [enp, if_neg (by rw [k10]; decide), if_neg (by rw [k26]; decide), ea, if_pos (Or.inl h42)]]; decide)]) (fun j h1 h2 => wr_ne _ _ _ _ (Or.inr (by omega))) (fun q h1 h2 => wr_row _ _ _ _ (by omega)) (fun q hq => wr_row _ _ _ _ (by omega)))
      · refine v_aload_n C dX4_line_45 rfl rfl ?_
        refine v_get C inG4 rfl 14 (by decide) (tg3 209 rfl rfl) rfl cx_M rfl dX4_line_46 ?_
        refine v_iload_n C dX4_line_49 rfl rfl ?_
        refine v_ialdN (a := a) C cxA14 ⟨by omega, by decide⟩ dX4_line_50 ?_
        refine v_topi (y := nI nl) (show _ = nI nl from hnl) ?_
        refine v_iconst (v := 4) C dX4_line_51 (by decide) ?_
        refine v_icmp_ne (tgt := 61) C dX4_line_52 (by decide) (fun h52 => ?_) (fun h52 => ?_)
        · have h52x : ¬ nl = 4 := fun q => h52 (by rw [q]; rfl)
          have hcd : cdLine g (nI a) v = 0 := by unfold cdLine; rw [enp, if_neg (by rw [k10]; decide), if_neg (by rw [k26]; decide), ea, enl, if_neg (by rintro (q | q); (· exact h42 q); (· exact h52x q))]
          refine v_aload_n C dX4_line_61 rfl rfl ?_
          refine v_get C inG4 rfl 17 (by decide) (tg3 212 rfl rfl) rfl cx_M rfl dX4_line_62 ?_
          refine v_iconst (v := 4) C dX4_line_65 (by decide) ?_
          refine v_iload_n C dX4_line_66 rfl rfl ?_
          refine v_imul C dX4_line_67 ?_
          refine v_topi (y := nI (4 * a)) (by rw [show (4 : Int32) = nI 4 from rfl, nI_mul]) ?_
          refine v_aload_n C dX4_line_68 rfl rfl ?_
          refine v_get C inG4 rfl 14 (by decide) (tg3 209 rfl rfl) rfl cx_M rfl dX4_line_69 ?_
          refine v_iload_n C dX4_line_72 rfl rfl ?_
          refine v_ialdN (a := a) C cxA14 ⟨by omega, by decide⟩ dX4_line_73 ?_
          refine v_topi (y := nI nl) (show _ = nI nl from hnl) ?_
          refine v_iadd C dX4_line_74 ?_
          refine v_topi (y := nI (4 * a + nl)) (nI_add _ _) ?_
          refine v_iload_n C dX4_line_75 rfl rfl ?_
          refine v_iastN (a := (4 * a + nl)) C (fun _ _ => cxA17) rfl (by omega) (by omega) dX4_line_76 ?_
          refine v_aload_n C dX4_line_77 rfl rfl ?_
          refine v_get C inG4 rfl 14 (by decide) (tg3 209 rfl rfl) rfl cx_M rfl dX4_line_78 ?_
          refine v_iload_n C dX4_line_81 rfl rfl ?_
          refine v_dup2 C dX4_line_82 rfl rfl ?_
          refine v_ialdN (a := a) C cxA14 ⟨by omega, by decide⟩ dX4_line_83 ?_
          refine v_topi (y := nI nl) (by rw [wr_row _ _ _ _ (by decide)]; exact hnl) ?_
          refine v_iconst (v := 1) C dX4_line_84 (by decide) ?_
          refine v_iadd C dX4_line_85 ?_
          refine v_topi (y := nI (nl + 1)) (nI_1 nl) ?_
          refine v_iastN (a := a) C (fun _ _ => cxA14) rfl (by omega) ⟨by omega, by decide⟩ dX4_line_86 ?_
          refine v_aload_n C dX4_line_87 rfl rfl ?_
          refine v_get C inG4 rfl 14 (by decide) (tg3 209 rfl rfl) rfl cx_M rfl dX4_line_88 ?_
          refine v_iload_n C dX4_line_91 rfl rfl ?_
          refine v_ialdN (a := a) C cxA14 ⟨by omega, by decide⟩ dX4_line_92 ?_
          refine v_topi (y := nI (nl + 1)) (wr_same _ _ _ _) ?_
          refine v_iconst (v := 1) C dX4_line_93 (by decide) ?_
          refine v_isub C dX4_line_94 ?_
          refine v_topi (y := nI nl) (nI_pred nl) ?_
          exact ret _ _ _ _ dX4_line_95 ⟨by rw [hcd]; rfl, fun _ => by rw [ea, enl], by unfold stLine; rw [if_pos hcd, ea, enl]; exact RE.of (fun j h1 h2 => by simp only [wr, rwr]; repeat' (first | rfl | (exfalso; omega) | split)) (fun q h1 h2 => by funext b; simp only [wr, rwr]; repeat' (first | rfl | (exfalso; omega) | split)), fun q hq => by funext b; simp only [wr, rwr]; repeat' (first | rfl | (exfalso; omega) | split)⟩
        · have h52x : nl = 4 := nI_inj (by omega) (by decide) h52
          refine v_aload_n C dX4_line_55 rfl rfl ?_
          refine v_iconst (v := 3) C dX4_line_56 (by decide) ?_
          refine v_callVi (n := 1) (as := [.int 3]) C (c_no _ Z 3 (wr g 0 0 0)) (gv (tg4 48 rfl rfl) (tg4 50 rfl rfl) (tg0 20 rfl rfl) (tg1 6 rfl rfl) (tg4 51 rfl rfl)) (by decide +kernel) ⟨Nat.le_of_ble_eq_true rfl, Nat.le_of_ble_eq_true rfl⟩ rfl cx_M rfl rfl (Nat.le_of_ble_eq_true rfl) dX4_line_57 ⟨Nat.le_of_ble_eq_true rfl, Nat.le_of_ble_eq_true rfl⟩ (fun r57 g57 hp57 => ?_)
          obtain ⟨rfl, hg57⟩ := hp57
          rw [hg57]
          exact ret _ _ _ _ dX4_line_60 (PM.no (k := 3) (by unfold cdLine; rw [enp, if_neg (by rw [k10]; decide), if_neg (by rw [k26]; decide), ea, if_pos (Or.inr (by rw [enl]; exact h52x))]) (by decide) (by unfold stLine; rw [if_neg (by rw [show cdLine g (nI a) v = 3 by unfold cdLine; rw [enp, if_neg (by rw [k10]; decide), if_neg (by rw [k26]; decide), ea, if_pos (Or.inr (by rw [enl]; exact h52x))]]; decide)]) (fun j h1 h2 => wr_ne _ _ _ _ (Or.inr (by omega))) (fun q h1 h2 => wr_row _ _ _ _ (by omega)) (fun q hq => wr_row _ _ _ _ (by omega)))
    · have k26 := bI_0.mp h26
      refine v_aload_n C dX4_line_29 rfl rfl ?_
      refine v_iconst (v := 2) C dX4_line_30 (by decide) ?_
      refine v_callVi (n := 1) (as := [.int 2]) C (c_no _ Z 2 (wr g 0 0 0)) (gv (tg4 48 rfl rfl) (tg4 50 rfl rfl) (tg0 20 rfl rfl) (tg1 6 rfl rfl) (tg4 51 rfl rfl)) (by decide +kernel) ⟨Nat.le_of_ble_eq_true rfl, Nat.le_of_ble_eq_true rfl⟩ rfl cx_M rfl rfl (Nat.le_of_ble_eq_true rfl) dX4_line_31 ⟨Nat.le_of_ble_eq_true rfl, Nat.le_of_ble_eq_true rfl⟩ (fun r31 g31 hp31 => ?_)
      obtain ⟨rfl, hg31⟩ := hp31
      rw [hg31]
      exact ret _ _ _ _ dX4_line_34 (PM.no (k := 2) (by unfold cdLine; rw [enp, if_neg (by rw [k10]; decide), if_pos k26]) (by decide) (by unfold stLine; rw [if_neg (by rw [show cdLine g p v = 2 by unfold cdLine; rw [enp, if_neg (by rw [k10]; decide), if_pos k26]]; decide)]) (fun j h1 h2 => wr_ne _ _ _ _ (Or.inr (by omega))) (fun q h1 h2 => wr_row _ _ _ _ (by omega)) (fun q hq => wr_row _ _ _ _ (by omega)))
  · have k10 := bI_0.mp h10
    refine v_aload_n C dX4_line_13 rfl rfl ?_
    refine v_iconst (v := 1) C dX4_line_14 (by decide) ?_
    refine v_callVi (n := 1) (as := [.int 1]) C (c_no _ Z 1 (wr g 0 0 0)) (gv (tg4 48 rfl rfl) (tg4 50 rfl rfl) (tg0 20 rfl rfl) (tg1 6 rfl rfl) (tg4 51 rfl rfl)) (by decide +kernel) ⟨Nat.le_of_ble_eq_true rfl, Nat.le_of_ble_eq_true rfl⟩ rfl cx_M rfl rfl (Nat.le_of_ble_eq_true rfl) dX4_line_15 ⟨Nat.le_of_ble_eq_true rfl, Nat.le_of_ble_eq_true rfl⟩ (fun r15 g15 hp15 => ?_)
    obtain ⟨rfl, hg15⟩ := hp15
    rw [hg15]
    exact ret _ _ _ _ dX4_line_18 (PM.no (k := 1) (by unfold cdLine; rw [enp, if_pos k10]) (by decide) (by unfold stLine; rw [if_neg (by rw [show cdLine g p v = 1 by unfold cdLine; rw [enp, if_pos k10]]; decide)]) (fun j h1 h2 => wr_ne _ _ _ _ (Or.inr (by omega))) (fun q h1 h2 => wr_row _ _ _ _ (by omega)) (fun q hq => wr_row _ _ _ _ (by omega)))
set_option maxRecDepth 100000 in
theorem c_buy (l : Launch) (Z : Zc) (f k v : Int32) (g : MG) (hI : IvM g) : MI l yX4_buy cX4_buy 5 (some .int) (rmz 2 43 0 0) Z [.ref (Z.ad 0), .int f, .int k, .int v] g (PM g (cdBuy g f k v) (g 6 (atO f k) + v) (stBuy g f k v)) := by
  refine ent_i (own := RX4) (lo := [some (.ref (Z.ad 0)), some (.int f), some (.int k), some (.int v), none]) (by decide) rfl (by simp [lg_sl, Value.category]) rfl (fun P hl C ret => ?_)
  obtain ⟨⟨nf, hf5, hnf⟩, ⟨np, hp6, hnp⟩, hot, hnl, htn, his, hwd, htk⟩ := id hI
  have enf : nfO g = nf := by unfold nfO; rw [hnf]; exact iz_nI (by omega)
  have enp : npO g = np := by unfold npO; rw [hnp]; exact iz_nI (by omega)
  refine v_aload_n C dX4_buy_0 rfl rfl ?_
  refine v_iconst (v := 0) C dX4_buy_1 (by decide) ?_
  refine v_put C inG4 rfl tyX4 tyX4_ok nmX4 0 (by decide) (tg3 195 rfl rfl) rfl rfl (ty := .int) rfl rfl rfl cx_M (Nat.le_of_ble_eq_true rfl) rfl (by omega) cx_M dX4_buy_2 ?_
  refine v_aload_n C dX4_buy_5 rfl rfl ?_
  refine v_iload_n C dX4_buy_6 rfl rfl ?_
  refine v_callVi (n := 1) (as := [.int f]) C (c_isFount _ Z nf f (wr g 0 0 0) hnf hf5) (gv (tg4 56 rfl rfl) (tg4 58 rfl rfl) (tg0 21 rfl rfl) (tg1 6 rfl rfl) (tg4 59 rfl rfl)) (by decide +kernel) ⟨Nat.le_of_ble_eq_true rfl, Nat.le_of_ble_eq_true rfl⟩ rfl cx_M rfl rfl (Nat.le_of_ble_eq_true rfl) dX4_buy_7 ⟨Nat.le_of_ble_eq_true rfl, Nat.le_of_ble_eq_true rfl⟩ (fun r7 g7 hp7 => ?_)
  obtain ⟨rfl, hg7⟩ := hp7
  rw [hg7]
  refine v_if_eq (tgt := 20) C dX4_buy_10 (by decide) (fun h10 => ?_) (fun h10 => ?_)
  · have k10 := bI_0.mp h10
    refine v_aload_n C dX4_buy_20 rfl rfl ?_
    refine v_iconst (v := 1) C dX4_buy_21 (by decide) ?_
    refine v_callVi (n := 1) (as := [.int 1]) C (c_no _ Z 1 (wr g 0 0 0)) (gv (tg4 48 rfl rfl) (tg4 50 rfl rfl) (tg0 20 rfl rfl) (tg1 6 rfl rfl) (tg4 51 rfl rfl)) (by decide +kernel) ⟨Nat.le_of_ble_eq_true rfl, Nat.le_of_ble_eq_true rfl⟩ rfl cx_M rfl rfl (Nat.le_of_ble_eq_true rfl) dX4_buy_22 ⟨Nat.le_of_ble_eq_true rfl, Nat.le_of_ble_eq_true rfl⟩ (fun r22 g22 hp22 => ?_)
    obtain ⟨rfl, hg22⟩ := hp22
    rw [hg22]
    exact ret _ _ _ _ dX4_buy_25 (PM.no (k := 1) (by unfold cdBuy isFL; rw [enf, k10]; rfl) (by decide) (by unfold stBuy; rw [if_neg (by rw [show cdBuy g f k v = 1 by unfold cdBuy isFL; rw [enf, k10]; rfl]; decide)]) (fun j h1 h2 => wr_ne _ _ _ _ (Or.inr (by omega))) (fun q h1 h2 => wr_row _ _ _ _ (by omega)) (fun q hq => wr_row _ _ _ _ (by omega)))
  · have k10 := bI_1.mp h10
    refine v_iload_n C dX4_buy_13 rfl rfl ?_
    refine v_callSi (n := 1) (as := [.int k]) C (c_isLetter _ Z k (wr g 0 0 0)) (gs (tg4 60 rfl rfl) (tg4 61 rfl rfl) (tg1 6 rfl rfl) (tg4 62 rfl rfl)) (by decide +kernel) ⟨Nat.le_of_ble_eq_true rfl, Nat.le_of_ble_eq_true rfl⟩ rfl rfl (Nat.le_of_ble_eq_true rfl) dX4_buy_14 ⟨Nat.le_of_ble_eq_true rfl, Nat.le_of_ble_eq_true rfl⟩ (fun r14 g14 hp14 => ?_)
    obtain ⟨rfl, hg14⟩ := hp14
    rw [hg14]
    refine v_if_ne (tgt := 26) C dX4_buy_17 (by decide) (fun h17 => ?_) (fun h17 => ?_)
    · have k17 := bI_1.mp h17
      refine v_iload_n C dX4_buy_26 rfl rfl ?_
      refine v_iconst (v := 1) C dX4_buy_27 (by decide) ?_
      refine v_bipush (v := 9) C dX4_buy_28 (by decide) ?_
      refine v_callSi (n := 3) (as := [.int v, .int 1, .int 9]) C (c_isIn _ Z v 1 9 (wr g 0 0 0)) (gs (tg4 45 rfl rfl) (tg4 46 rfl rfl) (tg1 6 rfl rfl) (tg4 47 rfl rfl)) (by decide +kernel) ⟨Nat.le_of_ble_eq_true rfl, Nat.le_of_ble_eq_true rfl⟩ rfl rfl (Nat.le_of_ble_eq_true rfl) dX4_buy_30 ⟨Nat.le_of_ble_eq_true rfl, Nat.le_of_ble_eq_true rfl⟩ (fun r30 g30 hp30 => ?_)
      obtain ⟨rfl, hg30⟩ := hp30
      rw [hg30]
      refine v_if_ne (tgt := 42) C dX4_buy_33 (by decide) (fun h33 => ?_) (fun h33 => ?_)
      · have k33 := bI_1.mp h33
        obtain ⟨a, ha, rfl⟩ := isN_ex k10
        obtain ⟨c, hc, rfl⟩ := isN_ex k17
        have eat : atO (nI a) (nI c) = 10 * a + c := atO_nI (by omega) hc
        refine v_bipush (v := 10) C dX4_buy_42 (by decide) ?_
        refine v_iload_n C dX4_buy_44 rfl rfl ?_
        refine v_imul C dX4_buy_45 ?_
        refine v_iload_n C dX4_buy_46 rfl rfl ?_
        refine v_iadd C dX4_buy_47 ?_
        refine v_topi (y := nI (10 * a + c)) (nI_10 a c) ?_
        refine v_istore (lo' := [some (.ref (Z.ad 0)), some (.int (nI a)), some (.int (nI c)), some (.int v), some (.int (nI (10 * a + c)))]) C dX4_buy_48 (Nat.le_of_ble_eq_true rfl) rfl rfl ?_
        refine v_aload_n C dX4_buy_50 rfl rfl ?_
        refine v_get C inG4 rfl 6 (by decide) (tg3 201 rfl rfl) rfl cx_M rfl dX4_buy_51 ?_
        refine v_iload C dX4_buy_54 rfl ?_
        refine v_ialdN (a := (10 * a + c)) C cxA6 (by omega) dX4_buy_56 ?_
        refine v_iload_n C dX4_buy_57 rfl rfl ?_
        refine v_iadd C dX4_buy_58 ?_
        refine v_topi (y := g 6 (10 * a + c) + v) rfl ?_
        refine v_bipush (v := 9) C dX4_buy_59 (by decide) ?_
        refine v_icmp_le (tgt := 70) C dX4_buy_61 (by decide) (fun h61 => ?_) (fun h61 => ?_)
        · have hcd : cdBuy g (nI a) (nI c) v = 0 := by unfold cdBuy; rw [if_neg (by unfold isFL; rw [enf, k10, k17]; decide), if_neg (by rw [k33]; decide), eat, if_neg (Int32.not_lt.mpr h61)]
          refine v_aload_n C dX4_buy_70 rfl rfl ?_
          refine v_get C inG4 rfl 6 (by decide) (tg3 201 rfl rfl) rfl cx_M rfl dX4_buy_71 ?_
          refine v_iload C dX4_buy_74 rfl ?_
          refine v_dup2 C dX4_buy_76 rfl rfl ?_
          refine v_ialdN (a := (10 * a + c)) C cxA6 (by omega) dX4_buy_77 ?_
          refine v_iload_n C dX4_buy_78 rfl rfl ?_
          refine v_iadd C dX4_buy_79 ?_
          refine v_iastN (a := (10 * a + c)) C (fun _ _ => cxA6) rfl (by omega) (by omega) dX4_buy_80 ?_
          refine v_aload_n C dX4_buy_81 rfl rfl ?_
          refine v_get C inG4 rfl 6 (by decide) (tg3 201 rfl rfl) rfl cx_M rfl dX4_buy_82 ?_
          refine v_iload C dX4_buy_85 rfl ?_
          refine v_ialdN (a := (10 * a + c)) C cxA6 (by omega) dX4_buy_87 ?_
          exact ret _ _ _ _ dX4_buy_88 ⟨by rw [hcd]; rfl, fun _ => by rw [eat, wr_same]; rfl, by unfold stBuy; rw [if_pos hcd, eat]; exact RE.of (fun j h1 h2 => by simp only [wr, rwr]; repeat' (first | rfl | (exfalso; omega) | split)) (fun q h1 h2 => by funext b; simp only [wr, rwr]; repeat' (first | rfl | (exfalso; omega) | split)), fun q hq => by funext b; simp only [wr, rwr]; repeat' (first | rfl | (exfalso; omega) | split)⟩
        · refine v_aload_n C dX4_buy_64 rfl rfl ?_
          refine v_iconst (v := 3) C dX4_buy_65 (by decide) ?_
          refine v_callVi (n := 1) (as := [.int 3]) C (c_no _ Z 3 (wr g 0 0 0)) (gv (tg4 48 rfl rfl) (tg4 50 rfl rfl) (tg0 20 rfl rfl) (tg1 6 rfl rfl) (tg4 51 rfl rfl)) (by decide +kernel) ⟨Nat.le_of_ble_eq_true rfl, Nat.le_of_ble_eq_true rfl⟩ rfl cx_M rfl rfl (Nat.le_of_ble_eq_true rfl) dX4_buy_66 ⟨Nat.le_of_ble_eq_true rfl, Nat.le_of_ble_eq_true rfl⟩ (fun r66 g66 hp66 => ?_)
          obtain ⟨rfl, hg66⟩ := hp66
          rw [hg66]
          exact ret _ _ _ _ dX4_buy_69 (PM.no (k := 3) (by unfold cdBuy; rw [if_neg (by unfold isFL; rw [enf, k10, k17]; decide), if_neg (by rw [k33]; decide), eat, if_pos (Int32.not_le.mp h61)]) (by decide) (by unfold stBuy; rw [if_neg (by rw [show cdBuy g (nI a) (nI c) v = 3 by unfold cdBuy; rw [if_neg (by unfold isFL; rw [enf, k10, k17]; decide), if_neg (by rw [k33]; decide), eat, if_pos (Int32.not_le.mp h61)]]; decide)]) (fun j h1 h2 => wr_ne _ _ _ _ (Or.inr (by omega))) (fun q h1 h2 => wr_row _ _ _ _ (by omega)) (fun q hq => wr_row _ _ _ _ (by omega)))
      · have k33 := bI_0.mp h33
        refine v_aload_n C dX4_buy_36 rfl rfl ?_
        refine v_iconst (v := 2) C dX4_buy_37 (by decide) ?_
        refine v_callVi (n := 1) (as := [.int 2]) C (c_no _ Z 2 (wr g 0 0 0)) (gv (tg4 48 rfl rfl) (tg4 50 rfl rfl) (tg0 20 rfl rfl) (tg1 6 rfl rfl) (tg4 51 rfl rfl)) (by decide +kernel) ⟨Nat.le_of_ble_eq_true rfl, Nat.le_of_ble_eq_true rfl⟩ rfl cx_M rfl rfl (Nat.le_of_ble_eq_true rfl) dX4_buy_38 ⟨Nat.le_of_ble_eq_true rfl, Nat.le_of_ble_eq_true rfl⟩ (fun r38 g38 hp38 => ?_)
        obtain ⟨rfl, hg38⟩ := hp38
        rw [hg38]
        exact ret _ _ _ _ dX4_buy_41 (PM.no (k := 2) (by unfold cdBuy isFL; rw [enf, k10, k17, if_neg (by decide), if_pos k33]) (by decide) (by unfold stBuy; rw [if_neg (by rw [show cdBuy g f k v = 2 by unfold cdBuy isFL; rw [enf, k10, k17, if_neg (by decide), if_pos k33]]; decide)]) (fun j h1 h2 => wr_ne _ _ _ _ (Or.inr (by omega))) (fun q h1 h2 => wr_row _ _ _ _ (by omega)) (fun q hq => wr_row _ _ _ _ (by omega)))
    · have k17 := bI_0.mp h17
      refine v_aload_n C dX4_buy_20 rfl rfl ?_
      refine v_iconst (v := 1) C dX4_buy_21 (by decide) ?_
      refine v_callVi (n := 1) (as := [.int 1]) C (c_no _ Z 1 (wr g 0 0 0)) (gv (tg4 48 rfl rfl) (tg4 50 rfl rfl) (tg0 20 rfl rfl) (tg1 6 rfl rfl) (tg4 51 rfl rfl)) (by decide +kernel) ⟨Nat.le_of_ble_eq_true rfl, Nat.le_of_ble_eq_true rfl⟩ rfl cx_M rfl rfl (Nat.le_of_ble_eq_true rfl) dX4_buy_22 ⟨Nat.le_of_ble_eq_true rfl, Nat.le_of_ble_eq_true rfl⟩ (fun r22 g22 hp22 => ?_)
      obtain ⟨rfl, hg22⟩ := hp22
      rw [hg22]
      exact ret _ _ _ _ dX4_buy_25 (PM.no (k := 1) (by unfold cdBuy isFL; rw [enf, k10, k17]; rfl) (by decide) (by unfold stBuy; rw [if_neg (by rw [show cdBuy g f k v = 1 by unfold cdBuy isFL; rw [enf, k10, k17]; rfl]; decide)]) (fun j h1 h2 => wr_ne _ _ _ _ (Or.inr (by omega))) (fun q h1 h2 => wr_row _ _ _ _ (by omega)) (fun q hq => wr_row _ _ _ _ (by omega)))
set_option maxRecDepth 100000 in
theorem c_buyAll (l : Launch) (Z : Zc) (f v : Int32) (g : MG) (hI : IvM g) : MI l yX4_buyAll cX4_buyAll 6 (some .int) (rmz 2 43 0 0) Z [.ref (Z.ad 0), .int f, .int v] g (PM g (cdBuyAll g f v) (anBuyAll g f v) (stBuyAll g f v)) := by
  refine ent_i (own := RX4) (lo := [some (.ref (Z.ad 0)), some (.int f), some (.int v), none, none, none]) (by decide) rfl (by simp [lg_sl, Value.category]) rfl (fun P hl C ret => ?_)
  obtain ⟨⟨nf, hf5, hnf⟩, ⟨np, hp6, hnp⟩, hot, hnl, htn, his, hwd, htk⟩ := id hI
  have enf : nfO g = nf := by unfold nfO; rw [hnf]; exact iz_nI (by omega)
  have enp : npO g = np := by unfold npO; rw [hnp]; exact iz_nI (by omega)
  refine v_aload_n C dX4_buyAll_0 rfl rfl ?_
  refine v_iconst (v := 0) C dX4_buyAll_1 (by decide) ?_
  refine v_put C inG4 rfl tyX4 tyX4_ok nmX4 0 (by decide) (tg3 195 rfl rfl) rfl rfl (ty := .int) rfl rfl rfl cx_M (Nat.le_of_ble_eq_true rfl) rfl (by omega) cx_M dX4_buyAll_2 ?_
  refine v_aload_n C dX4_buyAll_5 rfl rfl ?_
  refine v_iload_n C dX4_buyAll_6 rfl rfl ?_
  refine v_callVi (n := 1) (as := [.int f]) C (c_isFount _ Z nf f (wr g 0 0 0) hnf hf5) (gv (tg4 56 rfl rfl) (tg4 58 rfl rfl) (tg0 21 rfl rfl) (tg1 6 rfl rfl) (tg4 59 rfl rfl)) (by decide +kernel) ⟨Nat.le_of_ble_eq_true rfl, Nat.le_of_ble_eq_true rfl⟩ rfl cx_M rfl rfl (Nat.le_of_ble_eq_true rfl) dX4_buyAll_7 ⟨Nat.le_of_ble_eq_true rfl, Nat.le_of_ble_eq_true rfl⟩ (fun r7 g7 hp7 => ?_)
  obtain ⟨rfl, hg7⟩ := hp7
  rw [hg7]
  refine v_if_ne (tgt := 19) C dX4_buyAll_10 (by decide) (fun h10 => ?_) (fun h10 => ?_)
  · have k10 := bI_1.mp h10
    refine v_iload_n C dX4_buyAll_19 rfl rfl ?_
    refine v_iconst (v := 1) C dX4_buyAll_20 (by decide) ?_
    refine v_bipush (v := 9) C dX4_buyAll_21 (by decide) ?_
    refine v_callSi (n := 3) (as := [.int v, .int 1, .int 9]) C (c_isIn _ Z v 1 9 (wr g 0 0 0)) (gs (tg4 45 rfl rfl) (tg4 46 rfl rfl) (tg1 6 rfl rfl) (tg4 47 rfl rfl)) (by decide +kernel) ⟨Nat.le_of_ble_eq_true rfl, Nat.le_of_ble_eq_true rfl⟩ rfl rfl (Nat.le_of_ble_eq_true rfl) dX4_buyAll_23 ⟨Nat.le_of_ble_eq_true rfl, Nat.le_of_ble_eq_true rfl⟩ (fun r23 g23 hp23 => ?_)
    obtain ⟨rfl, hg23⟩ := hp23
    rw [hg23]
    refine v_if_ne (tgt := 35) C dX4_buyAll_26 (by decide) (fun h26 => ?_) (fun h26 => ?_)
    · have k26 := bI_1.mp h26
      obtain ⟨a, ha, rfl⟩ := isN_ex k10
      have ea : iz (nI a) = a := iz_nI (by omega)
      have hcd : cdBuyAll g (nI a) v = 0 := by unfold cdBuyAll; rw [enf, if_neg (by rw [k10]; decide), if_neg (by rw [k26]; decide)]
      have loop : ∀ (n q : Nat) (g1 : MG) (w : Option Value), 10 - q < n → q ≤ 10 → g1 0 0 = 0 → (∀ j, 1 ≤ j → j ≤ 4 → g1 0 j = g 0 j) → (∀ k, k ≠ 6 → k ≠ 0 → g1 k = g k) → (∀ j, g1 6 j = if 10 * a ≤ j ∧ j < 10 * a + q then g 6 j + moB g v j else g 6 j) → V P (rmz 2 43 0 0) Z [some (.ref (Z.ad 0)), some (.int (nI a)), some (.int v), some (.int (sumI (fun k => moB g v (10 * a + k)) q)), some (.int (nI (10 * a + q))), w] 43 [] g1 0 0 := by
        intro n
        induction n with
        | zero => intro q g1 w hn; exact absurd hn (Nat.not_lt_zero _)
        | succ n ih =>
          intro q g1 w hn hq h00 h0j hr h6
          refine v_iload C dX4_buyAll_43 rfl ?_
          refine v_bipush (v := 10) C dX4_buyAll_45 (by decide) ?_
          refine v_iload_n C dX4_buyAll_47 rfl rfl ?_
          refine v_iconst (v := 1) C dX4_buyAll_48 (by decide) ?_
          refine v_iadd C dX4_buyAll_49 ?_
          refine v_topi (y := nI (a + 1)) (nI_1 a) ?_
          refine v_imul C dX4_buyAll_50 ?_
          refine v_topi (y := nI (10 * (a + 1))) (by rw [show (10 : Int32) = nI 10 from rfl, nI_mul]) ?_
          refine v_icmp_ge (tgt := 93) C dX4_buyAll_51 (by decide) (fun h51 => ?_) (fun h51 => ?_)
          · have hq10 : q = 10 := by have := (nI_leI (by omega) (by omega)).mp h51; omega
            subst hq10
            refine v_iload_n C dX4_buyAll_93 rfl rfl ?_
            exact ret _ _ _ _ dX4_buyAll_94 ⟨by rw [hcd]; exact h00, fun _ => by unfold anBuyAll; rw [ea], by unfold stBuyAll; rw [if_pos hcd, ea]; exact RE.of (fun j h1 h2 => by rw [rwr_ne _ _ _ (by decide)]; exact h0j j h1 h2) (fun k h1 h2 => by by_cases hk : k = 6; (· subst hk; rw [rwr_same]; exact funext h6); (· rw [rwr_ne _ _ _ hk]; exact hr k hk (by omega))), fun q hq => hr q (by omega) (by omega)⟩
          · have hq10 : q < 10 := Nat.lt_of_not_le fun z => h51 ((nI_leI (by omega) (by omega)).mpr (by omega))
            have e6 : g1 6 (10 * a + q) = g 6 (10 * a + q) := by rw [h6, if_neg (by omega)]
            refine v_iload_n C dX4_buyAll_54 rfl rfl ?_
            refine v_bipush (v := 9) C dX4_buyAll_55 (by decide) ?_
            refine v_aload_n C dX4_buyAll_57 rfl rfl ?_
            refine v_get C inG4 rfl 6 (by decide) (tg3 201 rfl rfl) rfl cx_M rfl dX4_buyAll_58 ?_
            refine v_iload C dX4_buyAll_61 rfl ?_
            refine v_ialdN (a := (10 * a + q)) C cxA6 (by omega) dX4_buyAll_63 ?_
            refine v_topi (y := g 6 (10 * a + q)) e6 ?_
            refine v_isub C dX4_buyAll_64 ?_
            refine v_mmin C (tg4 67 rfl rfl) (tg2 207 rfl rfl) (tg1 14 rfl rfl) (tg2 208 rfl rfl) (Nat.le_of_ble_eq_true rfl) (Nat.le_of_ble_eq_true rfl) (Nat.le_of_ble_eq_true rfl) (Nat.le_of_ble_eq_true rfl) dX4_buyAll_65 ?_
            refine v_topi (y := moB g v (10 * a + q)) rfl ?_
            refine v_istore (lo' := [some (.ref (Z.ad 0)), some (.int (nI a)), some (.int v), some (.int (sumI (fun k => moB g v (10 * a + k)) q)), some (.int (nI (10 * a + q))), some (.int (moB g v (10 * a + q)))]) C dX4_buyAll_68 (Nat.le_of_ble_eq_true rfl) rfl rfl ?_
            refine v_aload_n C dX4_buyAll_70 rfl rfl ?_
            refine v_get C inG4 rfl 6 (by decide) (tg3 201 rfl rfl) rfl cx_M rfl dX4_buyAll_71 ?_
            refine v_iload C dX4_buyAll_74 rfl ?_
            refine v_dup2 C dX4_buyAll_76 rfl rfl ?_
            refine v_ialdN (a := (10 * a + q)) C cxA6 (by omega) dX4_buyAll_77 ?_
            refine v_topi (y := g 6 (10 * a + q)) e6 ?_
            refine v_iload C dX4_buyAll_78 rfl ?_
            refine v_iadd C dX4_buyAll_80 ?_
            refine v_iastN (a := (10 * a + q)) C (fun _ _ => cxA6) rfl (by omega) (by omega) dX4_buyAll_81 ?_
            refine v_iload_n C dX4_buyAll_82 rfl rfl ?_
            refine v_iload C dX4_buyAll_83 rfl ?_
            refine v_iadd C dX4_buyAll_85 ?_
            refine v_topi (y := sumI (fun k => moB g v (10 * a + k)) (q + 1)) rfl ?_
            refine v_istore_n (lo' := [some (.ref (Z.ad 0)), some (.int (nI a)), some (.int v), some (.int (sumI (fun k => moB g v (10 * a + k)) (q + 1))), some (.int (nI (10 * a + q))), some (.int (moB g v (10 * a + q)))]) C dX4_buyAll_86 rfl (Nat.le_of_ble_eq_true rfl) rfl rfl ?_
            refine v_iinc (lo' := [some (.ref (Z.ad 0)), some (.int (nI a)), some (.int v), some (.int (sumI (fun k => moB g v (10 * a + k)) (q + 1))), some (.int ((nI (10 * a + q)) + 1)), some (.int (moB g v (10 * a + q)))]) C dX4_buyAll_87 rfl rfl rfl rfl ?_
            refine v_lo (lo' := [some (.ref (Z.ad 0)), some (.int (nI a)), some (.int v), some (.int (sumI (fun k => moB g v (10 * a + k)) (q + 1))), some (.int (nI (10 * a + (q + 1)))), some (.int (moB g v (10 * a + q)))]) (by rw [← Nat.add_assoc, ← nI_1 (10 * a + q)]) ?_
            refine v_goto (tgt := 43) C dX4_buyAll_90 (by decide) ?_
            exact ih (q + 1) _ _ (by omega) (by omega) (by rw [wr_row _ _ _ _ (by decide)]; exact h00) (fun j h1 h2 => by rw [wr_row _ _ _ _ (by decide)]; exact h0j j h1 h2) (fun k h1 h2 => by rw [wr_row _ _ _ _ h1]; exact hr k h1 h2) (fun j => by by_cases hj : j = 10 * a + q; (· rw [hj, wr_same, if_pos (by omega)]); (· rw [wr_ne _ _ _ _ (Or.inr hj), h6]; by_cases hc : 10 * a ≤ j ∧ j < 10 * a + q; (· rw [if_pos hc, if_pos (by omega)]); (· rw [if_neg hc, if_neg (by omega)])))
      refine v_iconst (v := 0) C dX4_buyAll_35 (by decide) ?_
      refine v_topi (y := sumI (fun k => moB g v (10 * a + k)) 0) rfl ?_
      refine v_istore_n (lo' := [some (.ref (Z.ad 0)), some (.int (nI a)), some (.int v), some (.int (sumI (fun k => moB g v (10 * a + k)) 0)), none, none]) C dX4_buyAll_36 rfl (Nat.le_of_ble_eq_true rfl) rfl rfl ?_
      refine v_bipush (v := 10) C dX4_buyAll_37 (by decide) ?_
      refine v_iload_n C dX4_buyAll_39 rfl rfl ?_
      refine v_imul C dX4_buyAll_40 ?_
      refine v_topi (y := nI (10 * a + 0)) (by rw [show (10 : Int32) = nI 10 from rfl, nI_mul]; rfl) ?_
      refine v_istore (lo' := [some (.ref (Z.ad 0)), some (.int (nI a)), some (.int v), some (.int (sumI (fun k => moB g v (10 * a + k)) 0)), some (.int (nI (10 * a + 0))), none]) C dX4_buyAll_41 (Nat.le_of_ble_eq_true rfl) rfl rfl ?_
      exact loop 11 0 _ _ (by omega) (by omega) (wr_same _ _ _ _) (fun j h1 h2 => wr_ne _ _ _ _ (Or.inr (by omega))) (fun k h1 h2 => wr_row _ _ _ _ h2) (fun j => by rw [if_neg (by omega)]; rfl)
    · have k26 := bI_0.mp h26
      refine v_aload_n C dX4_buyAll_29 rfl rfl ?_
      refine v_iconst (v := 2) C dX4_buyAll_30 (by decide) ?_
      refine v_callVi (n := 1) (as := [.int 2]) C (c_no _ Z 2 (wr g 0 0 0)) (gv (tg4 48 rfl rfl) (tg4 50 rfl rfl) (tg0 20 rfl rfl) (tg1 6 rfl rfl) (tg4 51 rfl rfl)) (by decide +kernel) ⟨Nat.le_of_ble_eq_true rfl, Nat.le_of_ble_eq_true rfl⟩ rfl cx_M rfl rfl (Nat.le_of_ble_eq_true rfl) dX4_buyAll_31 ⟨Nat.le_of_ble_eq_true rfl, Nat.le_of_ble_eq_true rfl⟩ (fun r31 g31 hp31 => ?_)
      obtain ⟨rfl, hg31⟩ := hp31
      rw [hg31]
      exact ret _ _ _ _ dX4_buyAll_34 (PM.no (k := 2) (by unfold cdBuyAll; rw [enf, if_neg (by rw [k10]; decide), if_pos k26]) (by decide) (by unfold stBuyAll; rw [if_neg (by rw [show cdBuyAll g f v = 2 by unfold cdBuyAll; rw [enf, if_neg (by rw [k10]; decide), if_pos k26]]; decide)]) (fun j h1 h2 => wr_ne _ _ _ _ (Or.inr (by omega))) (fun q h1 h2 => wr_row _ _ _ _ (by omega)) (fun q hq => wr_row _ _ _ _ (by omega)))
  · have k10 := bI_0.mp h10
    refine v_aload_n C dX4_buyAll_13 rfl rfl ?_
    refine v_iconst (v := 1) C dX4_buyAll_14 (by decide) ?_
    refine v_callVi (n := 1) (as := [.int 1]) C (c_no _ Z 1 (wr g 0 0 0)) (gv (tg4 48 rfl rfl) (tg4 50 rfl rfl) (tg0 20 rfl rfl) (tg1 6 rfl rfl) (tg4 51 rfl rfl)) (by decide +kernel) ⟨Nat.le_of_ble_eq_true rfl, Nat.le_of_ble_eq_true rfl⟩ rfl cx_M rfl rfl (Nat.le_of_ble_eq_true rfl) dX4_buyAll_15 ⟨Nat.le_of_ble_eq_true rfl, Nat.le_of_ble_eq_true rfl⟩ (fun r15 g15 hp15 => ?_)
    obtain ⟨rfl, hg15⟩ := hp15
    rw [hg15]
    exact ret _ _ _ _ dX4_buyAll_18 (PM.no (k := 1) (by unfold cdBuyAll; rw [enf, if_pos k10]) (by decide) (by unfold stBuyAll; rw [if_neg (by rw [show cdBuyAll g f v = 1 by unfold cdBuyAll; rw [enf, if_pos k10]]; decide)]) (fun j h1 h2 => wr_ne _ _ _ _ (Or.inr (by omega))) (fun q h1 h2 => wr_row _ _ _ _ (by omega)) (fun q hq => wr_row _ _ _ _ (by omega)))
