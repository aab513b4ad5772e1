/-! THE REFERENCE: strike -/
set_option maxRecDepth 100000 in
theorem c_strike (l : Launch) (Z : Zc) (p : Int32) (g : MG) (hI : IvM g) : MI l yX4_strike cX4_strike 5 (some .int) (rmz 3 62 0 0) Z [.ref (Z.ad 0), .int p] g (PM g (cdStrike g p) (sumI (brO g (iz p)) 50) (stStrike g p)) := by
  refine ent_i (own := RX4) (lo := [some (.ref (Z.ad 0)), some (.int p), none, none, none]) (by decide) rfl (by simp [lg_sl, Value.category]) rfl (fun P hl C ret => ?_)
  obtain ⟨⟨nf, hf5, hnf⟩, ⟨np, hp6, hnp⟩, hot, hnl, htn, his, hwd, htk⟩ := id hI
  have enf : nfO g = nf := by unfold nfO; rw [hnf]; exact iz_nI (by omega)
  have enp : npO g = np := by unfold npO; rw [hnp]; exact iz_nI (by omega)
  refine v_aload_n C dX4_strike_0 rfl rfl ?_
  refine v_iconst (v := 0) C dX4_strike_1 (by decide) ?_
  refine v_put C inG4 rfl tyX4 tyX4_ok nmX4 0 (by decide) (tg3 195 rfl rfl) rfl rfl (ty := .int) rfl rfl rfl cx_M (Nat.le_of_ble_eq_true rfl) rfl (by omega) cx_M dX4_strike_2 ?_
  refine v_aload_n C dX4_strike_5 rfl rfl ?_
  refine v_iload_n C dX4_strike_6 rfl rfl ?_
  refine v_callVi (n := 1) (as := [.int p]) C (c_isPoster _ Z np p (wr g 0 0 0) hnp hp6) (gv (tg4 87 rfl rfl) (tg4 89 rfl rfl) (tg0 22 rfl rfl) (tg1 6 rfl rfl) (tg4 90 rfl rfl)) (by decide +kernel) ⟨Nat.le_of_ble_eq_true rfl, Nat.le_of_ble_eq_true rfl⟩ rfl cx_M rfl rfl (Nat.le_of_ble_eq_true rfl) dX4_strike_7 ⟨Nat.le_of_ble_eq_true rfl, Nat.le_of_ble_eq_true rfl⟩ (fun r7 g7 hp7 => ?_)
  obtain ⟨rfl, hg7⟩ := hp7
  rw [hg7]
  refine v_if_ne (tgt := 19) C dX4_strike_10 (by decide) (fun h10 => ?_) (fun h10 => ?_)
  · have k10 := bI_1.mp h10
    obtain ⟨a, ha, rfl⟩ := isN_ex k10
    have ea : iz (nI a) = a := iz_nI (by omega)
    have hl := IvM_nl hI (show a < 6 by omega)
    refine v_aload_n C dX4_strike_19 rfl rfl ?_
    refine v_get C inG4 rfl 15 (by decide) (tg3 210 rfl rfl) rfl cx_M rfl dX4_strike_20 ?_
    refine v_iload_n C dX4_strike_23 rfl rfl ?_
    refine v_ialdN (a := a) C cxA15 (by omega) dX4_strike_24 ?_
    refine v_topi (y := g 15 a) rfl ?_
    refine v_if_ne (tgt := 34) C dX4_strike_25 (by decide) (fun h25 => ?_) (fun h25 => ?_)
    · have hcd : cdStrike g (nI a) = 0 := by unfold cdStrike; rw [enp, if_neg (by rw [k10]; decide), ea, if_neg h25]
      have h1 : g 15 a = 1 := (his a (by omega)).resolve_left h25
      refine v_iconst (v := 0) C dX4_strike_34 (by decide) ?_
      refine v_topi (y := nI 0) rfl ?_
      refine v_istore_n (lo' := [some (.ref (Z.ad 0)), some (.int (nI a)), some (.int (nI 0)), none, none]) C dX4_strike_35 rfl (Nat.le_of_ble_eq_true rfl) rfl rfl ?_
      have loop2 : ∀ (n k : Nat) (g1 : MG) (v : Option Value), 50 - k < n → k ≤ 50 → (∀ q, q ≠ 6 → q ≠ 8 → q ≠ 7 → q ≠ 15 → g1 q = (wr g 0 0 0) q) → (∀ j, g1 15 j = if j = a then 0 else g 15 j) → (∀ j, g1 7 j = if j < 50 then skO g a j else g 7 j) → (∀ j, g1 6 j = if j < k then g 6 j - brO g a j else g 6 j) → (∀ j, g1 8 j = if j < k then g 8 j - 400 * brO g a j else g 8 j) → V P (rmz 3 62 0 0) Z [some (.ref (Z.ad 0)), some (.int (nI a)), some (.int (sumI (brO g a) k)), some (.int (nI k)), v] 81 [] g1 0 0 := by
        intro n
        induction n with
        | zero => intro k g1 v hn; exact absurd hn (Nat.not_lt_zero _)
        | succ n ih =>
          intro k g1 v hn hk hr h15 h7 h6 h8
          refine v_iload_n C dX4_strike_81 rfl rfl ?_
          refine v_bipush (v := 50) C dX4_strike_82 (by decide) ?_
          refine v_icmp_ge (tgt := 152) C dX4_strike_84 (by decide) (fun h84 => ?_) (fun h84 => ?_)
          · have hkn : k = 50 := Nat.le_antisymm hk ((nI_leI (a := 50) (by decide) (by omega)).mp h84)
            subst hkn
            refine v_aload_n C dX4_strike_152 rfl rfl ?_
            refine v_dup C dX4_strike_153 rfl ?_
            refine v_get C inG4 rfl 4 (by decide) (tg3 199 rfl rfl) rfl cx_M rfl dX4_strike_154 ?_
            refine v_topi (y := g 0 4) (by rw [hr 0 (by decide) (by decide) (by decide) (by decide)]; rfl) ?_
            refine v_iload_n C dX4_strike_157 rfl rfl ?_
            refine v_iadd C dX4_strike_158 ?_
            refine v_put C inG4 rfl tyX4 tyX4_ok nmX4 4 (by decide) (tg3 199 rfl rfl) rfl rfl (ty := .int) rfl rfl rfl cx_M (Nat.le_of_ble_eq_true rfl) rfl (by omega) cx_M dX4_strike_159 ?_
            refine v_iload_n C dX4_strike_162 rfl rfl ?_
            exact ret _ _ _ _ dX4_strike_163 ⟨by rw [hcd, wr_ne _ _ _ _ (Or.inr (by decide)), hr 0 (by decide) (by decide) (by decide) (by decide)]; rfl, fun _ => by rw [ea], by unfold stStrike; rw [if_pos hcd, ea]; exact ⟨fun j h1 h2 => by simp only [wr, hr 0 (show 0 ≠ 6 by decide) (by decide) (by decide) (by decide)]; repeat' (first | rfl | (exfalso; omega) | split), fun q h1 h2 => by rw [wr_row _ _ _ _ (by omega)]; funext j; by_cases q7 : q = 7; (· subst q7; exact h7 j); (· by_cases q6 : q = 6; (· subst q6; exact h6 j); (· by_cases q8 : q = 8; (· subst q8; exact h8 j); (· by_cases q15 : q = 15; (· subst q15; exact h15 j); (· rw [hr q q6 q8 q7 q15]; show _ = (if q = 7 then _ else if q = 6 then _ else if q = 8 then _ else if q = 15 then _ else if q = 0 then _ else g q j); rw [if_neg q7, if_neg q6, if_neg q8, if_neg q15, if_neg (by omega)]; exact congrFun (wr_row _ _ _ _ (by omega)) j)))), fun p k _ _ _ => by rw [wr_row _ _ _ _ (by decide), wr_row _ _ _ _ (by decide), wr_row _ _ _ _ (by decide), hr 18 (by decide) (by decide) (by decide) (by decide), hr 19 (by decide) (by decide) (by decide) (by decide), hr 20 (by decide) (by decide) (by decide) (by decide)]; exact ⟨rfl, rfl, rfl⟩⟩, fun q hq => by rw [wr_row _ _ _ _ (by omega), hr q (by omega) (by omega) (by omega) (by omega)]; exact wr_row _ _ _ _ (by omega)⟩
          · have hkn : k < 50 := Nat.lt_of_not_le fun q => h84 ((nI_leI (a := 50) (by decide) (by omega)).mpr q)
            refine v_aload_n C dX4_strike_87 rfl rfl ?_
            refine v_get C inG4 rfl 8 (by decide) (tg3 203 rfl rfl) rfl cx_M rfl dX4_strike_88 ?_
            refine v_iload_n C dX4_strike_91 rfl rfl ?_
            refine v_ialdN (a := k) C cxA8 (by omega) dX4_strike_92 ?_
            refine v_topi (y := g 8 k) (by rw [h8, if_neg (by omega)]) ?_
            refine v_sipush (v := 400) C dX4_strike_93 (by decide) ?_
            refine v_idiv C dX4_strike_96 (by decide) ?_
            refine v_aload_n C dX4_strike_97 rfl rfl ?_
            refine v_get C inG4 rfl 6 (by decide) (tg3 201 rfl rfl) rfl cx_M rfl dX4_strike_98 ?_
            refine v_iload_n C dX4_strike_101 rfl rfl ?_
            refine v_ialdN (a := k) C cxA6 (by omega) dX4_strike_102 ?_
            refine v_topi (y := g 6 k) (by rw [h6, if_neg (by omega)]) ?_
            refine v_aload_n C dX4_strike_103 rfl rfl ?_
            refine v_get C inG4 rfl 7 (by decide) (tg3 202 rfl rfl) rfl cx_M rfl dX4_strike_104 ?_
            refine v_iload_n C dX4_strike_107 rfl rfl ?_
            refine v_ialdN (a := k) C cxA7 (by omega) dX4_strike_108 ?_
            refine v_topi (y := skO g a k) (by rw [h7, if_pos hkn]) ?_
            refine v_isub C dX4_strike_109 ?_
            refine v_mmin C (tg4 67 rfl rfl) (tg2 207 rfl rfl) (tg1 14 rfl rfl) (tg2 208 rfl rfl) (Nat.le_of_ble_eq_true rfl) (Nat.le_of_ble_eq_true rfl) (Nat.le_of_ble_eq_true rfl) (Nat.le_of_ble_eq_true rfl) dX4_strike_110 ?_
            refine v_topi (y := brO g a k) rfl ?_
            refine v_istore (lo' := [some (.ref (Z.ad 0)), some (.int (nI a)), some (.int (sumI (brO g a) k)), some (.int (nI k)), some (.int (brO g a k))]) C dX4_strike_113 (Nat.le_of_ble_eq_true rfl) rfl rfl ?_
            refine v_aload_n C dX4_strike_115 rfl rfl ?_
            refine v_get C inG4 rfl 6 (by decide) (tg3 201 rfl rfl) rfl cx_M rfl dX4_strike_116 ?_
            refine v_iload_n C dX4_strike_119 rfl rfl ?_
            refine v_dup2 C dX4_strike_120 rfl rfl ?_
            refine v_ialdN (a := k) C cxA6 (by omega) dX4_strike_121 ?_
            refine v_topi (y := g 6 k) (by rw [h6, if_neg (by omega)]) ?_
            refine v_iload C dX4_strike_122 rfl ?_
            refine v_isub C dX4_strike_124 ?_
            refine v_iastN (a := k) C (fun _ _ => cxA6) rfl (by omega) (by omega) dX4_strike_125 ?_
            refine v_aload_n C dX4_strike_126 rfl rfl ?_
            refine v_get C inG4 rfl 8 (by decide) (tg3 203 rfl rfl) rfl cx_M rfl dX4_strike_127 ?_
            refine v_iload_n C dX4_strike_130 rfl rfl ?_
            refine v_dup2 C dX4_strike_131 rfl rfl ?_
            refine v_ialdN (a := k) C cxA8 (by omega) dX4_strike_132 ?_
            refine v_topi (y := g 8 k) (by rw [wr_row _ _ _ _ (by decide), h8, if_neg (by omega)]) ?_
            refine v_sipush (v := 400) C dX4_strike_133 (by decide) ?_
            refine v_iload C dX4_strike_136 rfl ?_
            refine v_imul C dX4_strike_138 ?_
            refine v_isub C dX4_strike_139 ?_
            refine v_iastN (a := k) C (fun _ _ => cxA8) rfl (by omega) (by omega) dX4_strike_140 ?_
            refine v_iload_n C dX4_strike_141 rfl rfl ?_
            refine v_iload C dX4_strike_142 rfl ?_
            refine v_iadd C dX4_strike_144 ?_
            refine v_topi (y := sumI (brO g a) (k + 1)) rfl ?_
            refine v_istore_n (lo' := [some (.ref (Z.ad 0)), some (.int (nI a)), some (.int (sumI (brO g a) (k + 1))), some (.int (nI k)), some (.int (brO g a k))]) C dX4_strike_145 rfl (Nat.le_of_ble_eq_true rfl) rfl rfl ?_
            refine v_iinc (lo' := [some (.ref (Z.ad 0)), some (.int (nI a)), some (.int (sumI (brO g a) (k + 1))), some (.int ((nI k) + 1)), some (.int (brO g a k))]) C dX4_strike_146 rfl rfl rfl rfl ?_
            refine v_lo (lo' := [some (.ref (Z.ad 0)), some (.int (nI a)), some (.int (sumI (brO g a) (k + 1))), some (.int (nI (k + 1))), some (.int (brO g a k))]) (by rw [← nI_1 k]) ?_
            refine v_goto (tgt := 81) C dX4_strike_149 (by decide) ?_
            exact ih (k + 1) _ _ (by omega) (by omega) (fun q h1 h2 h3 h4 => by rw [wr_row _ _ _ _ h2, wr_row _ _ _ _ h1]; exact hr q h1 h2 h3 h4) (fun j => by rw [wr_row _ _ _ _ (by decide), wr_row _ _ _ _ (by decide)]; exact h15 j) (fun j => by rw [wr_row _ _ _ _ (by decide), wr_row _ _ _ _ (by decide)]; exact h7 j) (fun j => by by_cases hj : j = k; (· rw [hj, wr_row _ _ _ _ (by decide), wr_same, if_pos (Nat.lt_succ_self k)]); (· rw [wr_row _ _ _ _ (by decide), wr_ne _ _ _ _ (Or.inr hj), h6]; by_cases hc : j < k; (· rw [if_pos hc, if_pos (by omega)]); (· rw [if_neg hc, if_neg (by omega)]))) (fun j => by by_cases hj : j = k; (· rw [hj, wr_same, if_pos (Nat.lt_succ_self k)]); (· rw [wr_ne _ _ _ _ (Or.inr hj), wr_row _ _ _ _ (by decide), h8]; by_cases hc : j < k; (· rw [if_pos hc, if_pos (by omega)]); (· rw [if_neg hc, if_neg (by omega)])))
      have loop1 : ∀ (n k : Nat) (g1 : MG), 50 - k < n → k ≤ 50 → (∀ q, q ≠ 7 → g1 q = (wr g 0 0 0) q) → (∀ j, g1 7 j = if j < k then skO g a j else g 7 j) → V P (rmz 3 62 0 0) Z [some (.ref (Z.ad 0)), some (.int (nI a)), some (.int (nI k)), none, none] 36 [] g1 0 0 := by
        intro n
        induction n with
        | zero => intro k g1 hn; exact absurd hn (Nat.not_lt_zero _)
        | succ n ih =>
          intro k g1 hn hk hr h7
          refine v_iload_n C dX4_strike_36 rfl rfl ?_
          refine v_bipush (v := 50) C dX4_strike_37 (by decide) ?_
          refine v_icmp_ge (tgt := 70) C dX4_strike_39 (by decide) (fun h39 => ?_) (fun h39 => ?_)
          · have hkn : k = 50 := Nat.le_antisymm hk ((nI_leI (a := 50) (by decide) (by omega)).mp h39)
            subst hkn
            refine v_aload_n C dX4_strike_70 rfl rfl ?_
            refine v_get C inG4 rfl 15 (by decide) (tg3 210 rfl rfl) rfl cx_M rfl dX4_strike_71 ?_
            refine v_iload_n C dX4_strike_74 rfl rfl ?_
            refine v_iconst (v := 0) C dX4_strike_75 (by decide) ?_
            refine v_iastN (a := a) C (fun _ _ => cxA15) rfl (by omega) (by omega) dX4_strike_76 ?_
            refine v_iconst (v := 0) C dX4_strike_77 (by decide) ?_
            refine v_topi (y := sumI (brO g a) 0) rfl ?_
            refine v_istore_n (lo' := [some (.ref (Z.ad 0)), some (.int (nI a)), some (.int (sumI (brO g a) 0)), none, none]) C dX4_strike_78 rfl (Nat.le_of_ble_eq_true rfl) rfl rfl ?_
            refine v_iconst (v := 0) C dX4_strike_79 (by decide) ?_
            refine v_topi (y := nI 0) rfl ?_
            refine v_istore_n (lo' := [some (.ref (Z.ad 0)), some (.int (nI a)), some (.int (sumI (brO g a) 0)), some (.int (nI 0)), none]) C dX4_strike_80 rfl (Nat.le_of_ble_eq_true rfl) rfl rfl ?_
            exact loop2 51 0 _ _ (by omega) (by omega) (fun q h1 h2 h3 h4 => by rw [wr_row _ _ _ _ h4]; exact hr q h3) (fun j => by simp only [wr, hr 15 (show 15 ≠ 7 by decide)]; rfl) (fun j => by rw [wr_row _ _ _ _ (by decide)]; exact h7 j) (fun j => by rw [if_neg (Nat.not_lt_zero j), wr_row _ _ _ _ (by decide), hr 6 (by decide)]; rfl) (fun j => by rw [if_neg (Nat.not_lt_zero j), wr_row _ _ _ _ (by decide), hr 8 (by decide)]; rfl)
          · have hkn : k < 50 := Nat.lt_of_not_le fun q => h39 ((nI_leI (a := 50) (by decide) (by omega)).mpr q)
            refine v_aload_n C dX4_strike_42 rfl rfl ?_
            refine v_get C inG4 rfl 7 (by decide) (tg3 202 rfl rfl) rfl cx_M rfl dX4_strike_43 ?_
            refine v_iload_n C dX4_strike_46 rfl rfl ?_
            refine v_dup2 C dX4_strike_47 rfl rfl ?_
            refine v_ialdN (a := k) C cxA7 (by omega) dX4_strike_48 ?_
            refine v_topi (y := g 7 k) (by rw [h7, if_neg (by omega)]) ?_
            refine v_aload_n C dX4_strike_49 rfl rfl ?_
            refine v_iload_n C dX4_strike_50 rfl rfl ?_
            refine v_iload_n C dX4_strike_51 rfl rfl ?_
            refine v_bipush (v := 10) C dX4_strike_52 (by decide) ?_
            refine v_idiv C dX4_strike_54 (by decide) ?_
            refine v_topi (y := nI (k / 10)) (nI_div (b := 10) (by omega) (by decide)) ?_
            refine v_iload_n C dX4_strike_55 rfl rfl ?_
            refine v_bipush (v := 10) C dX4_strike_56 (by decide) ?_
            refine v_irem C dX4_strike_58 (by decide) ?_
            refine v_topi (y := nI (k % 10)) (nI_mod10 (by omega)) ?_
            refine v_callVi (n := 3) (as := [.int (nI a), .int (nI (k / 10)), .int (nI (k % 10))]) C (c_outOf _ Z a (nlO g a) (k / 10) (k % 10) (wdO g) (tkO g) g1 (by omega) (by rw [hr 14 (by decide)]; exact hl.1) hl.2 (by rw [hr 17 (by decide)]; exact IvM_W hI) (by omega) (by omega) (by rw [hr 20 (by decide)]; exact IvM_T hI (by omega) h1)) (gv (tg4 127 rfl rfl) (tg4 129 rfl rfl) (tg0 28 rfl rfl) (tg1 6 rfl rfl) (tg4 130 rfl rfl)) (by decide +kernel) ⟨Nat.le_of_ble_eq_true rfl, Nat.le_of_ble_eq_true rfl⟩ rfl cx_M rfl rfl (Nat.le_of_ble_eq_true rfl) dX4_strike_59 ⟨Nat.le_of_ble_eq_true rfl, Nat.le_of_ble_eq_true rfl⟩ (fun r59 g59 hp59 => ?_)
            obtain ⟨hr59, hg59⟩ := hp59
            rw [hg59]
            have hr59 : r59 = nI (outO g a (k / 10) (k % 10)) := by rw [hr59, hr 18 (by decide)]; rfl
            subst hr59
            refine v_isub C dX4_strike_62 ?_
            refine v_iastN (a := k) C (fun _ _ => cxA7) rfl (by omega) (by omega) dX4_strike_63 ?_
            refine v_iinc (lo' := [some (.ref (Z.ad 0)), some (.int (nI a)), some (.int ((nI k) + 1)), none, none]) C dX4_strike_64 rfl rfl rfl rfl ?_
            refine v_lo (lo' := [some (.ref (Z.ad 0)), some (.int (nI a)), some (.int (nI (k + 1))), none, none]) (by rw [← nI_1 k]) ?_
            refine v_goto (tgt := 36) C dX4_strike_67 (by decide) ?_
            exact ih (k + 1) _ (by omega) (by omega) (fun q hq => by rw [wr_row _ _ _ _ hq]; exact hr q hq) (fun j => by by_cases hj : j = k; (· rw [hj, wr_same, if_pos (by omega)]; rfl); (· rw [wr_ne _ _ _ _ (Or.inr hj), h7]; by_cases hc : j < k; (· rw [if_pos hc, if_pos (by omega)]); (· rw [if_neg hc, if_neg (by omega)])))
      exact loop1 51 0 _ (by omega) (by omega) (fun _ _ => rfl) (fun j => by rw [if_neg (Nat.not_lt_zero j)]; rfl)
    · refine v_aload_n C dX4_strike_28 rfl rfl ?_
      refine v_iconst (v := 2) C dX4_strike_29 (by decide) ?_
      refine v_callVi (n := 1) (as := [.int 2]) C (c_no _ Z 2 (wr g 0 0 0)) (gv (tg4 48 rfl rfl) (tg4 50 rfl rfl) (tg0 20 rfl rfl) (tg1 6 rfl rfl) (tg4 51 rfl rfl)) (by decide +kernel) ⟨Nat.le_of_ble_eq_true rfl, Nat.le_of_ble_eq_true rfl⟩ rfl cx_M rfl rfl (Nat.le_of_ble_eq_true rfl) dX4_strike_30 ⟨Nat.le_of_ble_eq_true rfl, Nat.le_of_ble_eq_true rfl⟩ (fun r30 g30 hp30 => ?_)
      obtain ⟨rfl, hg30⟩ := hp30
      rw [hg30]
      exact ret _ _ _ _ dX4_strike_33 (PM.no (k := 2) (by unfold cdStrike; rw [enp, if_neg (by rw [k10]; decide), ea, if_pos h25]) (by decide) (by unfold stStrike; rw [if_neg (by rw [show cdStrike g (nI a) = 2 by unfold cdStrike; rw [enp, if_neg (by rw [k10]; decide), ea, if_pos h25]]; decide)]) (fun j h1 h2 => wr_ne _ _ _ _ (Or.inr (by omega))) (fun q h1 h2 => wr_row _ _ _ _ (by omega)) (fun q hq => wr_row _ _ _ _ (by omega)))
  · have k10 := bI_0.mp h10
    refine v_aload_n C dX4_strike_13 rfl rfl ?_
    refine v_iconst (v := 1) C dX4_strike_14 (by decide) ?_
    refine v_callVi (n := 1) (as := [.int 1]) C (c_no _ Z 1 (wr g 0 0 0)) (gv (tg4 48 rfl rfl) (tg4 50 rfl rfl) (tg0 20 rfl rfl) (tg1 6 rfl rfl) (tg4 51 rfl rfl)) (by decide +kernel) ⟨Nat.le_of_ble_eq_true rfl, Nat.le_of_ble_eq_true rfl⟩ rfl cx_M rfl rfl (Nat.le_of_ble_eq_true rfl) dX4_strike_15 ⟨Nat.le_of_ble_eq_true rfl, Nat.le_of_ble_eq_true rfl⟩ (fun r15 g15 hp15 => ?_)
    obtain ⟨rfl, hg15⟩ := hp15
    rw [hg15]
    exact ret _ _ _ _ dX4_strike_18 (PM.no (k := 1) (by unfold cdStrike; rw [enp, if_pos k10]) (by decide) (by unfold stStrike; rw [if_neg (by rw [show cdStrike g p = 1 by unfold cdStrike; rw [enp, if_pos k10]]; decide)]) (fun j h1 h2 => wr_ne _ _ _ _ (Or.inr (by omega))) (fun q h1 h2 => wr_row _ _ _ _ (by omega)) (fun q hq => wr_row _ _ _ _ (by omega)))
