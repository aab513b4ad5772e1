/-! THE CLASS: strike, the call -/
def stT (s : MG) (i : Nat) : MG := wr (skS s i (nlO s i)) 15 i 0
theorem stT_8 (s : MG) (i : Nat) : stT s i 8 = s 8 := by unfold stT; rw [wr_row _ _ _ _ (by decide), skS_r (by decide)]
theorem stT_6 (s : MG) (i : Nat) : stT s i 6 = s 6 := by unfold stT; rw [wr_row _ _ _ _ (by decide), skS_r (by decide)]
theorem stT_7 (s : MG) (i : Nat) {j : Nat} (hj : j < 50) : stT s i 7 j = skO s i j := by
  unfold stT
  rw [wr_row _ _ _ _ (by decide)]
  unfold skS
  rw [rwr_same, if_pos hj]
  rfl
theorem bk_br (s : MG) (i : Nat) {j : Nat} (hj : j < 50) : bkO (stT s i) j = brO s i j := by
  unfold bkO brO
  rw [stT_8, stT_6, stT_7 s i hj]
theorem br_0 {s : MG} (hZ : IvZ s) (hF9 : IvF s) {p : Nat} (hp : p < npO s) (h1 : s 15 p = 1) (h5 : nfO s ≤ 5) {j : Nat} (hj : 10 * nfO s ≤ j) (hj2 : j < 50) : brO s p j = 0 := by
  obtain ⟨e6, e7, e8⟩ := hZ j hj hj2
  unfold brO skO outO
  rw [e6, e7, e8, outN_far hF9 hp h1 h5 (show nfO s ≤ j / 10 by omega) (by omega) _ (Nat.le_refl _)]
  decide
theorem br_sum {s : MG} (hZ : IvZ s) (hF9 : IvF s) {p : Nat} (hp : p < npO s) (h1 : s 15 p = 1) (h5 : nfO s ≤ 5) : sumI (fun n => sumI (fun j => bkO (stT s p) (10 * n + j)) 10) (nfO s) = sumI (brO s p) 50 := by
  rw [sumI_10, sumI_50 h5 (fun j h2 h3 => br_0 hZ hF9 hp h1 h5 h2 h3)]
  exact sumI_cong _ (fun j hj => bk_br s p (by omega))
theorem Rl_brk {s g : MG} (hI : IvM s) (h : Rl s g) (e : Int32) : Rl (wr s 0 4 (s 0 4 + e)) (wr g 30 6 (g 30 6 + e)) := by
  have hp6 := (IvM_np hI).1
  obtain ⟨⟨a1, a2, a3, a4, a5, a6, a7⟩, hF, hP⟩ := h
  have es : ∀ z, z ≠ 0 → wr s 0 4 (s 0 4 + e) z = s z := fun z z1 => wr_row _ _ _ _ z1
  have e0 : ∀ j, j ≠ 4 → wr s 0 4 (s 0 4 + e) 0 j = s 0 j := fun j hj => wr_ne _ _ _ _ (Or.inr hj)
  have eg : ∀ k, k ≠ 30 → wr g 30 6 (g 30 6 + e) k = g k := fun k k1 => wr_row _ _ _ _ k1
  refine ⟨⟨by rw [e0 1 (by decide), eg 31 (by decide)]; exact a1, by rw [e0 2 (by decide), eg 32 (by decide)]; exact a2, by rw [e0 3 (by decide), wr_ne _ _ _ _ (Or.inr (by decide))]; exact a3, by rw [wr_same, wr_same, a4], by rw [es 9 (by decide), eg 33 (by decide)]; exact a5, by rw [es 10 (by decide), eg 34 (by decide)]; exact a6, by rw [es 11 (by decide), eg 35 (by decide)]; exact a7⟩, hF.c (e0 1 (by decide)) (fun k k1 k2 => es k (by omega)) (fun k k1 k2 _ => eg k (by omega)) (IvM_nf hI).1, hP.c (e0 2 (by decide)) (fun k k1 k2 => es k (by omega)) (fun k k1 k2 => eg k (by omega)) hp6 (fun p hp => (IvM_nl hI hp).2)⟩
theorem st_strike {s : MG} (hZ : IvZ s) (hF9 : IvF s) {p : Nat} (hp : p < npO s) (h1 : s 15 p = 1) (h5 : nfO s ≤ 5) (hp6 : p < 6) (hcd : cdStrike s (nI p) = 0) : wr (bkS (stT s p) (nfO s)) 0 4 (bkS (stT s p) (nfO s) 0 4 + sumI (brO s p) 50) = stStrike s (nI p) := by
  funext k j
  unfold stStrike
  rw [if_pos hcd, iz_nI (by omega)]
  show wr (bkS (stT s p) (nfO s)) 0 4 (bkS (stT s p) (nfO s) 0 4 + sumI (brO s p) 50) k j = if k = 7 then (if j < 50 then skO s p j else s 7 j) else if k = 6 then (if j < 50 then s 6 j - brO s p j else s 6 j) else if k = 8 then (if j < 50 then s 8 j - 400 * brO s p j else s 8 j) else if k = 15 then (if j = p then 0 else s 15 j) else if k = 0 then (if j = 4 then s 0 4 + sumI (brO s p) 50 else s 0 j) else s k j
  by_cases k7 : k = 7
  · subst k7
    rw [if_pos rfl, wr_row _ _ _ _ (by decide), bkS_r (by decide) (by decide)]
    by_cases hj : j < 50
    · rw [if_pos hj, stT_7 s p hj]
    · rw [if_neg hj]
      unfold stT
      rw [wr_row _ _ _ _ (by decide)]
      unfold skS
      rw [rwr_same, if_neg hj]
  · rw [if_neg k7]
    by_cases k6 : k = 6
    · subst k6
      rw [if_pos rfl, wr_row _ _ _ _ (by decide)]
      unfold bkS
      by_cases hj : j < 10 * nfO s
      · rw [if_pos ⟨rfl, hj⟩, if_pos (show j < 50 by omega), stT_6, bk_br s p (by omega)]
      · rw [if_neg (fun z => hj z.2), if_neg (by omega), stT_6]
        by_cases hj2 : j < 50
        · rw [if_pos hj2, br_0 hZ hF9 hp h1 h5 (by omega) hj2, Int32.sub_zero]
        · rw [if_neg hj2]
    · rw [if_neg k6]
      by_cases k8 : k = 8
      · subst k8
        rw [if_pos rfl, wr_row _ _ _ _ (by decide)]
        unfold bkS
        rw [if_neg (by omega)]
        by_cases hj : j < 10 * nfO s
        · rw [if_pos ⟨rfl, hj⟩, if_pos (show j < 50 by omega), stT_8, bk_br s p (by omega), Int32.mul_comm]
        · rw [if_neg (fun z => hj z.2), stT_8]
          by_cases hj2 : j < 50
          · rw [if_pos hj2, br_0 hZ hF9 hp h1 h5 (by omega) hj2]; grind
          · rw [if_neg hj2]
      · rw [if_neg k8]
        by_cases k15 : k = 15
        · subst k15
          rw [if_pos rfl, wr_row _ _ _ _ (by decide), bkS_r (by decide) (by decide)]
          unfold stT
          by_cases hj : j = p
          · rw [if_pos hj, hj, wr_same]
          · rw [if_neg hj, wr_ne _ _ _ _ (Or.inr hj), skS_r (by decide)]
        · rw [if_neg k15]
          have et : bkS (stT s p) (nfO s) k = s k := by
            rw [bkS_r k6 k8]
            unfold stT
            rw [wr_row _ _ _ _ k15, skS_r k7]
          by_cases k0 : k = 0
          · subst k0
            rw [if_pos rfl]
            by_cases hj : j = 4
            · rw [if_pos hj, hj, wr_same, et]
            · rw [if_neg hj, wr_ne _ _ _ _ (Or.inr hj), et]
          · rw [if_neg k0, wr_row _ _ _ _ k0, et]
set_option maxRecDepth 100000 in
theorem x_strike (l : Launch) (hl9 : l.stackTraces = false) (Z : Zc) (p : Int32) (s g : MG) (hI : IvM s) (hF9 : IvF s) (hZ : IvZ s) (hR : Rl s g) : XI l yX3_strike cX3_strike 5 (some .int) (rmz 8 240 1 6) Z [.ref (Z.ad 30), .int p] g (PX g (cdStrike s p) (sumI (brO s (iz p)) 50) (stStrike s p)) (PXx g (cdStrike s p) (nm3 0 2 2) (stStrike s p)) := by
  refine ent_xi (lo := [some (.ref (Z.ad 30)), some (.int p), none, none, none]) hl9 (by decide) rfl (by simp [lg_sl, Value.category]) rfl (by decide) (fun P hl C ret thr => ?_)
  have hnf := (IvM_nf hI).2
  have hf5 := (IvM_nf hI).1
  have hnp := (IvM_np hI).2
  have hp6 := (IvM_np hI).1
  have hn1 : g 31 2 = nI (nfO s) := hR.1.1.trans hnf
  have hn2 : g 32 2 = nI (npO s) := hR.1.2.1.trans hnp
  refine v_aload_n C dX3_strike_0 rfl rfl ?_
  refine v_iload_n C dX3_strike_1 rfl rfl ?_
  refine v_callVi (n := 1) (as := [.int p]) C (c_cisPoster _ Z (npO s) p g hn2 hp6) (gv (tg1 93 rfl rfl) (tg1 95 rfl rfl) (tg0 0 rfl rfl) (tg1 1 rfl rfl) (tg1 96 rfl rfl)) (by decide +kernel) ⟨Nat.le_of_ble_eq_true rfl, Nat.le_of_ble_eq_true rfl⟩ rfl cx_T rfl rfl (Nat.le_of_ble_eq_true rfl) dX3_strike_2 ⟨Nat.le_of_ble_eq_true rfl, Nat.le_of_ble_eq_true rfl⟩ (fun r2 g2 hp2 => ?_)
  obtain ⟨rfl, hg2⟩ := hp2
  rw [hg2]
  refine v_if_ne (tgt := 18) C dX3_strike_5 (by decide) (fun h5 => ?_) (fun h5 => ?_)
  · have k5 := bI_1.mp h5
    obtain ⟨i, hi, ei⟩ : ∃ i, i < npO s ∧ p = nI i := ⟨iz p, (isN_nI k5).2, (isN_nI k5).1⟩
    subst ei
    have hP := PsP.mk hn2 hi hp6
    obtain ⟨r12, r13, r15, r16, r14, rL⟩ := hR.2.2 i hi
    have hm : g (100 + 10 * i + 1) 2 = nI (nlO s i) := r14.trans (IvM_nl hI (by omega)).1
    have hm4 := (IvM_nl hI (show i < 6 by omega)).2
    refine v_aload_n C dX3_strike_18 rfl rfl ?_
    refine v_get C inG3 rfl 1 (by decide) (tg1 67 rfl rfl) rfl cx_T rfl dX3_strike_19 ?_
    refine v_iload_n C dX3_strike_22 rfl rfl ?_
    refine v_callVq (n := 1) (as := [.int (nI i)]) C (c_lget _ Z 32 37 (npO s) i g cx_L2 hn2 hi (by omega) (fun j => Z.ad (100 + 10 * j)) (cxE2 hn2)) (gv (tg1 169 rfl rfl) (tg1 170 rfl rfl) (tg1 171 rfl rfl) (tg1 4 rfl rfl) (tg1 172 rfl rfl)) (by decide +kernel) ⟨Nat.le_of_ble_eq_true rfl, Nat.le_of_ble_eq_true rfl⟩ rfl cx_L2 rfl rfl (Nat.le_of_ble_eq_true rfl) dX3_strike_23 ⟨Nat.le_of_ble_eq_true rfl, Nat.le_of_ble_eq_true rfl⟩ (fun r23 g23 hp23 => ?_)
    obtain ⟨rfl, hg23⟩ := hp23
    rw [hg23]
    refine v_st (st' := [.ref (Z.ad (100 + 10 * i))]) rfl ?_
    refine v_cast C rfl (tg1 183 rfl rfl) (cxP hP) dX3_strike_26 ?_
    refine v_astore_n (lo' := [some (.ref (Z.ad 30)), some (.int (nI i)), some (.ref (Z.ad (100 + 10 * i))), none, none]) C dX3_strike_29 rfl (Nat.le_of_ble_eq_true rfl) rfl rfl ?_
    refine v_aload_n C dX3_strike_30 rfl rfl ?_
    refine v_get C inG2 rfl 3 (by decide) (tg3 96 rfl rfl) rfl (cxP hP) rfl dX3_strike_31 ?_
    refine v_if_ne (tgt := 47) C dX3_strike_34 (by decide) (fun h34 => ?_) (fun h34 => ?_)
    · refine v_iconst (v := 0) C dX3_strike_47 (by decide) ?_
      refine v_topi (y := nI 0) rfl ?_
      refine v_istore_n (lo' := [some (.ref (Z.ad 30)), some (.int (nI i)), some (.ref (Z.ad (100 + 10 * i))), some (.int (nI 0)), none]) C dX3_strike_48 rfl (Nat.le_of_ble_eq_true rfl) rfl rfl ?_
      have h1 : s 15 i = 1 := (IvM_01 hI (by omega)).resolve_left (fun z => h34 (r15.trans z))
      have hcd9 : cdStrike s (nI i) = 0 := by unfold cdStrike; rw [if_neg (by simp [k5]), if_neg (by rw [iz_nI (by omega), h1]; decide)]
      have hIt : IvM (stT s i) := by
        obtain ⟨b1, b2, b3, b4, b5, b6, b7, b8⟩ := skS_I hI i (nlO s i)
        refine ⟨b1, b2, b3, b4, b5, fun a ha => ?_, b7, fun a k ha hz hk => ?_⟩
        · by_cases e : a = i
          · left; rw [e]; exact wr_same _ _ _ _
          · show wr (skS s i (nlO s i)) 15 i 0 15 a = 0 ∨ wr (skS s i (nlO s i)) 15 i 0 15 a = 1
            rw [wr_ne _ _ _ _ (Or.inr e)]; exact b6 a ha
        · by_cases e : a = i
          · rw [e] at hz; exact absurd ((wr_same (skS s i (nlO s i)) 15 i 0).symm.trans hz) (by decide)
          · exact b8 a k ha ((wr_ne (skS s i (nlO s i)) 15 i 0 (Or.inr e)).symm.trans hz) hk
      have loop2 : ∀ (n m : Nat) (g1 : MG), nfO s - m < n → m ≤ nfO s → Rl (bkS (stT s i) m) g1 → FrK g g1 → V P (rmz 8 240 1 6) Z [some (.ref (Z.ad 30)), some (.int (nI i)), some (.ref (Z.ad (100 + 10 * i))), some (.int (sumI (fun n => sumI (fun j => bkO (stT s i) (10 * n + j)) 10) m)), some (.int (nI m))] 90 [] g1 0 0 := by
        intro n
        induction n with
        | zero => intro m g1 hm; exact absurd hm (Nat.not_lt_zero _)
        | succ n ih =>
          intro m g1 hm9 hk hR1 hf1
          have hn3 : g1 31 2 = nI (nfO s) := hR1.1.1.trans hnf
          refine v_iload C dX3_strike_90 rfl ?_
          refine v_aload_n C dX3_strike_92 rfl rfl ?_
          refine v_get C inG3 rfl 0 (by decide) (tg1 66 rfl rfl) rfl cx_T rfl dX3_strike_93 ?_
          refine v_callVi (n := 0) (as := []) C (c_lsize _ Z 31 36 g1 cx_L1) (gv (tg1 97 rfl rfl) (tg1 98 rfl rfl) (tg1 99 rfl rfl) (tg1 4 rfl rfl) (tg1 100 rfl rfl)) (by decide +kernel) ⟨Nat.le_of_ble_eq_true rfl, Nat.le_of_ble_eq_true rfl⟩ rfl cx_L1 rfl rfl (Nat.le_of_ble_eq_true rfl) dX3_strike_96 ⟨Nat.le_of_ble_eq_true rfl, Nat.le_of_ble_eq_true rfl⟩ (fun r96 g96 hp96 => ?_)
          obtain ⟨rfl, hg96⟩ := hp96
          rw [hg96]
          refine v_topi (y := nI (nfO s)) hn3 ?_
          refine v_icmp_ge (tgt := 126) C dX3_strike_99 (by decide) (fun h99 => ?_) (fun h99 => ?_)
          · have hkn : m = nfO s := Nat.le_antisymm hk ((nI_leI (by omega) (by omega)).mp h99)
            rw [hkn] at hR1
            refine v_lo (lo' := [some (.ref (Z.ad 30)), some (.int (nI i)), some (.ref (Z.ad (100 + 10 * i))), some (.int (sumI (brO s i) 50)), some (.int (nI m))]) (by rw [hkn, br_sum hZ hF9 hi h1 hf5]) ?_
            refine v_aload_n C dX3_strike_126 rfl rfl ?_
            refine v_dup C dX3_strike_127 rfl ?_
            refine v_get C inG3 rfl 6 (by decide) (tg1 72 rfl rfl) rfl cx_T rfl dX3_strike_128 ?_
            refine v_iload_n C dX3_strike_131 rfl rfl ?_
            refine v_iadd C dX3_strike_132 ?_
            refine v_put C inG3 rfl tyX3 tyX3_ok nmX3 6 (by decide) (tg1 72 rfl rfl) rfl rfl (ty := .int) rfl rfl rfl cx_T (Nat.le_of_ble_eq_true rfl) rfl (by omega) cx_T dX3_strike_133 ?_
            refine v_iload_n C dX3_strike_136 rfl rfl ?_
            refine v_wide (k := 1) (n := 6) (Nat.le_of_ble_eq_true rfl) (Nat.le_of_ble_eq_true rfl) ?_
            exact ret _ _ _ _ dX3_strike_137 ⟨hcd9, (show sumI (brO s i) 50 = sumI (brO s (iz (nI i))) 50 by rw [iz_nI (by omega)]), by rw [← st_strike hZ hF9 hi h1 hf5 (by omega) hcd9]; exact Rl_brk (bkS_I hIt _) hR1 _, hf1.w (by decide)⟩
          · have hm8 : m < nfO s := Nat.lt_of_not_le fun z => h99 ((nI_leI (by omega) (by omega)).mpr z)
            have hF1 := FnP.mk hn3 hm8 hf5
            have hbr := Rl_break hIt hm8 hR1
            refine v_iload_n C dX3_strike_102 rfl rfl ?_
            refine v_aload_n C dX3_strike_103 rfl rfl ?_
            refine v_get C inG3 rfl 0 (by decide) (tg1 66 rfl rfl) rfl cx_T rfl dX3_strike_104 ?_
            refine v_iload C dX3_strike_107 rfl ?_
            refine v_callVq (n := 1) (as := [.int (nI m)]) C (c_lget _ Z 31 36 (nfO s) m g1 cx_L1 hn3 hm8 (by omega) (fun j => Z.ad (40 + 10 * j)) (cxE1 hn3)) (gv (tg1 169 rfl rfl) (tg1 170 rfl rfl) (tg1 171 rfl rfl) (tg1 4 rfl rfl) (tg1 172 rfl rfl)) (by decide +kernel) ⟨Nat.le_of_ble_eq_true rfl, Nat.le_of_ble_eq_true rfl⟩ rfl cx_L1 rfl rfl (Nat.le_of_ble_eq_true rfl) dX3_strike_109 ⟨Nat.le_of_ble_eq_true rfl, Nat.le_of_ble_eq_true rfl⟩ (fun r109 g109 hp109 => ?_)
            obtain ⟨rfl, hg109⟩ := hp109
            rw [hg109]
            refine v_st (st' := [.ref (Z.ad (40 + 10 * m)), .int (sumI (fun n => sumI (fun j => bkO (stT s i) (10 * n + j)) 10) m)]) rfl ?_
            refine v_cast C rfl (tg1 200 rfl rfl) (cxF hF1) dX3_strike_112 ?_
            refine v_callVi (n := 0) (as := []) C (c_breakWorn _ Z m g1 hF1) (gv (tg2 27 rfl rfl) (tg2 28 rfl rfl) (tg2 29 rfl rfl) (tg1 12 rfl rfl) (tg2 30 rfl rfl)) (by decide +kernel) ⟨Nat.le_of_ble_eq_true rfl, Nat.le_of_ble_eq_true rfl⟩ rfl (cxF hF1) rfl rfl (Nat.le_of_ble_eq_true rfl) dX3_strike_115 ⟨Nat.le_of_ble_eq_true rfl, Nat.le_of_ble_eq_true rfl⟩ (fun r115 g115 hp115 => ?_)
            obtain ⟨rfl, hg115⟩ := hp115
            rw [hg115]
            refine v_topi (y := sumI (fun j => bkO (stT s i) (10 * m + j)) 10) hbr.2 ?_
            refine v_iadd C dX3_strike_118 ?_
            refine v_topi (y := sumI (fun n => sumI (fun j => bkO (stT s i) (10 * n + j)) 10) (m + 1)) rfl ?_
            refine v_istore_n (lo' := [some (.ref (Z.ad 30)), some (.int (nI i)), some (.ref (Z.ad (100 + 10 * i))), some (.int (sumI (fun n => sumI (fun j => bkO (stT s i) (10 * n + j)) 10) (m + 1))), some (.int (nI m))]) C dX3_strike_119 rfl (Nat.le_of_ble_eq_true rfl) rfl rfl ?_
            refine v_iinc (lo' := [some (.ref (Z.ad 30)), some (.int (nI i)), some (.ref (Z.ad (100 + 10 * i))), some (.int (sumI (fun n => sumI (fun j => bkO (stT s i) (10 * n + j)) 10) (m + 1))), some (.int ((nI m) + 1))]) C dX3_strike_120 rfl rfl rfl rfl ?_
            refine v_lo (lo' := [some (.ref (Z.ad 30)), some (.int (nI i)), some (.ref (Z.ad (100 + 10 * i))), some (.int (sumI (fun n => sumI (fun j => bkO (stT s i) (10 * n + j)) 10) (m + 1))), some (.int (nI (m + 1)))]) (by rw [← nI_1 m]) ?_
            refine v_goto (tgt := 90) C dX3_strike_123 (by decide) ?_
            exact ih (m + 1) _ (by omega) (by omega) hbr.1 ⟨fun k hk => by unfold bwG; rw [if_neg (by omega), if_neg (by omega), if_neg (by omega)]; exact hf1.1 k hk, by unfold bwG; rw [if_neg (by omega), if_neg (by omega), if_neg (by omega)]; exact hf1.2⟩
      have loop : ∀ (n q : Nat) (g1 : MG), nlO s i - q < n → q ≤ nlO s i → Rl (skS s i q) g1 → FrK g g1 → V P (rmz 8 240 1 6) Z [some (.ref (Z.ad 30)), some (.int (nI i)), some (.ref (Z.ad (100 + 10 * i))), some (.int (nI q)), none] 49 [] g1 0 0 := by
        intro n
        induction n with
        | zero => intro q g1 hm; exact absurd hm (Nat.not_lt_zero _)
        | succ n ih =>
          intro q g1 hm9 hq hR1 hf1
          have hn4 : g1 32 2 = nI (npO s) := hR1.1.2.1.trans (by rw [skS_r (by decide)]; exact hnp)
          have hn3 : g1 31 2 = nI (nfO s) := hR1.1.1.trans (by rw [skS_r (by decide)]; exact hnf)
          have hP1 := PsP.mk hn4 hi hp6
          have q14 := (hR1.2.2 i hi).2.2.2.2.1
          have hm1 : g1 (100 + 10 * i + 1) 2 = nI (nlO s i) := q14.trans (by rw [skS_r (by decide)]; exact (IvM_nl hI (by omega)).1)
          refine v_iload_n C dX3_strike_49 rfl rfl ?_
          refine v_aload_n C dX3_strike_50 rfl rfl ?_
          refine v_get C inG2 rfl 2 (by decide) (tg3 94 rfl rfl) rfl (cxP hP1) rfl dX3_strike_51 ?_
          refine v_callVi (n := 0) (as := []) C (c_lsize _ Z (100 + 10 * i + 1) (100 + 10 * i + 1 + 1) g1 (cxPL hP1)) (gv (tg1 97 rfl rfl) (tg1 98 rfl rfl) (tg1 99 rfl rfl) (tg1 4 rfl rfl) (tg1 100 rfl rfl)) (by decide +kernel) ⟨Nat.le_of_ble_eq_true rfl, Nat.le_of_ble_eq_true rfl⟩ rfl (cxPL hP1) rfl rfl (Nat.le_of_ble_eq_true rfl) dX3_strike_54 ⟨Nat.le_of_ble_eq_true rfl, Nat.le_of_ble_eq_true rfl⟩ (fun r54 g54 hp54 => ?_)
          obtain ⟨rfl, hg54⟩ := hp54
          rw [hg54]
          refine v_topi (y := nI (nlO s i)) hm1 ?_
          refine v_icmp_ge (tgt := 80) C dX3_strike_57 (by decide) (fun h57 => ?_) (fun h57 => ?_)
          · have hkn : q = nlO s i := Nat.le_antisymm hq ((nI_leI (by omega) (by omega)).mp h57)
            rw [hkn] at hR1
            refine v_aload_n C dX3_strike_80 rfl rfl ?_
            refine v_iconst (v := 0) C dX3_strike_81 (by decide) ?_
            refine v_put C inG2 rfl tyX2 tyX2_ok nmX2 3 (by decide) (tg3 96 rfl rfl) rfl rfl (ty := .boolean) rfl rfl rfl (cxP hP1) (Nat.le_of_ble_eq_true rfl) (lk_n (by omega) (by omega) (by omega)) (fun _ => Or.inl (by omega)) (cxP_w3 hP1 _) dX3_strike_82 ?_
            refine v_iconst (v := 0) C dX3_strike_85 (by decide) ?_
            refine v_topi (y := sumI (fun n => sumI (fun j => bkO (stT s i) (10 * n + j)) 10) 0) rfl ?_
            refine v_istore_n (lo' := [some (.ref (Z.ad 30)), some (.int (nI i)), some (.ref (Z.ad (100 + 10 * i))), some (.int (sumI (fun n => sumI (fun j => bkO (stT s i) (10 * n + j)) 10) 0)), none]) C dX3_strike_86 rfl (Nat.le_of_ble_eq_true rfl) rfl rfl ?_
            refine v_iconst (v := 0) C dX3_strike_87 (by decide) ?_
            refine v_topi (y := nI 0) rfl ?_
            refine v_istore (lo' := [some (.ref (Z.ad 30)), some (.int (nI i)), some (.ref (Z.ad (100 + 10 * i))), some (.int (sumI (fun n => sumI (fun j => bkO (stT s i) (10 * n + j)) 10) 0)), some (.int (nI 0))]) C dX3_strike_88 (Nat.le_of_ble_eq_true rfl) rfl rfl ?_
            exact loop2 (nfO s + 1) 0 _ (by omega) (by omega) (by rw [bkS_0]; exact Rl_unset (skS_I hI i (nlO s i)) hR1 hi) (hf1.w (by omega))
          · have hqn : q < nlO s i := Nat.lt_of_not_le fun z => h57 ((nI_leI (by omega) (by omega)).mpr z)
            have hL1 : LnP g1 i q := LnP.mk hP1 hm1 hqn hm4
            obtain ⟨f, hf, hfe⟩ := hF9 i q hi h1 hqn
            have hl9 := ((hR1.2.2 i hi).2.2.2.2.2 q hqn).2 h1
            refine v_aload_n C dX3_strike_60 rfl rfl ?_
            refine v_get C inG2 rfl 2 (by decide) (tg3 94 rfl rfl) rfl (cxP hP1) rfl dX3_strike_61 ?_
            refine v_iload_n C dX3_strike_64 rfl rfl ?_
            refine v_callVq (n := 1) (as := [.int (nI q)]) C (c_lget _ Z (100 + 10 * i + 1) (100 + 10 * i + 1 + 1) (nlO s i) q g1 (cxPL hP1) hm1 hqn (by omega) (fun j => Z.ad (200 + 10 * (4 * i + j))) (cxPE' hP1 hm1)) (gv (tg1 169 rfl rfl) (tg1 170 rfl rfl) (tg1 171 rfl rfl) (tg1 4 rfl rfl) (tg1 172 rfl rfl)) (by decide +kernel) ⟨Nat.le_of_ble_eq_true rfl, Nat.le_of_ble_eq_true rfl⟩ rfl (cxPL hP1) rfl rfl (Nat.le_of_ble_eq_true rfl) dX3_strike_65 ⟨Nat.le_of_ble_eq_true rfl, Nat.le_of_ble_eq_true rfl⟩ (fun r65 g65 hp65 => ?_)
            obtain ⟨rfl, hg65⟩ := hp65
            rw [hg65]
            refine v_st (st' := [.ref (Z.ad (200 + 10 * (4 * i + q)))]) rfl ?_
            refine v_cast C rfl (tg1 212 rfl rfl) (cxLn hL1) dX3_strike_68 ?_
            refine v_callVv (n := 0) (as := []) C (c_putBack _ Z f i q g1 (FnP.mk hn3 hf hf5) hL1 (hl9.1.trans (by rw [skS_r (by decide)]; exact hfe))) (gv (tg2 23 rfl rfl) (tg2 24 rfl rfl) (tg2 25 rfl rfl) (tg1 28 rfl rfl) (tg2 26 rfl rfl)) (by decide +kernel) ⟨Nat.le_of_ble_eq_true rfl, Nat.le_of_ble_eq_true rfl⟩ rfl (cxLn hL1) rfl rfl (Nat.le_of_ble_eq_true rfl) dX3_strike_71 ⟨Nat.le_of_ble_eq_true rfl, Nat.le_of_ble_eq_true rfl⟩ (fun g71 hp71 => ?_)
            have hg71 := hp71
            rw [hg71]
            refine v_iinc (lo' := [some (.ref (Z.ad 30)), some (.int (nI i)), some (.ref (Z.ad (100 + 10 * i))), some (.int ((nI q) + 1)), none]) C dX3_strike_74 rfl rfl rfl rfl ?_
            refine v_lo (lo' := [some (.ref (Z.ad 30)), some (.int (nI i)), some (.ref (Z.ad (100 + 10 * i))), some (.int (nI (q + 1))), none]) (by rw [← nI_1 q]) ?_
            refine v_goto (tgt := 49) C dX3_strike_77 (by decide) ?_
            exact ih (q + 1) _ (by omega) (by omega) (Rl_back hI hi h1 hqn hf hfe hR1) ⟨fun k hk => by rw [rwr_ne _ _ _ (by omega)]; exact hf1.1 k hk, by rw [rwr_ne _ _ _ (by omega)]; exact hf1.2⟩
      exact loop (nlO s i + 1) 0 g (by omega) (by omega) (by rw [skS_0]; exact hR) FrK.rf
    · exact thr _ _ _ _ _ 2 _ _ (List.mem_of_getElem? (i := 17) rfl) ⟨Nat.le_of_ble_eq_true rfl, Nat.le_of_ble_eq_true rfl⟩ dX3_strike_37 dX3_strike_40 dX3_strike_41 dX3_strike_43 dX3_strike_46 (PXx.no (k := 2) (by unfold cdStrike; rw [if_neg (by simp [k5]), if_pos (by rw [iz_nI (by omega)]; exact r15.symm.trans h34)]) (by decide) rfl (by unfold stStrike; rw [if_neg (by rw [show cdStrike s (nI i) = 2 by unfold cdStrike; rw [if_neg (by simp [k5]), if_pos (by rw [iz_nI (by omega)]; exact r15.symm.trans h34)]]; decide)]) hR FrK.rf)
  · have k5 := bI_0.mp h5
    exact thr _ _ _ _ _ 0 _ _ (List.mem_of_getElem? (i := 12) rfl) ⟨Nat.le_of_ble_eq_true rfl, Nat.le_of_ble_eq_true rfl⟩ dX3_strike_8 dX3_strike_11 dX3_strike_12 dX3_strike_14 dX3_strike_17 (PXx.no (k := 1) (by unfold cdStrike; rw [if_pos k5]) (by decide) rfl (by unfold stStrike; rw [if_neg (by rw [show cdStrike s p = 1 by unfold cdStrike; rw [if_pos k5]]; decide)]) hR FrK.rf)
