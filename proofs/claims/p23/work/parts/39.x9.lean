/-! THE CLASS: buyAll -/
def baS (s : MG) (i c : Nat) (m : Int32) : MG := rwr s 6 (fun j => if 10 * i ≤ j ∧ j < 10 * i + c then s 6 j + moB s m j else s 6 j)
theorem baS_0 (s : MG) (i : Nat) (m : Int32) : baS s i 0 m = s := by
  funext k
  unfold baS rwr
  by_cases h : k = 6
  · rw [if_pos h, h]; funext j; rw [if_neg (by omega)]
  · rw [if_neg h]
theorem baS_r {s : MG} {i c k : Nat} {m : Int32} (h : k ≠ 6) : baS s i c m k = s k := rwr_ne _ _ _ h
theorem baS_s (s : MG) (i c : Nat) (m : Int32) : wr (baS s i c m) 6 (10 * i + c) (baS s i c m 6 (10 * i + c) + moB s m (10 * i + c)) = baS s i (c + 1) m := by
  funext k j
  by_cases hk : k = 6
  · subst hk
    have e : baS s i c m 6 (10 * i + c) = s 6 (10 * i + c) := by unfold baS; rw [rwr_same, if_neg (by omega)]
    rw [e]
    by_cases hj : j = 10 * i + c
    · rw [hj, wr_same]
      unfold baS
      rw [rwr_same, if_pos (by omega)]
    · rw [wr_ne _ _ _ _ (Or.inr hj)]
      unfold baS
      rw [rwr_same, rwr_same]
      by_cases h2 : 10 * i ≤ j ∧ j < 10 * i + c
      · rw [if_pos h2, if_pos (by omega)]
      · rw [if_neg h2, if_neg (by omega)]
  · rw [wr_row _ _ _ _ hk, baS_r hk, baS_r hk]
theorem baS_I {s : MG} (hI : IvM s) (i c : Nat) (m : Int32) : IvM (baS s i c m) := IvM_eq hI (by rw [baS_r (by decide)]) (by rw [baS_r (by decide)]) (fun k k1 k2 => baS_r (by omega))
set_option maxRecDepth 100000 in
theorem x_buyAll (l : Launch) (hl9 : l.stackTraces = false) (Z : Zc) (f m : Int32) (s g : MG) (hI : IvM s) (hF9 : IvF s) (hR : Rl s g) : XI l yX3_buyAll cX3_buyAll 7 (some .int) (rmz 8 240 1 6) Z [.ref (Z.ad 30), .int f, .int m] g (PX g (cdBuyAll s f m) (anBuyAll s f m) (stBuyAll s f m)) (PXx g (cdBuyAll s f m) (nm3 0 1 1) (stBuyAll s f m)) := by
  refine ent_xi (lo := [some (.ref (Z.ad 30)), some (.int f), some (.int m), none, none, none, none]) hl9 (by decide) rfl (by simp [lg_sl, Value.category]) rfl (by decide) (fun P hl C ret thr => ?_)
  have hnf := (IvM_nf hI).2
  have hf5 := (IvM_nf hI).1
  have hnp := (IvM_np hI).2
  have hp6 := (IvM_np hI).1
  have hn1 : g 31 2 = nI (nfO s) := hR.1.1.trans hnf
  have hn2 : g 32 2 = nI (npO s) := hR.1.2.1.trans hnp
  refine v_aload_n C dX3_buyAll_0 rfl rfl ?_
  refine v_iload_n C dX3_buyAll_1 rfl rfl ?_
  refine v_callVi (n := 1) (as := [.int f]) C (c_cisFount _ Z (nfO s) f g hn1 hf5) (gv (tg2 38 rfl rfl) (tg2 40 rfl rfl) (tg0 8 rfl rfl) (tg1 1 rfl rfl) (tg2 41 rfl rfl)) (by decide +kernel) ⟨Nat.le_of_ble_eq_true rfl, Nat.le_of_ble_eq_true rfl⟩ rfl cx_T rfl rfl (Nat.le_of_ble_eq_true rfl) dX3_buyAll_2 ⟨Nat.le_of_ble_eq_true rfl, Nat.le_of_ble_eq_true rfl⟩ (fun r2 g2 hp2 => ?_)
  obtain ⟨rfl, hg2⟩ := hp2
  rw [hg2]
  refine v_if_ne (tgt := 18) C dX3_buyAll_5 (by decide) (fun h5 => ?_) (fun h5 => ?_)
  · have k5 := bI_1.mp h5
    obtain ⟨i, hi, ei⟩ : ∃ i, i < nfO s ∧ f = nI i := ⟨iz f, (isN_nI k5).2, (isN_nI k5).1⟩
    subst ei
    have hF := FnP.mk hn1 hi hf5
    refine v_iload_n C dX3_buyAll_18 rfl rfl ?_
    refine v_iconst (v := 1) C dX3_buyAll_19 (by decide) ?_
    refine v_icmp_lt (tgt := 29) C dX3_buyAll_20 (by decide) (fun h20 => ?_) (fun h20 => ?_)
    · exact thr _ _ _ _ _ 1 _ _ (List.mem_of_getElem? (i := 3) rfl) ⟨Nat.le_of_ble_eq_true rfl, Nat.le_of_ble_eq_true rfl⟩ dX3_buyAll_29 dX3_buyAll_32 dX3_buyAll_33 dX3_buyAll_35 dX3_buyAll_38 (PXx.no (k := 2) (by unfold cdBuyAll; rw [if_neg (by simp [k5]), if_pos (inB_f.mpr (by have z1 : (1 : Int32).toInt = 1 := rfl; have z9 : (9 : Int32).toInt = 9 := rfl; simp only [i_lt, i_le] at h20; omega))]) (by decide) rfl (by unfold stBuyAll; rw [if_neg (by rw [show cdBuyAll s (nI i) m = 2 by unfold cdBuyAll; rw [if_neg (by simp [k5]), if_pos (inB_f.mpr (by have z1 : (1 : Int32).toInt = 1 := rfl; have z9 : (9 : Int32).toInt = 9 := rfl; simp only [i_lt, i_le] at h20; omega))]]; decide)]) hR FrK.rf)
    · refine v_iload_n C dX3_buyAll_23 rfl rfl ?_
      refine v_bipush (v := 9) C dX3_buyAll_24 (by decide) ?_
      refine v_icmp_le (tgt := 39) C dX3_buyAll_26 (by decide) (fun h26 => ?_) (fun h26 => ?_)
      · refine v_aload_n C dX3_buyAll_39 rfl rfl ?_
        refine v_get C inG3 rfl 0 (by decide) (tg1 66 rfl rfl) rfl cx_T rfl dX3_buyAll_40 ?_
        refine v_iload_n C dX3_buyAll_43 rfl rfl ?_
        refine v_callVq (n := 1) (as := [.int (nI i)]) C (c_lget _ Z 31 36 (nfO s) i g cx_L1 hn1 hi (by omega) (fun j => Z.ad (40 + 10 * j)) (cxE1 hn1)) (gv (tg1 169 rfl rfl) (tg1 170 rfl rfl) (tg1 171 rfl rfl) (tg1 4 rfl rfl) (tg1 172 rfl rfl)) (by decide +kernel) ⟨Nat.le_of_ble_eq_true rfl, Nat.le_of_ble_eq_true rfl⟩ rfl cx_L1 rfl rfl (Nat.le_of_ble_eq_true rfl) dX3_buyAll_44 ⟨Nat.le_of_ble_eq_true rfl, Nat.le_of_ble_eq_true rfl⟩ (fun r44 g44 hp44 => ?_)
        obtain ⟨rfl, hg44⟩ := hp44
        rw [hg44]
        refine v_st (st' := [.ref (Z.ad (40 + 10 * i))]) rfl ?_
        refine v_cast C rfl (tg1 200 rfl rfl) (cxF hF) dX3_buyAll_47 ?_
        refine v_astore_n (lo' := [some (.ref (Z.ad 30)), some (.int (nI i)), some (.int m), some (.ref (Z.ad (40 + 10 * i))), none, none, none]) C dX3_buyAll_50 rfl (Nat.le_of_ble_eq_true rfl) rfl rfl ?_
        refine v_iconst (v := 0) C dX3_buyAll_51 (by decide) ?_
        refine v_topi (y := sumI (fun k => moB s m (10 * i + k)) 0) rfl ?_
        refine v_istore (lo' := [some (.ref (Z.ad 30)), some (.int (nI i)), some (.int m), some (.ref (Z.ad (40 + 10 * i))), some (.int (sumI (fun k => moB s m (10 * i + k)) 0)), none, none]) C dX3_buyAll_52 (Nat.le_of_ble_eq_true rfl) rfl rfl ?_
        refine v_iconst (v := 0) C dX3_buyAll_54 (by decide) ?_
        refine v_topi (y := nI 0) rfl ?_
        refine v_istore (lo' := [some (.ref (Z.ad 30)), some (.int (nI i)), some (.int m), some (.ref (Z.ad (40 + 10 * i))), some (.int (sumI (fun k => moB s m (10 * i + k)) 0)), some (.int (nI 0)), none]) C dX3_buyAll_55 (Nat.le_of_ble_eq_true rfl) rfl rfl ?_
        have b1 : inB m 1 9 = true := inB_t.mpr (by have z1 : (1 : Int32).toInt = 1 := rfl; have z9 : (9 : Int32).toInt = 9 := rfl; simp only [i_lt, i_le] at h20 h26; omega)
        have hcd9 : cdBuyAll s (nI i) m = 0 := by unfold cdBuyAll; rw [if_neg (by simp [k5]), if_neg (by rw [b1]; decide)]
        have loop : ∀ (n c : Nat) (g1 : MG) (v : Option Value), 10 - c < n → c ≤ 10 → Rl (baS s i c m) g1 → FrK g g1 → V P (rmz 8 240 1 6) Z [some (.ref (Z.ad 30)), some (.int (nI i)), some (.int m), some (.ref (Z.ad (40 + 10 * i))), some (.int (sumI (fun k => moB s m (10 * i + k)) c)), some (.int (nI c)), v] 57 [] g1 0 0 := by
          intro n
          induction n with
          | zero => intro c g1 v hm; exact absurd hm (Nat.not_lt_zero _)
          | succ n ih =>
            intro c g1 v hm hc hR1 hf1
            have hF1 : FnP g1 i := FnP.mk (hR1.1.1.trans (by rw [baS_r (by decide)]; exact hnf)) hi hf5
            refine v_iload C dX3_buyAll_57 rfl ?_
            refine v_bipush (v := 10) C dX3_buyAll_59 (by decide) ?_
            refine v_icmp_ge (tgt := 101) C dX3_buyAll_61 (by decide) (fun h61 => ?_) (fun h61 => ?_)
            · have hcn : c = 10 := Nat.le_antisymm hc ((nI_leI (a := 10) (by decide) (by omega)).mp h61)
              subst hcn
              refine v_iload C dX3_buyAll_101 rfl ?_
              refine v_wide (k := 1) (n := 6) (Nat.le_of_ble_eq_true rfl) (Nat.le_of_ble_eq_true rfl) ?_
              exact ret _ _ _ _ dX3_buyAll_103 ⟨hcd9, (show sumI (fun k => moB s m (10 * i + k)) 10 = anBuyAll s (nI i) m by unfold anBuyAll; rw [iz_nI (by omega)]), by unfold stBuyAll; rw [if_pos hcd9, iz_nI (by omega)]; exact hR1, hf1⟩
            · have hcn : c < 10 := Nat.lt_of_not_le fun z => h61 ((nI_leI (a := 10) (by decide) (by omega)).mpr z)
              refine v_iload_n C dX3_buyAll_64 rfl rfl ?_
              refine v_bipush (v := 9) C dX3_buyAll_65 (by decide) ?_
              refine v_aload_n C dX3_buyAll_67 rfl rfl ?_
              refine v_get C inG0 rfl 2 (by decide) (tg5 48 rfl rfl) rfl (cxF hF1) rfl dX3_buyAll_68 ?_
              refine v_iload C dX3_buyAll_71 rfl ?_
              refine v_ialdN (a := c) C (cxFa 1 hF1 (by decide)) ⟨hcn, by decide⟩ dX3_buyAll_73 ?_
              refine v_topi (y := s 6 (10 * i + c)) (by rw [((hR1.2.1 i hi).2.2 c hcn).1]; unfold baS; rw [rwr_same, if_neg (by omega)]) ?_
              refine v_isub C dX3_buyAll_74 ?_
              refine v_mmin C (tg2 129 rfl rfl) (tg2 32 rfl rfl) (tg1 14 rfl rfl) (tg2 33 rfl rfl) (Nat.le_of_ble_eq_true rfl) (Nat.le_of_ble_eq_true rfl) (Nat.le_of_ble_eq_true rfl) (Nat.le_of_ble_eq_true rfl) dX3_buyAll_75 ?_
              refine v_topi (y := moB s m (10 * i + c)) rfl ?_
              refine v_istore (lo' := [some (.ref (Z.ad 30)), some (.int (nI i)), some (.int m), some (.ref (Z.ad (40 + 10 * i))), some (.int (sumI (fun k => moB s m (10 * i + k)) c)), some (.int (nI c)), some (.int (moB s m (10 * i + c)))]) C dX3_buyAll_78 (Nat.le_of_ble_eq_true rfl) rfl rfl ?_
              refine v_aload_n C dX3_buyAll_80 rfl rfl ?_
              refine v_iload C dX3_buyAll_81 rfl ?_
              refine v_iload C dX3_buyAll_83 rfl ?_
              refine v_callVv (n := 2) (as := [.int (nI c), .int (moB s m (10 * i + c))]) C (c_addBlocks _ Z i c (moB s m (10 * i + c)) g1 hF1 hcn) (gv (tg3 52 rfl rfl) (tg3 53 rfl rfl) (tg3 54 rfl rfl) (tg1 12 rfl rfl) (tg3 55 rfl rfl)) (by decide +kernel) ⟨Nat.le_of_ble_eq_true rfl, Nat.le_of_ble_eq_true rfl⟩ rfl (cxF hF1) rfl rfl (Nat.le_of_ble_eq_true rfl) dX3_buyAll_85 ⟨Nat.le_of_ble_eq_true rfl, Nat.le_of_ble_eq_true rfl⟩ (fun g85 hp85 => ?_)
              have hg85 : g85 = adG g1 i c (moB s m (10 * i + c)) := hp85
              rw [hg85]
              refine v_iload C dX3_buyAll_88 rfl ?_
              refine v_iload C dX3_buyAll_90 rfl ?_
              refine v_iadd C dX3_buyAll_92 ?_
              refine v_topi (y := sumI (fun k => moB s m (10 * i + k)) (c + 1)) rfl ?_
              refine v_istore (lo' := [some (.ref (Z.ad 30)), some (.int (nI i)), some (.int m), some (.ref (Z.ad (40 + 10 * i))), some (.int (sumI (fun k => moB s m (10 * i + k)) (c + 1))), some (.int (nI c)), some (.int (moB s m (10 * i + c)))]) C dX3_buyAll_93 (Nat.le_of_ble_eq_true rfl) rfl rfl ?_
              refine v_iinc (lo' := [some (.ref (Z.ad 30)), some (.int (nI i)), some (.int m), some (.ref (Z.ad (40 + 10 * i))), some (.int (sumI (fun k => moB s m (10 * i + k)) (c + 1))), some (.int ((nI c) + 1)), some (.int (moB s m (10 * i + c)))]) C dX3_buyAll_95 rfl rfl rfl rfl ?_
              refine v_lo (lo' := [some (.ref (Z.ad 30)), some (.int (nI i)), some (.int m), some (.ref (Z.ad (40 + 10 * i))), some (.int (sumI (fun k => moB s m (10 * i + k)) (c + 1))), some (.int (nI (c + 1))), some (.int (moB s m (10 * i + c)))]) (by rw [← nI_1 c]) ?_
              refine v_goto (tgt := 57) C dX3_buyAll_98 (by decide) ?_
              exact ih (c + 1) _ _ (by omega) (by omega) (by rw [← baS_s]; exact Rl_add hR1 (baS_I hI i c m) hi hcn _) (FrK_ad hf1 (by omega))
        exact loop 11 0 g none (by omega) (by omega) (by rw [baS_0]; exact hR) FrK.rf
      · exact thr _ _ _ _ _ 1 _ _ (List.mem_of_getElem? (i := 3) rfl) ⟨Nat.le_of_ble_eq_true rfl, Nat.le_of_ble_eq_true rfl⟩ dX3_buyAll_29 dX3_buyAll_32 dX3_buyAll_33 dX3_buyAll_35 dX3_buyAll_38 (PXx.no (k := 2) (by unfold cdBuyAll; rw [if_neg (by simp [k5]), if_pos (inB_f.mpr (by have z1 : (1 : Int32).toInt = 1 := rfl; have z9 : (9 : Int32).toInt = 9 := rfl; simp only [i_lt, i_le] at h20 h26; omega))]) (by decide) rfl (by unfold stBuyAll; rw [if_neg (by rw [show cdBuyAll s (nI i) m = 2 by unfold cdBuyAll; rw [if_neg (by simp [k5]), if_pos (inB_f.mpr (by have z1 : (1 : Int32).toInt = 1 := rfl; have z9 : (9 : Int32).toInt = 9 := rfl; simp only [i_lt, i_le] at h20 h26; omega))]]; decide)]) hR FrK.rf)
  · have k5 := bI_0.mp h5
    exact thr _ _ _ _ _ 0 _ _ (List.mem_of_getElem? (i := 5) rfl) ⟨Nat.le_of_ble_eq_true rfl, Nat.le_of_ble_eq_true rfl⟩ dX3_buyAll_8 dX3_buyAll_11 dX3_buyAll_12 dX3_buyAll_14 dX3_buyAll_17 (PXx.no (k := 1) (by unfold cdBuyAll; rw [if_pos k5]) (by decide) rfl (by unfold stBuyAll; rw [if_neg (by rw [show cdBuyAll s f m = 1 by unfold cdBuyAll; rw [if_pos k5]]; decide)]) hR FrK.rf)
