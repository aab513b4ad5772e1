/-! THE CLASS: buy -/
/-- blocks come to a fount's letter -/
def adG (g : MG) (i a : Nat) (m : Int32) : MG := wr (wr g (40 + 10 * i + 1) a (g (40 + 10 * i + 1) a + m)) (40 + 10 * i + 2) a (g (40 + 10 * i + 2) a + m)
theorem adG_r {g : MG} {i a k : Nat} {m : Int32} (h1 : k ≠ 40 + 10 * i + 1) (h2 : k ≠ 40 + 10 * i + 2) : adG g i a m k = g k := by unfold adG; rw [wr_row _ _ _ _ h2, wr_row _ _ _ _ h1]
theorem adG_1 {g : MG} {i a : Nat} {m : Int32} : adG g i a m (40 + 10 * i + 1) a = g (40 + 10 * i + 1) a + m := by unfold adG; rw [wr_row _ _ _ _ (by omega), wr_same]
theorem adG_2 {g : MG} {i a : Nat} {m : Int32} : adG g i a m (40 + 10 * i + 2) a = g (40 + 10 * i + 2) a + m := by unfold adG; rw [wr_same]
theorem adG_n {g : MG} {i a k j : Nat} {m : Int32} (h : j ≠ a) : adG g i a m k j = g k j := by unfold adG; rw [wr_ne _ _ _ _ (Or.inr h), wr_ne _ _ _ _ (Or.inr h)]
theorem Rl_add {s g : MG} (h : Rl s g) (hI : IvM s) {i a : Nat} (hi : i < nfO s) (ha : a < 10) (m : Int32) : Rl (wr s 6 (10 * i + a) (s 6 (10 * i + a) + m)) (adG g i a m) := by
  obtain ⟨⟨h1, h2, h3, h4, h5, h6, h7⟩, hF, hP⟩ := h
  have hf5 := (IvM_nf hI).1
  have er : ∀ k, k ≠ 6 → wr s 6 (10 * i + a) (s 6 (10 * i + a) + m) k = s k := fun k hk => wr_row _ _ _ _ hk
  have eg : ∀ k, k ≠ 40 + 10 * i + 1 → k ≠ 40 + 10 * i + 2 → adG g i a m k = g k := fun k k1 k2 => adG_r k1 k2
  refine ⟨⟨by rw [er 0 (by decide), eg 31 (by omega) (by omega)]; exact h1, by rw [er 0 (by decide), eg 32 (by omega) (by omega)]; exact h2, by rw [er 0 (by decide), eg 30 (by omega) (by omega)]; exact h3, by rw [er 0 (by decide), eg 30 (by omega) (by omega)]; exact h4, by rw [er 9 (by decide), eg 33 (by omega) (by omega)]; exact h5, by rw [er 10 (by decide), eg 34 (by omega) (by omega)]; exact h6, by rw [er 11 (by decide), eg 35 (by omega) (by omega)]; exact h7⟩, ?_, hP.c (by rw [er 0 (by decide)]) (fun k k1 k2 => er k (by omega)) (fun k k1 k2 => eg k (by omega) (by omega)) (IvM_np hI).1 (fun p hp => (IvM_nl hI hp).2)⟩
  intro b hb
  have hb' : b < nfO s := hb
  obtain ⟨e1, e2, e3⟩ := hF b hb'
  rw [er 5 (by decide), er 7 (by decide), er 8 (by decide), eg (40 + 10 * b) (by omega) (by omega), eg (40 + 10 * b + 3) (by omega) (by omega)]
  refine ⟨e1, e2, fun j hj => ?_⟩
  obtain ⟨e4, e5, e6⟩ := e3 j hj
  refine ⟨?_, ?_, e6⟩
  · by_cases hba : b = i ∧ j = a
    · obtain ⟨rfl, rfl⟩ := hba
      rw [adG_1, wr_same, e4]
    · rw [wr_ne _ _ _ _ (Or.inr (by omega))]
      by_cases hbi : b = i
      · rw [adG_n (by omega)]; exact e4
      · rw [eg _ (by omega) (by omega)]; exact e4
  · by_cases hba : b = i ∧ j = a
    · obtain ⟨rfl, rfl⟩ := hba
      rw [adG_2, wr_same, e5]
      grind
    · rw [wr_ne _ _ _ _ (Or.inr (by omega))]
      by_cases hbi : b = i
      · rw [adG_n (by omega)]; exact e5
      · rw [eg _ (by omega) (by omega)]; exact e5
theorem FrK_ad {g g' : MG} (h : FrK g g') {i a : Nat} {m : Int32} (hi : i < 5) : FrK g (adG g' i a m) := ⟨fun k hk => by rw [adG_r (by omega) (by omega)]; exact h.1 k hk, by rw [adG_r (by omega) (by omega)]; exact h.2⟩
set_option maxRecDepth 100000 in
theorem x_buy (l : Launch) (hl9 : l.stackTraces = false) (Z : Zc) (f k m : Int32) (s g : MG) (hI : IvM s) (hF9 : IvF s) (hR : Rl s g) : XI l yX3_buy cX3_buy 5 (some .int) (rmz 8 240 1 6) Z [.ref (Z.ad 30), .int f, .int k, .int m] g (PX g (cdBuy s f k m) (s 6 (atO f k) + m) (stBuy s f k m)) (PXx g (cdBuy s f k m) (nm3 0 1 2) (stBuy s f k m)) := by
  refine ent_xi (lo := [some (.ref (Z.ad 30)), some (.int f), some (.int k), some (.int m), none]) hl9 (by decide) rfl (by simp [lg_sl, Value.category]) rfl (by decide) (fun P hl C ret thr => ?_)
  have hnf := (IvM_nf hI).2
  have hf5 := (IvM_nf hI).1
  have hnp := (IvM_np hI).2
  have hp6 := (IvM_np hI).1
  have hn1 : g 31 2 = nI (nfO s) := hR.1.1.trans hnf
  have hn2 : g 32 2 = nI (npO s) := hR.1.2.1.trans hnp
  refine v_aload_n C dX3_buy_0 rfl rfl ?_
  refine v_iload_n C dX3_buy_1 rfl rfl ?_
  refine v_callVi (n := 1) (as := [.int f]) C (c_cisFount _ Z (nfO s) f g hn1 hf5) (gv (tg2 38 rfl rfl) (tg2 40 rfl rfl) (tg0 8 rfl rfl) (tg1 1 rfl rfl) (tg2 41 rfl rfl)) (by decide +kernel) ⟨Nat.le_of_ble_eq_true rfl, Nat.le_of_ble_eq_true rfl⟩ rfl cx_T rfl rfl (Nat.le_of_ble_eq_true rfl) dX3_buy_2 ⟨Nat.le_of_ble_eq_true rfl, Nat.le_of_ble_eq_true rfl⟩ (fun r2 g2 hp2 => ?_)
  obtain ⟨rfl, hg2⟩ := hp2
  rw [hg2]
  refine v_if_eq (tgt := 15) C dX3_buy_5 (by decide) (fun h5 => ?_) (fun h5 => ?_)
  · have k5 := bI_0.mp h5
    exact thr _ _ _ _ _ 0 _ _ (List.mem_of_getElem? (i := 2) rfl) ⟨Nat.le_of_ble_eq_true rfl, Nat.le_of_ble_eq_true rfl⟩ dX3_buy_15 dX3_buy_18 dX3_buy_19 dX3_buy_21 dX3_buy_24 (PXx.no (k := 1) (by unfold cdBuy; rw [if_pos (by unfold isFL; simp [k5])]) (by decide) rfl (by unfold stBuy; rw [if_neg (by rw [show cdBuy s f k m = 1 by unfold cdBuy; rw [if_pos (by unfold isFL; simp [k5])]]; decide)]) hR FrK.rf)
  · have k5 := bI_1.mp h5
    obtain ⟨i, hi, ei⟩ : ∃ i, i < nfO s ∧ f = nI i := ⟨iz f, (isN_nI k5).2, (isN_nI k5).1⟩
    subst ei
    have hF := FnP.mk hn1 hi hf5
    refine v_iload_n C dX3_buy_8 rfl rfl ?_
    refine v_callSi (n := 1) (as := [.int k]) C (c_cisLetter _ Z k g) (gs (tg2 42 rfl rfl) (tg2 43 rfl rfl) (tg1 1 rfl rfl) (tg2 44 rfl rfl)) (by decide +kernel) ⟨Nat.le_of_ble_eq_true rfl, Nat.le_of_ble_eq_true rfl⟩ rfl rfl (Nat.le_of_ble_eq_true rfl) dX3_buy_9 ⟨Nat.le_of_ble_eq_true rfl, Nat.le_of_ble_eq_true rfl⟩ (fun r9 g9 hp9 => ?_)
    obtain ⟨rfl, hg9⟩ := hp9
    rw [hg9]
    refine v_if_ne (tgt := 25) C dX3_buy_12 (by decide) (fun h12 => ?_) (fun h12 => ?_)
    · have k12 := bI_1.mp h12
      obtain ⟨a, ha, ea⟩ : ∃ a, a < 10 ∧ k = nI a := ⟨iz k, (isN_nI k12).2, (isN_nI k12).1⟩
      subst ea
      refine v_iload_n C dX3_buy_25 rfl rfl ?_
      refine v_iconst (v := 1) C dX3_buy_26 (by decide) ?_
      refine v_icmp_lt (tgt := 36) C dX3_buy_27 (by decide) (fun h27 => ?_) (fun h27 => ?_)
      · exact thr _ _ _ _ _ 1 _ _ (List.mem_of_getElem? (i := 3) rfl) ⟨Nat.le_of_ble_eq_true rfl, Nat.le_of_ble_eq_true rfl⟩ dX3_buy_36 dX3_buy_39 dX3_buy_40 dX3_buy_42 dX3_buy_45 (PXx.no (k := 2) (by unfold cdBuy; rw [if_neg (show ¬ isFL s (nI i) (nI a) = false by unfold isFL; rw [k5, k12]; decide), if_pos (inB_f.mpr (by have z1 : (1 : Int32).toInt = 1 := rfl; have z9 : (9 : Int32).toInt = 9 := rfl; simp only [i_lt, i_le] at h27; omega))]) (by decide) rfl (by unfold stBuy; rw [if_neg (by rw [show cdBuy s (nI i) (nI a) m = 2 by unfold cdBuy; rw [if_neg (show ¬ isFL s (nI i) (nI a) = false by unfold isFL; rw [k5, k12]; decide), if_pos (inB_f.mpr (by have z1 : (1 : Int32).toInt = 1 := rfl; have z9 : (9 : Int32).toInt = 9 := rfl; simp only [i_lt, i_le] at h27; omega))]]; decide)]) hR FrK.rf)
      · refine v_iload_n C dX3_buy_30 rfl rfl ?_
        refine v_bipush (v := 9) C dX3_buy_31 (by decide) ?_
        refine v_icmp_le (tgt := 46) C dX3_buy_33 (by decide) (fun h33 => ?_) (fun h33 => ?_)
        · refine v_aload_n C dX3_buy_46 rfl rfl ?_
          refine v_get C inG3 rfl 0 (by decide) (tg1 66 rfl rfl) rfl cx_T rfl dX3_buy_47 ?_
          refine v_iload_n C dX3_buy_50 rfl rfl ?_
          refine v_callVq (n := 1) (as := [.int (nI i)]) C (c_lget _ Z 31 36 (nfO s) i g cx_L1 hn1 hi (by omega) (fun j => Z.ad (40 + 10 * j)) (cxE1 hn1)) (gv (tg1 169 rfl rfl) (tg1 170 rfl rfl) (tg1 171 rfl rfl) (tg1 4 rfl rfl) (tg1 172 rfl rfl)) (by decide +kernel) ⟨Nat.le_of_ble_eq_true rfl, Nat.le_of_ble_eq_true rfl⟩ rfl cx_L1 rfl rfl (Nat.le_of_ble_eq_true rfl) dX3_buy_51 ⟨Nat.le_of_ble_eq_true rfl, Nat.le_of_ble_eq_true rfl⟩ (fun r51 g51 hp51 => ?_)
          obtain ⟨rfl, hg51⟩ := hp51
          rw [hg51]
          refine v_st (st' := [.ref (Z.ad (40 + 10 * i))]) rfl ?_
          refine v_cast C rfl (tg1 200 rfl rfl) (cxF hF) dX3_buy_54 ?_
          refine v_astore (lo' := [some (.ref (Z.ad 30)), some (.int (nI i)), some (.int (nI a)), some (.int m), some (.ref (Z.ad (40 + 10 * i)))]) C dX3_buy_57 (Nat.le_of_ble_eq_true rfl) rfl rfl ?_
          have b1 : inB m 1 9 = true := inB_t.mpr (by have z1 : (1 : Int32).toInt = 1 := rfl; have z9 : (9 : Int32).toInt = 9 := rfl; simp only [i_lt, i_le] at h27 h33; omega)
          refine v_aload C dX3_buy_59 rfl ?_
          refine v_get C inG0 rfl 2 (by decide) (tg5 48 rfl rfl) rfl (cxF hF) rfl dX3_buy_61 ?_
          refine v_iload_n C dX3_buy_64 rfl rfl ?_
          refine v_ialdN (a := a) C (cxFa 1 hF (by decide)) ⟨ha, by decide⟩ dX3_buy_65 ?_
          refine v_topi (y := s 6 (10 * i + a)) ((hR.2.1 i hi).2.2 a ha).1 ?_
          refine v_iload_n C dX3_buy_66 rfl rfl ?_
          refine v_iadd C dX3_buy_67 ?_
          refine v_bipush (v := 9) C dX3_buy_68 (by decide) ?_
          refine v_icmp_le (tgt := 83) C dX3_buy_70 (by decide) (fun h70 => ?_) (fun h70 => ?_)
          · have k70 : ¬ 9 < s 6 (10 * i + a) + m := lt_le'.mp h70
            refine v_aload C dX3_buy_83 rfl ?_
            refine v_iload_n C dX3_buy_85 rfl rfl ?_
            refine v_iload_n C dX3_buy_86 rfl rfl ?_
            refine v_callVv (n := 2) (as := [.int (nI a), .int m]) C (c_addBlocks _ Z i a m g hF ha) (gv (tg3 52 rfl rfl) (tg3 53 rfl rfl) (tg3 54 rfl rfl) (tg1 12 rfl rfl) (tg3 55 rfl rfl)) (by decide +kernel) ⟨Nat.le_of_ble_eq_true rfl, Nat.le_of_ble_eq_true rfl⟩ rfl (cxF hF) rfl rfl (Nat.le_of_ble_eq_true rfl) dX3_buy_87 ⟨Nat.le_of_ble_eq_true rfl, Nat.le_of_ble_eq_true rfl⟩ (fun g87 hp87 => ?_)
            have hg87 : g87 = adG g i a m := hp87
            rw [hg87]
            have hF2 : FnP (adG g i a m) i := hF.e (adG_r (by omega) (by omega))
            refine v_aload C dX3_buy_90 rfl ?_
            refine v_get C inG0 rfl 2 (by decide) (tg5 48 rfl rfl) rfl (cxF hF2) rfl dX3_buy_92 ?_
            refine v_iload_n C dX3_buy_95 rfl rfl ?_
            refine v_ialdN (a := a) C (cxFa 1 hF2 (by decide)) ⟨ha, by decide⟩ dX3_buy_96 ?_
            have hcd9 : cdBuy s (nI i) (nI a) m = 0 := by unfold cdBuy; rw [if_neg (show ¬ isFL s (nI i) (nI a) = false by unfold isFL; rw [k5, k12]; decide), if_neg (by rw [b1]; decide), if_neg (by rw [(show atO (nI i) (nI a) = 10 * i + a by unfold atO; rw [iz_nI (by omega), iz_nI (by omega)])]; exact k70)]
            refine v_wide (k := 1) (n := 6) (Nat.le_of_ble_eq_true rfl) (Nat.le_of_ble_eq_true rfl) ?_
            exact ret _ _ _ _ dX3_buy_97 ⟨hcd9, (show (adG g i a m) (40 + 10 * i + 1) a = s 6 (atO (nI i) (nI a)) + m by rw [(show atO (nI i) (nI a) = 10 * i + a by unfold atO; rw [iz_nI (by omega), iz_nI (by omega)]), adG_1, ((hR.2.1 i hi).2.2 a ha).1]), by unfold stBuy; rw [if_pos hcd9, (show atO (nI i) (nI a) = 10 * i + a by unfold atO; rw [iz_nI (by omega), iz_nI (by omega)])]; exact Rl_add hR hI hi ha m, FrK_ad FrK.rf (by omega)⟩
          · have k70 : 9 < s 6 (10 * i + a) + m := lt_le.mp h70
            exact thr _ _ _ _ _ 2 _ _ (List.mem_of_getElem? (i := 4) rfl) ⟨Nat.le_of_ble_eq_true rfl, Nat.le_of_ble_eq_true rfl⟩ dX3_buy_73 dX3_buy_76 dX3_buy_77 dX3_buy_79 dX3_buy_82 (PXx.no (k := 3) (by unfold cdBuy; rw [if_neg (show ¬ isFL s (nI i) (nI a) = false by unfold isFL; rw [k5, k12]; decide), if_neg (by rw [b1]; decide), if_pos (by rw [(show atO (nI i) (nI a) = 10 * i + a by unfold atO; rw [iz_nI (by omega), iz_nI (by omega)])]; exact k70)]) (by decide) rfl (by unfold stBuy; rw [if_neg (by rw [show cdBuy s (nI i) (nI a) m = 3 by unfold cdBuy; rw [if_neg (show ¬ isFL s (nI i) (nI a) = false by unfold isFL; rw [k5, k12]; decide), if_neg (by rw [b1]; decide), if_pos (by rw [(show atO (nI i) (nI a) = 10 * i + a by unfold atO; rw [iz_nI (by omega), iz_nI (by omega)])]; exact k70)]]; decide)]) hR FrK.rf)
        · exact thr _ _ _ _ _ 1 _ _ (List.mem_of_getElem? (i := 3) rfl) ⟨Nat.le_of_ble_eq_true rfl, Nat.le_of_ble_eq_true rfl⟩ dX3_buy_36 dX3_buy_39 dX3_buy_40 dX3_buy_42 dX3_buy_45 (PXx.no (k := 2) (by unfold cdBuy; rw [if_neg (show ¬ isFL s (nI i) (nI a) = false by unfold isFL; rw [k5, k12]; decide), if_pos (inB_f.mpr (by have z1 : (1 : Int32).toInt = 1 := rfl; have z9 : (9 : Int32).toInt = 9 := rfl; simp only [i_lt, i_le] at h27 h33; omega))]) (by decide) rfl (by unfold stBuy; rw [if_neg (by rw [show cdBuy s (nI i) (nI a) m = 2 by unfold cdBuy; rw [if_neg (show ¬ isFL s (nI i) (nI a) = false by unfold isFL; rw [k5, k12]; decide), if_pos (inB_f.mpr (by have z1 : (1 : Int32).toInt = 1 := rfl; have z9 : (9 : Int32).toInt = 9 := rfl; simp only [i_lt, i_le] at h27 h33; omega))]]; decide)]) hR FrK.rf)
    · have k12 := bI_0.mp h12
      exact thr _ _ _ _ _ 0 _ _ (List.mem_of_getElem? (i := 2) rfl) ⟨Nat.le_of_ble_eq_true rfl, Nat.le_of_ble_eq_true rfl⟩ dX3_buy_15 dX3_buy_18 dX3_buy_19 dX3_buy_21 dX3_buy_24 (PXx.no (k := 1) (by unfold cdBuy; rw [if_pos (by unfold isFL; simp [k5, k12])]) (by decide) rfl (by unfold stBuy; rw [if_neg (by rw [show cdBuy s (nI i) k m = 1 by unfold cdBuy; rw [if_pos (by unfold isFL; simp [k5, k12])]]; decide)]) hR FrK.rf)
