/-! THE CLASS: setTown, block, told -/
/-- founts of lines that are laid are there -/
def IvF (s : MG) : Prop := ∀ p k, p < npO s → s 15 p = 1 → k < nlO s p → ∃ f, f < nfO s ∧ s 18 (4 * p + k) = nI f
theorem IvM_01 {s : MG} (h : IvM s) {p : Nat} (hp : p < 6) : s 15 p = 0 ∨ s 15 p = 1 := h.2.2.2.2.2.1 p hp
theorem RlP_fo {s g : MG} (hI : IvM s) (hF9 : IvF s) (hR : Rl s g) {p : Nat} (hp : p < npO s) (h1 : s 15 p = 1) : ∀ q, q < nlO s p → ∃ i, FnP g i ∧ g (200 + 10 * (4 * p + q)) 3 = nI i := by
  intro q hq
  obtain ⟨f, hf, hfe⟩ := hF9 p q hp h1 hq
  exact ⟨f, FnP.mk (hR.1.1.trans (IvM_nf hI).2) hf (IvM_nf hI).1, (((hR.2.2 p hp).2.2.2.2.2 q hq).2 h1).1.trans hfe⟩
theorem Rl_lts {s g : MG} (hR : Rl s g) {p : Nat} (hp : p < npO s) : sumI (fun q => g (200 + 10 * (4 * p + q)) 1) (nlO s p) = ltsO s p := sumI_cong _ (fun q hq => ((hR.2.2 p hp).2.2.2.2.2 q hq).1.1)
theorem Rl_fls {s g : MG} (hR : Rl s g) {p : Nat} (hp : p < npO s) (h1 : s 15 p = 1) : sumI (fun q => g (200 + 10 * (4 * p + q)) 4) (nlO s p) = flO s p (nlO s p) := by
  unfold flO
  rw [if_pos h1]
  exact sumI_cong _ (fun q hq => (((hR.2.2 p hp).2.2.2.2.2 q hq).2 h1).2.1)
theorem Rl_paL {s g : MG} (hI : IvM s) (hF9 : IvF s) (hR : Rl s g) {p : Nat} (hp : p < npO s) (h1 : s 15 p = 1) : paL g p (nlO s p) (iz (s 12 p)) = prO s (wdO s) p (nlO s p) (iz (s 12 p)) := by
  have h6 := (IvM_np hI).1
  have ht := (IvM_t hI (show p < 6 by omega)).2
  unfold paL prO
  rw [if_neg (by rw [h1]; decide), Rl_fls hR hp h1, hR.1.2.2.2.2.2.1 _ ht, hR.1.2.2.2.2.2.2 _ ht]
  have e : sumI (fun q => g (40 + 10 * iz (g (200 + 10 * (4 * p + q)) 3)) 1 * g (200 + 10 * (4 * p + q)) 1) (nlO s p) = sumI (fun k => s 5 (iz (s 18 (4 * p + k))) * nI (szw (wdO s (4 * p + k)))) (nlO s p) := sumI_cong _ (fun q hq => by
    obtain ⟨f, hf, hfe⟩ := hF9 p q hp h1 hq
    have hl := (hR.2.2 p hp).2.2.2.2.2 q hq
    show g (40 + 10 * iz (g (200 + 10 * (4 * p + q)) 3)) 1 * g (200 + 10 * (4 * p + q)) 1 = s 5 (iz (s 18 (4 * p + q))) * nI (szw (wdO s (4 * p + q)))
    have h5 := (IvM_nf hI).1
    rw [(hl.2 h1).1, hl.1.1, hfe, iz_nI (by omega), (hR.2.1 f hf).2.1])
  rw [e]
set_option maxRecDepth 100000 in
theorem x_setTown (l : Launch) (hl9 : l.stackTraces = false) (Z : Zc) (t py sc : Int32) (s g : MG) (hI : IvM s) (hF9 : IvF s) (hR : Rl s g) : XI l yX3_setTown cX3_setTown 5 (some .int) (rmz 8 240 1 6) Z [.ref (Z.ad 30), .int t, .int py, .int sc] g (PX g (cdSetTown t py sc) (100 * s 10 (iz t) + s 11 (iz t)) (stSetTown s t py sc)) (PXx g (cdSetTown t py sc) (nm3 0 1 2) (stSetTown s t py sc)) := by
  refine ent_xi (lo := [some (.ref (Z.ad 30)), some (.int t), some (.int py), some (.int sc), none]) hl9 (by decide) rfl (by simp [lg_sl, Value.category]) rfl (by decide) (fun P hl C ret thr => ?_)
  have hnf := (IvM_nf hI).2
  have hf5 := (IvM_nf hI).1
  have hnp := (IvM_np hI).2
  have hp6 := (IvM_np hI).1
  have hn1 : g 31 2 = nI (nfO s) := hR.1.1.trans hnf
  have hn2 : g 32 2 = nI (npO s) := hR.1.2.1.trans hnp
  refine v_iload_n C dX3_setTown_0 rfl rfl ?_
  refine v_callSi (n := 1) (as := [.int t]) C (c_cisTown _ Z t g) (gs (tg3 66 rfl rfl) (tg3 67 rfl rfl) (tg1 1 rfl rfl) (tg3 68 rfl rfl)) (by decide +kernel) ⟨Nat.le_of_ble_eq_true rfl, Nat.le_of_ble_eq_true rfl⟩ rfl rfl (Nat.le_of_ble_eq_true rfl) dX3_setTown_1 ⟨Nat.le_of_ble_eq_true rfl, Nat.le_of_ble_eq_true rfl⟩ (fun r1 g1 hp1 => ?_)
  obtain ⟨rfl, hg1⟩ := hp1
  rw [hg1]
  refine v_if_ne (tgt := 17) C dX3_setTown_4 (by decide) (fun h4 => ?_) (fun h4 => ?_)
  · have k4 := bI_1.mp h4
    obtain ⟨a, ha, ea⟩ : ∃ a, a < 4 ∧ t = nI a := ⟨iz t, (isN_nI k4).2, (isN_nI k4).1⟩
    subst ea
    refine v_iload_n C dX3_setTown_17 rfl rfl ?_
    refine v_if_lt (tgt := 37) C dX3_setTown_18 (by decide) (fun h18 => ?_) (fun h18 => ?_)
    · exact thr _ _ _ _ _ 1 _ _ (List.mem_of_getElem? (i := 9) rfl) ⟨Nat.le_of_ble_eq_true rfl, Nat.le_of_ble_eq_true rfl⟩ dX3_setTown_37 dX3_setTown_40 dX3_setTown_41 dX3_setTown_43 dX3_setTown_46 (PXx.no (k := 2) (by unfold cdSetTown; rw [if_neg (by simp [k4]), if_pos (Or.inl (inB_f.mpr (by have z0 : (0 : Int32).toInt = 0 := rfl; have z9 : (9 : Int32).toInt = 9 := rfl; have z30 : (30 : Int32).toInt = 30 := rfl; simp only [i_lt, i_le] at h18; omega)))]) (by decide) rfl (by unfold stSetTown; rw [if_neg (by rw [show cdSetTown (nI a) py sc = 2 by unfold cdSetTown; rw [if_neg (by simp [k4]), if_pos (Or.inl (inB_f.mpr (by have z0 : (0 : Int32).toInt = 0 := rfl; have z9 : (9 : Int32).toInt = 9 := rfl; have z30 : (30 : Int32).toInt = 30 := rfl; simp only [i_lt, i_le] at h18; omega)))]]; decide)]) hR FrK.rf)
    · refine v_iload_n C dX3_setTown_21 rfl rfl ?_
      refine v_bipush (v := 9) C dX3_setTown_22 (by decide) ?_
      refine v_icmp_gt (tgt := 37) C dX3_setTown_24 (by decide) (fun h24 => ?_) (fun h24 => ?_)
      · exact thr _ _ _ _ _ 1 _ _ (List.mem_of_getElem? (i := 9) rfl) ⟨Nat.le_of_ble_eq_true rfl, Nat.le_of_ble_eq_true rfl⟩ dX3_setTown_37 dX3_setTown_40 dX3_setTown_41 dX3_setTown_43 dX3_setTown_46 (PXx.no (k := 2) (by unfold cdSetTown; rw [if_neg (by simp [k4]), if_pos (Or.inl (inB_f.mpr (by have z0 : (0 : Int32).toInt = 0 := rfl; have z9 : (9 : Int32).toInt = 9 := rfl; have z30 : (30 : Int32).toInt = 30 := rfl; simp only [i_lt, i_le] at h18 h24; omega)))]) (by decide) rfl (by unfold stSetTown; rw [if_neg (by rw [show cdSetTown (nI a) py sc = 2 by unfold cdSetTown; rw [if_neg (by simp [k4]), if_pos (Or.inl (inB_f.mpr (by have z0 : (0 : Int32).toInt = 0 := rfl; have z9 : (9 : Int32).toInt = 9 := rfl; have z30 : (30 : Int32).toInt = 30 := rfl; simp only [i_lt, i_le] at h18 h24; omega)))]]; decide)]) hR FrK.rf)
      · refine v_iload_n C dX3_setTown_27 rfl rfl ?_
        refine v_if_lt (tgt := 37) C dX3_setTown_28 (by decide) (fun h28 => ?_) (fun h28 => ?_)
        · exact thr _ _ _ _ _ 1 _ _ (List.mem_of_getElem? (i := 9) rfl) ⟨Nat.le_of_ble_eq_true rfl, Nat.le_of_ble_eq_true rfl⟩ dX3_setTown_37 dX3_setTown_40 dX3_setTown_41 dX3_setTown_43 dX3_setTown_46 (PXx.no (k := 2) (by unfold cdSetTown; rw [if_neg (by simp [k4]), if_pos (Or.inr (inB_f.mpr (by have z0 : (0 : Int32).toInt = 0 := rfl; have z9 : (9 : Int32).toInt = 9 := rfl; have z30 : (30 : Int32).toInt = 30 := rfl; simp only [i_lt, i_le] at h28; omega)))]) (by decide) rfl (by unfold stSetTown; rw [if_neg (by rw [show cdSetTown (nI a) py sc = 2 by unfold cdSetTown; rw [if_neg (by simp [k4]), if_pos (Or.inr (inB_f.mpr (by have z0 : (0 : Int32).toInt = 0 := rfl; have z9 : (9 : Int32).toInt = 9 := rfl; have z30 : (30 : Int32).toInt = 30 := rfl; simp only [i_lt, i_le] at h28; omega)))]]; decide)]) hR FrK.rf)
        · refine v_iload_n C dX3_setTown_31 rfl rfl ?_
          refine v_bipush (v := 30) C dX3_setTown_32 (by decide) ?_
          refine v_icmp_le (tgt := 47) C dX3_setTown_34 (by decide) (fun h34 => ?_) (fun h34 => ?_)
          · refine v_bipush (v := 100) C dX3_setTown_47 (by decide) ?_
            refine v_aload_n C dX3_setTown_49 rfl rfl ?_
            refine v_get C inG3 rfl 3 (by decide) (tg1 69 rfl rfl) rfl cx_T rfl dX3_setTown_50 ?_
            refine v_iload_n C dX3_setTown_53 rfl rfl ?_
            refine v_ialdN (a := a) C cx_Pa ⟨ha, by decide⟩ dX3_setTown_54 ?_
            refine v_imul C dX3_setTown_55 ?_
            refine v_aload_n C dX3_setTown_56 rfl rfl ?_
            refine v_get C inG3 rfl 4 (by decide) (tg1 70 rfl rfl) rfl cx_T rfl dX3_setTown_57 ?_
            refine v_iload_n C dX3_setTown_60 rfl rfl ?_
            refine v_ialdN (a := a) C cx_Sr ⟨ha, by decide⟩ dX3_setTown_61 ?_
            refine v_iadd C dX3_setTown_62 ?_
            refine v_istore (lo' := [some (.ref (Z.ad 30)), some (.int (nI a)), some (.int py), some (.int sc), some (.int ((100 * (g 34 a)) + (g 35 a)))]) C dX3_setTown_63 (Nat.le_of_ble_eq_true rfl) rfl rfl ?_
            refine v_aload_n C dX3_setTown_65 rfl rfl ?_
            refine v_get C inG3 rfl 3 (by decide) (tg1 69 rfl rfl) rfl cx_T rfl dX3_setTown_66 ?_
            refine v_iload_n C dX3_setTown_69 rfl rfl ?_
            refine v_iload_n C dX3_setTown_70 rfl rfl ?_
            refine v_iastN (a := a) C (fun _ _ => cx_Pa) rfl (by omega) ⟨ha, by decide⟩ dX3_setTown_71 ?_
            refine v_aload_n C dX3_setTown_72 rfl rfl ?_
            refine v_get C inG3 rfl 4 (by decide) (tg1 70 rfl rfl) rfl cx_T rfl dX3_setTown_73 ?_
            refine v_iload_n C dX3_setTown_76 rfl rfl ?_
            refine v_iload_n C dX3_setTown_77 rfl rfl ?_
            refine v_iastN (a := a) C (fun _ _ => cx_Sr) rfl (by omega) ⟨ha, by decide⟩ dX3_setTown_78 ?_
            refine v_iload C dX3_setTown_79 rfl ?_
            have b1 : inB py 0 9 = true := inB_t.mpr (by have z0 : (0 : Int32).toInt = 0 := rfl; have z9 : (9 : Int32).toInt = 9 := rfl; have z30 : (30 : Int32).toInt = 30 := rfl; simp only [i_lt, i_le] at h18 h24; omega)
            have b2 : inB sc 0 30 = true := inB_t.mpr (by have z0 : (0 : Int32).toInt = 0 := rfl; have z9 : (9 : Int32).toInt = 9 := rfl; have z30 : (30 : Int32).toInt = 30 := rfl; simp only [i_lt, i_le] at h28 h34; omega)
            have hcd9 : cdSetTown (nI a) py sc = 0 := by unfold cdSetTown; rw [if_neg (by simp [k4]), if_neg (by simp [b1, b2])]
            refine v_wide (k := 1) (n := 6) (Nat.le_of_ble_eq_true rfl) (Nat.le_of_ble_eq_true rfl) ?_
            exact ret _ _ _ _ dX3_setTown_81 ⟨hcd9, (show 100 * g 34 a + g 35 a = 100 * s 10 (iz (nI a)) + s 11 (iz (nI a)) by rw [iz_nI (by omega), hR.1.2.2.2.2.2.1 a ha, hR.1.2.2.2.2.2.2 a ha]), by unfold stSetTown; rw [if_pos hcd9, iz_nI (by omega)]; exact Rl_town hR hI a py sc, (FrK.rf.w (by decide)).w (by decide)⟩
          · exact thr _ _ _ _ _ 1 _ _ (List.mem_of_getElem? (i := 9) rfl) ⟨Nat.le_of_ble_eq_true rfl, Nat.le_of_ble_eq_true rfl⟩ dX3_setTown_37 dX3_setTown_40 dX3_setTown_41 dX3_setTown_43 dX3_setTown_46 (PXx.no (k := 2) (by unfold cdSetTown; rw [if_neg (by simp [k4]), if_pos (Or.inr (inB_f.mpr (by have z0 : (0 : Int32).toInt = 0 := rfl; have z9 : (9 : Int32).toInt = 9 := rfl; have z30 : (30 : Int32).toInt = 30 := rfl; simp only [i_lt, i_le] at h28 h34; omega)))]) (by decide) rfl (by unfold stSetTown; rw [if_neg (by rw [show cdSetTown (nI a) py sc = 2 by unfold cdSetTown; rw [if_neg (by simp [k4]), if_pos (Or.inr (inB_f.mpr (by have z0 : (0 : Int32).toInt = 0 := rfl; have z9 : (9 : Int32).toInt = 9 := rfl; have z30 : (30 : Int32).toInt = 30 := rfl; simp only [i_lt, i_le] at h28 h34; omega)))]]; decide)]) hR FrK.rf)
  · have k4 := bI_0.mp h4
    exact thr _ _ _ _ _ 0 _ _ (List.mem_of_getElem? (i := 8) rfl) ⟨Nat.le_of_ble_eq_true rfl, Nat.le_of_ble_eq_true rfl⟩ dX3_setTown_7 dX3_setTown_10 dX3_setTown_11 dX3_setTown_13 dX3_setTown_16 (PXx.no (k := 1) (by unfold cdSetTown; rw [if_pos k4]) (by decide) rfl (by unfold stSetTown; rw [if_neg (by rw [show cdSetTown t py sc = 1 by unfold cdSetTown; rw [if_pos k4]]; decide)]) hR FrK.rf)
set_option maxRecDepth 100000 in
theorem x_block (l : Launch) (hl9 : l.stackTraces = false) (Z : Zc) (f k v : Int32) (s g : MG) (hI : IvM s) (hF9 : IvF s) (hR : Rl s g) : XI l yX3_block cX3_block 5 (some .int) (rmz 8 240 1 6) Z [.ref (Z.ad 30), .int f, .int k, .int v] g (PX g (cdBlock s f k v) (blkO s (atO f k) v) (s)) (PXx g (cdBlock s f k v) (nm3 0 0 0) (s)) := by
  refine ent_xi (lo := [some (.ref (Z.ad 30)), some (.int f), some (.int k), some (.int v), none]) hl9 (by decide) rfl (by simp [lg_sl, Value.category]) rfl (by decide) (fun P hl C ret thr => ?_)
  have hnf := (IvM_nf hI).2
  have hf5 := (IvM_nf hI).1
  have hnp := (IvM_np hI).2
  have hp6 := (IvM_np hI).1
  have hn1 : g 31 2 = nI (nfO s) := hR.1.1.trans hnf
  have hn2 : g 32 2 = nI (npO s) := hR.1.2.1.trans hnp
  refine v_aload_n C dX3_block_0 rfl rfl ?_
  refine v_iload_n C dX3_block_1 rfl rfl ?_
  refine v_callVi (n := 1) (as := [.int f]) C (c_cisFount _ Z (nfO s) f g hn1 hf5) (gv (tg2 38 rfl rfl) (tg2 40 rfl rfl) (tg0 8 rfl rfl) (tg1 1 rfl rfl) (tg2 41 rfl rfl)) (by decide +kernel) ⟨Nat.le_of_ble_eq_true rfl, Nat.le_of_ble_eq_true rfl⟩ rfl cx_T rfl rfl (Nat.le_of_ble_eq_true rfl) dX3_block_2 ⟨Nat.le_of_ble_eq_true rfl, Nat.le_of_ble_eq_true rfl⟩ (fun r2 g2 hp2 => ?_)
  obtain ⟨rfl, hg2⟩ := hp2
  rw [hg2]
  refine v_if_eq (tgt := 15) C dX3_block_5 (by decide) (fun h5 => ?_) (fun h5 => ?_)
  · have k5 := bI_0.mp h5
    exact thr _ _ _ _ _ 0 _ _ (List.mem_of_getElem? (i := 2) rfl) ⟨Nat.le_of_ble_eq_true rfl, Nat.le_of_ble_eq_true rfl⟩ dX3_block_15 dX3_block_18 dX3_block_19 dX3_block_21 dX3_block_24 (PXx.no (k := 1) (by unfold cdBlock; rw [if_pos (Or.inl (by unfold isFL; simp [k5]))]) (by decide) rfl rfl hR FrK.rf)
  · have k5 := bI_1.mp h5
    obtain ⟨i, hi, ei⟩ : ∃ i, i < nfO s ∧ f = nI i := ⟨iz f, (isN_nI k5).2, (isN_nI k5).1⟩
    subst ei
    have hF := FnP.mk hn1 hi hf5
    refine v_iload_n C dX3_block_8 rfl rfl ?_
    refine v_callSi (n := 1) (as := [.int k]) C (c_cisLetter _ Z k g) (gs (tg2 42 rfl rfl) (tg2 43 rfl rfl) (tg1 1 rfl rfl) (tg2 44 rfl rfl)) (by decide +kernel) ⟨Nat.le_of_ble_eq_true rfl, Nat.le_of_ble_eq_true rfl⟩ rfl rfl (Nat.le_of_ble_eq_true rfl) dX3_block_9 ⟨Nat.le_of_ble_eq_true rfl, Nat.le_of_ble_eq_true rfl⟩ (fun r9 g9 hp9 => ?_)
    obtain ⟨rfl, hg9⟩ := hp9
    rw [hg9]
    refine v_if_ne (tgt := 25) C dX3_block_12 (by decide) (fun h12 => ?_) (fun h12 => ?_)
    · have k12 := bI_1.mp h12
      obtain ⟨a, ha, ea⟩ : ∃ a, a < 10 ∧ k = nI a := ⟨iz k, (isN_nI k12).2, (isN_nI k12).1⟩
      subst ea
      refine v_aload_n C dX3_block_25 rfl rfl ?_
      refine v_get C inG3 rfl 0 (by decide) (tg1 66 rfl rfl) rfl cx_T rfl dX3_block_26 ?_
      refine v_iload_n C dX3_block_29 rfl rfl ?_
      refine v_callVq (n := 1) (as := [.int (nI i)]) C (c_lget _ Z 31 36 (nfO s) i g cx_L1 hn1 hi (by omega) (fun j => Z.ad (40 + 10 * j)) (cxE1 hn1)) (gv (tg1 169 rfl rfl) (tg1 170 rfl rfl) (tg1 171 rfl rfl) (tg1 4 rfl rfl) (tg1 172 rfl rfl)) (by decide +kernel) ⟨Nat.le_of_ble_eq_true rfl, Nat.le_of_ble_eq_true rfl⟩ rfl cx_L1 rfl rfl (Nat.le_of_ble_eq_true rfl) dX3_block_30 ⟨Nat.le_of_ble_eq_true rfl, Nat.le_of_ble_eq_true rfl⟩ (fun r30 g30 hp30 => ?_)
      obtain ⟨rfl, hg30⟩ := hp30
      rw [hg30]
      refine v_st (st' := [.ref (Z.ad (40 + 10 * i))]) rfl ?_
      refine v_cast C rfl (tg1 200 rfl rfl) (cxF hF) dX3_block_33 ?_
      refine v_astore (lo' := [some (.ref (Z.ad 30)), some (.int (nI i)), some (.int (nI a)), some (.int v), some (.ref (Z.ad (40 + 10 * i)))]) C dX3_block_36 (Nat.le_of_ble_eq_true rfl) rfl rfl ?_
      refine v_iload_n C dX3_block_38 rfl rfl ?_
      obtain ⟨b, hb, hvb⟩ | hnb : (∃ b, b < 3 ∧ v = nI b) ∨ inB v 0 2 = false := by cases hc : inB v 0 2; (· exact Or.inr rfl); (· exact Or.inl (inB_ex (n := 2) (by decide) hc))
      · subst hvb
        obtain rfl | rfl | rfl := (show b = 0 ∨ b = 1 ∨ b = 2 by omega)
        · refine v_tabIn (off := 25) (tgt := 64) C dX3_block_39 (by decide) (by decide) rfl (by decide) ?_
          refine v_aload C dX3_block_64 rfl ?_
          refine v_get C inG0 rfl 2 (by decide) (tg5 48 rfl rfl) rfl (cxF hF) rfl dX3_block_66 ?_
          refine v_iload_n C dX3_block_69 rfl rfl ?_
          refine v_ialdN (a := a) C (cxFa 1 hF (by decide)) ⟨ha, by decide⟩ dX3_block_70 ?_
          refine v_wide (k := 1) (n := 6) (Nat.le_of_ble_eq_true rfl) (Nat.le_of_ble_eq_true rfl) ?_
          exact ret _ _ _ _ dX3_block_71 ⟨by unfold cdBlock; rw [if_neg (by unfold isFL; simp [k5, k12, show inB (nI 0) 0 2 = true by decide])], (show g (40 + 10 * i + 1) a = blkO s (atO (nI i) (nI a)) (nI 0) by unfold blkO atO; rw [iz_nI (by omega), iz_nI (by omega), if_pos (by decide)]; exact ((hR.2.1 i hi).2.2 a ha).1), hR, FrK.rf⟩
        · refine v_tabIn (off := 33) (tgt := 72) C dX3_block_39 (by decide) (by decide) rfl (by decide) ?_
          refine v_aload C dX3_block_72 rfl ?_
          refine v_get C inG0 rfl 3 (by decide) (tg5 51 rfl rfl) rfl (cxF hF) rfl dX3_block_74 ?_
          refine v_iload_n C dX3_block_77 rfl rfl ?_
          refine v_ialdN (a := a) C (cxFa 2 hF (by decide)) ⟨ha, by decide⟩ dX3_block_78 ?_
          refine v_wide (k := 1) (n := 6) (Nat.le_of_ble_eq_true rfl) (Nat.le_of_ble_eq_true rfl) ?_
          exact ret _ _ _ _ dX3_block_79 ⟨by unfold cdBlock; rw [if_neg (by unfold isFL; simp [k5, k12, show inB (nI 1) 0 2 = true by decide])], (show g (40 + 10 * i + 2) a = blkO s (atO (nI i) (nI a)) (nI 1) by unfold blkO atO; rw [iz_nI (by omega), iz_nI (by omega), if_neg (by decide), if_pos (by decide)]; exact ((hR.2.1 i hi).2.2 a ha).2.1), hR, FrK.rf⟩
        · refine v_tabIn (off := 41) (tgt := 80) C dX3_block_39 (by decide) (by decide) rfl (by decide) ?_
          refine v_aload C dX3_block_80 rfl ?_
          refine v_get C inG0 rfl 4 (by decide) (tg5 54 rfl rfl) rfl (cxF hF) rfl dX3_block_82 ?_
          refine v_iload_n C dX3_block_85 rfl rfl ?_
          refine v_ialdN (a := a) C (cxFa 3 hF (by decide)) ⟨ha, by decide⟩ dX3_block_86 ?_
          refine v_wide (k := 1) (n := 6) (Nat.le_of_ble_eq_true rfl) (Nat.le_of_ble_eq_true rfl) ?_
          exact ret _ _ _ _ dX3_block_87 ⟨by unfold cdBlock; rw [if_neg (by unfold isFL; simp [k5, k12, show inB (nI 2) 0 2 = true by decide])], (show g (40 + 10 * i + 3) a = blkO s (atO (nI i) (nI a)) (nI 2) by unfold blkO atO; rw [iz_nI (by omega), iz_nI (by omega), if_neg (by decide), if_neg (by decide)]; exact ((hR.2.1 i hi).2.2 a ha).2.2), hR, FrK.rf⟩
      · refine v_tabOut (tgt := 88) C dX3_block_39 ?_ (by decide) ?_
        · have z0 : (0 : Int32).toInt = 0 := rfl
          have zn : (2 : Int32).toInt = 2 := rfl
          have := inB_f.mp hnb
          omega
        exact thr _ _ _ _ _ 0 _ _ (List.mem_of_getElem? (i := 18) rfl) ⟨Nat.le_of_ble_eq_true rfl, Nat.le_of_ble_eq_true rfl⟩ dX3_block_88 dX3_block_91 dX3_block_92 dX3_block_94 dX3_block_97 (PXx.no (k := 1) (by unfold cdBlock; rw [if_pos (Or.inr hnb)]) (by decide) rfl rfl hR FrK.rf)
    · have k12 := bI_0.mp h12
      exact thr _ _ _ _ _ 0 _ _ (List.mem_of_getElem? (i := 2) rfl) ⟨Nat.le_of_ble_eq_true rfl, Nat.le_of_ble_eq_true rfl⟩ dX3_block_15 dX3_block_18 dX3_block_19 dX3_block_21 dX3_block_24 (PXx.no (k := 1) (by unfold cdBlock; rw [if_pos (Or.inl (by unfold isFL; simp [k5, k12]))]) (by decide) rfl rfl hR FrK.rf)
set_option maxRecDepth 100000 in
theorem m_block (l : Launch) (Z : Zc) (f k v : Int32) (s g : MG) (hI : IvM s) (hF9 : IvF s) (hR : Rl s g) (hcd : cdBlock s f k v = 0) : MI l yX3_block cX3_block 5 (some .int) (rmz 8 240 0 0) Z [.ref (Z.ad 30), .int f, .int k, .int v] g (fun r g' => r = blkO s (atO f k) v ∧ g' = g) := by
  refine ent_i (own := RX3) (lo := [some (.ref (Z.ad 30)), some (.int f), some (.int k), some (.int v), none]) (by decide) rfl (by simp [lg_sl, Value.category]) rfl (fun P hl C ret => ?_)
  have hnf := (IvM_nf hI).2
  have hf5 := (IvM_nf hI).1
  have hnp := (IvM_np hI).2
  have hp6 := (IvM_np hI).1
  have hn1 : g 31 2 = nI (nfO s) := hR.1.1.trans hnf
  have hn2 : g 32 2 = nI (npO s) := hR.1.2.1.trans hnp
  refine v_aload_n C dX3_block_0 rfl rfl ?_
  refine v_iload_n C dX3_block_1 rfl rfl ?_
  refine v_callVi (n := 1) (as := [.int f]) C (c_cisFount _ Z (nfO s) f g hn1 hf5) (gv (tg2 38 rfl rfl) (tg2 40 rfl rfl) (tg0 8 rfl rfl) (tg1 1 rfl rfl) (tg2 41 rfl rfl)) (by decide +kernel) ⟨Nat.le_of_ble_eq_true rfl, Nat.le_of_ble_eq_true rfl⟩ rfl cx_T rfl rfl (Nat.le_of_ble_eq_true rfl) dX3_block_2 ⟨Nat.le_of_ble_eq_true rfl, Nat.le_of_ble_eq_true rfl⟩ (fun r2 g2 hp2 => ?_)
  obtain ⟨rfl, hg2⟩ := hp2
  rw [hg2]
  refine v_if_eq (tgt := 15) C dX3_block_5 (by decide) (fun h5 => ?_) (fun h5 => ?_)
  · have k5 := bI_0.mp h5
    exact absurd (hcd.symm.trans (show _ = 1 by unfold cdBlock; rw [if_pos (Or.inl (by unfold isFL; simp [k5]))])) (by decide)
  · have k5 := bI_1.mp h5
    obtain ⟨i, hi, ei⟩ : ∃ i, i < nfO s ∧ f = nI i := ⟨iz f, (isN_nI k5).2, (isN_nI k5).1⟩
    subst ei
    have hF := FnP.mk hn1 hi hf5
    refine v_iload_n C dX3_block_8 rfl rfl ?_
    refine v_callSi (n := 1) (as := [.int k]) C (c_cisLetter _ Z k g) (gs (tg2 42 rfl rfl) (tg2 43 rfl rfl) (tg1 1 rfl rfl) (tg2 44 rfl rfl)) (by decide +kernel) ⟨Nat.le_of_ble_eq_true rfl, Nat.le_of_ble_eq_true rfl⟩ rfl rfl (Nat.le_of_ble_eq_true rfl) dX3_block_9 ⟨Nat.le_of_ble_eq_true rfl, Nat.le_of_ble_eq_true rfl⟩ (fun r9 g9 hp9 => ?_)
    obtain ⟨rfl, hg9⟩ := hp9
    rw [hg9]
    refine v_if_ne (tgt := 25) C dX3_block_12 (by decide) (fun h12 => ?_) (fun h12 => ?_)
    · have k12 := bI_1.mp h12
      obtain ⟨a, ha, ea⟩ : ∃ a, a < 10 ∧ k = nI a := ⟨iz k, (isN_nI k12).2, (isN_nI k12).1⟩
      subst ea
      refine v_aload_n C dX3_block_25 rfl rfl ?_
      refine v_get C inG3 rfl 0 (by decide) (tg1 66 rfl rfl) rfl cx_T rfl dX3_block_26 ?_
      refine v_iload_n C dX3_block_29 rfl rfl ?_
      refine v_callVq (n := 1) (as := [.int (nI i)]) C (c_lget _ Z 31 36 (nfO s) i g cx_L1 hn1 hi (by omega) (fun j => Z.ad (40 + 10 * j)) (cxE1 hn1)) (gv (tg1 169 rfl rfl) (tg1 170 rfl rfl) (tg1 171 rfl rfl) (tg1 4 rfl rfl) (tg1 172 rfl rfl)) (by decide +kernel) ⟨Nat.le_of_ble_eq_true rfl, Nat.le_of_ble_eq_true rfl⟩ rfl cx_L1 rfl rfl (Nat.le_of_ble_eq_true rfl) dX3_block_30 ⟨Nat.le_of_ble_eq_true rfl, Nat.le_of_ble_eq_true rfl⟩ (fun r30 g30 hp30 => ?_)
      obtain ⟨rfl, hg30⟩ := hp30
      rw [hg30]
      refine v_st (st' := [.ref (Z.ad (40 + 10 * i))]) rfl ?_
      refine v_cast C rfl (tg1 200 rfl rfl) (cxF hF) dX3_block_33 ?_
      refine v_astore (lo' := [some (.ref (Z.ad 30)), some (.int (nI i)), some (.int (nI a)), some (.int v), some (.ref (Z.ad (40 + 10 * i)))]) C dX3_block_36 (Nat.le_of_ble_eq_true rfl) rfl rfl ?_
      refine v_iload_n C dX3_block_38 rfl rfl ?_
      obtain ⟨b, hb, hvb⟩ | hnb : (∃ b, b < 3 ∧ v = nI b) ∨ inB v 0 2 = false := by cases hc : inB v 0 2; (· exact Or.inr rfl); (· exact Or.inl (inB_ex (n := 2) (by decide) hc))
      · subst hvb
        obtain rfl | rfl | rfl := (show b = 0 ∨ b = 1 ∨ b = 2 by omega)
        · refine v_tabIn (off := 25) (tgt := 64) C dX3_block_39 (by decide) (by decide) rfl (by decide) ?_
          refine v_aload C dX3_block_64 rfl ?_
          refine v_get C inG0 rfl 2 (by decide) (tg5 48 rfl rfl) rfl (cxF hF) rfl dX3_block_66 ?_
          refine v_iload_n C dX3_block_69 rfl rfl ?_
          refine v_ialdN (a := a) C (cxFa 1 hF (by decide)) ⟨ha, by decide⟩ dX3_block_70 ?_
          exact ret _ _ _ _ dX3_block_71 ⟨(show g (40 + 10 * i + 1) a = blkO s (atO (nI i) (nI a)) (nI 0) by unfold blkO atO; rw [iz_nI (by omega), iz_nI (by omega), if_pos (by decide)]; exact ((hR.2.1 i hi).2.2 a ha).1), rfl⟩
        · refine v_tabIn (off := 33) (tgt := 72) C dX3_block_39 (by decide) (by decide) rfl (by decide) ?_
          refine v_aload C dX3_block_72 rfl ?_
          refine v_get C inG0 rfl 3 (by decide) (tg5 51 rfl rfl) rfl (cxF hF) rfl dX3_block_74 ?_
          refine v_iload_n C dX3_block_77 rfl rfl ?_
          refine v_ialdN (a := a) C (cxFa 2 hF (by decide)) ⟨ha, by decide⟩ dX3_block_78 ?_
          exact ret _ _ _ _ dX3_block_79 ⟨(show g (40 + 10 * i + 2) a = blkO s (atO (nI i) (nI a)) (nI 1) by unfold blkO atO; rw [iz_nI (by omega), iz_nI (by omega), if_neg (by decide), if_pos (by decide)]; exact ((hR.2.1 i hi).2.2 a ha).2.1), rfl⟩
        · refine v_tabIn (off := 41) (tgt := 80) C dX3_block_39 (by decide) (by decide) rfl (by decide) ?_
          refine v_aload C dX3_block_80 rfl ?_
          refine v_get C inG0 rfl 4 (by decide) (tg5 54 rfl rfl) rfl (cxF hF) rfl dX3_block_82 ?_
          refine v_iload_n C dX3_block_85 rfl rfl ?_
          refine v_ialdN (a := a) C (cxFa 3 hF (by decide)) ⟨ha, by decide⟩ dX3_block_86 ?_
          exact ret _ _ _ _ dX3_block_87 ⟨(show g (40 + 10 * i + 3) a = blkO s (atO (nI i) (nI a)) (nI 2) by unfold blkO atO; rw [iz_nI (by omega), iz_nI (by omega), if_neg (by decide), if_neg (by decide)]; exact ((hR.2.1 i hi).2.2 a ha).2.2), rfl⟩
      · refine v_tabOut (tgt := 88) C dX3_block_39 ?_ (by decide) ?_
        · have z0 : (0 : Int32).toInt = 0 := rfl
          have zn : (2 : Int32).toInt = 2 := rfl
          have := inB_f.mp hnb
          omega
        exact absurd (hcd.symm.trans (show _ = 1 by unfold cdBlock; rw [if_pos (Or.inr hnb)])) (by decide)
    · have k12 := bI_0.mp h12
      exact absurd (hcd.symm.trans (show _ = 1 by unfold cdBlock; rw [if_pos (Or.inl (by unfold isFL; simp [k5, k12]))])) (by decide)
set_option maxRecDepth 100000 in
theorem x_told (l : Launch) (hl9 : l.stackTraces = false) (Z : Zc) (p v : Int32) (s g : MG) (hI : IvM s) (hF9 : IvF s) (hR : Rl s g) : XI l yX3_told cX3_told 4 (some .int) (rmz 8 240 1 6) Z [.ref (Z.ad 30), .int p, .int v] g (PX g (cdTold s p v) (toldO s (iz p) (iz v)) (s)) (PXx g (cdTold s p v) (nm3 0 0 0) (s)) := by
  refine ent_xi (lo := [some (.ref (Z.ad 30)), some (.int p), some (.int v), none]) hl9 (by decide) rfl (by simp [lg_sl, Value.category]) rfl (by decide) (fun P hl C ret thr => ?_)
  have hnf := (IvM_nf hI).2
  have hf5 := (IvM_nf hI).1
  have hnp := (IvM_np hI).2
  have hp6 := (IvM_np hI).1
  have hn1 : g 31 2 = nI (nfO s) := hR.1.1.trans hnf
  have hn2 : g 32 2 = nI (npO s) := hR.1.2.1.trans hnp
  refine v_aload_n C dX3_told_0 rfl rfl ?_
  refine v_iload_n C dX3_told_1 rfl rfl ?_
  refine v_callVi (n := 1) (as := [.int p]) C (c_cisPoster _ Z (npO s) p g hn2 hp6) (gv (tg1 93 rfl rfl) (tg1 95 rfl rfl) (tg0 0 rfl rfl) (tg1 1 rfl rfl) (tg1 96 rfl rfl)) (by decide +kernel) ⟨Nat.le_of_ble_eq_true rfl, Nat.le_of_ble_eq_true rfl⟩ rfl cx_T rfl rfl (Nat.le_of_ble_eq_true rfl) dX3_told_2 ⟨Nat.le_of_ble_eq_true rfl, Nat.le_of_ble_eq_true rfl⟩ (fun r2 g2 hp2 => ?_)
  obtain ⟨rfl, hg2⟩ := hp2
  rw [hg2]
  refine v_if_ne (tgt := 18) C dX3_told_5 (by decide) (fun h5 => ?_) (fun h5 => ?_)
  · have k5 := bI_1.mp h5
    obtain ⟨i, hi, ei⟩ : ∃ i, i < npO s ∧ p = nI i := ⟨iz p, (isN_nI k5).2, (isN_nI k5).1⟩
    subst ei
    have hP := PsP.mk hn2 hi hp6
    obtain ⟨r12, r13, r15, r16, r14, rL⟩ := hR.2.2 i hi
    have hm : g (100 + 10 * i + 1) 2 = nI (nlO s i) := r14.trans (IvM_nl hI (by omega)).1
    have hm4 := (IvM_nl hI (show i < 6 by omega)).2
    refine v_aload_n C dX3_told_18 rfl rfl ?_
    refine v_get C inG3 rfl 1 (by decide) (tg1 67 rfl rfl) rfl cx_T rfl dX3_told_19 ?_
    refine v_iload_n C dX3_told_22 rfl rfl ?_
    refine v_callVq (n := 1) (as := [.int (nI i)]) C (c_lget _ Z 32 37 (npO s) i g cx_L2 hn2 hi (by omega) (fun j => Z.ad (100 + 10 * j)) (cxE2 hn2)) (gv (tg1 169 rfl rfl) (tg1 170 rfl rfl) (tg1 171 rfl rfl) (tg1 4 rfl rfl) (tg1 172 rfl rfl)) (by decide +kernel) ⟨Nat.le_of_ble_eq_true rfl, Nat.le_of_ble_eq_true rfl⟩ rfl cx_L2 rfl rfl (Nat.le_of_ble_eq_true rfl) dX3_told_23 ⟨Nat.le_of_ble_eq_true rfl, Nat.le_of_ble_eq_true rfl⟩ (fun r23 g23 hp23 => ?_)
    obtain ⟨rfl, hg23⟩ := hp23
    rw [hg23]
    refine v_st (st' := [.ref (Z.ad (100 + 10 * i))]) rfl ?_
    refine v_cast C rfl (tg1 183 rfl rfl) (cxP hP) dX3_told_26 ?_
    refine v_astore_n (lo' := [some (.ref (Z.ad 30)), some (.int (nI i)), some (.int v), some (.ref (Z.ad (100 + 10 * i)))]) C dX3_told_29 rfl (Nat.le_of_ble_eq_true rfl) rfl rfl ?_
    refine v_iload_n C dX3_told_30 rfl rfl ?_
    obtain ⟨b, hb, hvb⟩ | hnb : (∃ b, b < 8 ∧ v = nI b) ∨ inB v 0 7 = false := by cases hc : inB v 0 7; (· exact Or.inr rfl); (· exact Or.inl (inB_ex (n := 7) (by decide) hc))
    · subst hvb
      obtain rfl | rfl | rfl | rfl | rfl | rfl | rfl | rfl := (show b = 0 ∨ b = 1 ∨ b = 2 ∨ b = 3 ∨ b = 4 ∨ b = 5 ∨ b = 6 ∨ b = 7 by omega)
      · refine v_tabIn (off := 45) (tgt := 76) C dX3_told_31 (by decide) (by decide) rfl (by decide) ?_
        refine v_aload_n C dX3_told_76 rfl rfl ?_
        refine v_get C inG2 rfl 0 (by decide) (tg3 90 rfl rfl) rfl (cxP hP) rfl dX3_told_77 ?_
        refine v_wide (k := 1) (n := 6) (Nat.le_of_ble_eq_true rfl) (Nat.le_of_ble_eq_true rfl) ?_
        exact ret _ _ _ _ dX3_told_80 ⟨by unfold cdTold; rw [if_neg (by simp [k5, show inB (nI 0) 0 7 = true by decide])], (show g (100 + 10 * i) 0 = toldO s (iz (nI i)) (iz (nI 0)) by rw [iz_nI (by omega), iz_nI (by decide)]; exact r12), hR, FrK.rf⟩
      · refine v_tabIn (off := 50) (tgt := 81) C dX3_told_31 (by decide) (by decide) rfl (by decide) ?_
        refine v_aload_n C dX3_told_81 rfl rfl ?_
        refine v_get C inG2 rfl 1 (by decide) (tg3 92 rfl rfl) rfl (cxP hP) rfl dX3_told_82 ?_
        refine v_wide (k := 1) (n := 6) (Nat.le_of_ble_eq_true rfl) (Nat.le_of_ble_eq_true rfl) ?_
        exact ret _ _ _ _ dX3_told_85 ⟨by unfold cdTold; rw [if_neg (by simp [k5, show inB (nI 1) 0 7 = true by decide])], (show g (100 + 10 * i) 1 = toldO s (iz (nI i)) (iz (nI 1)) by rw [iz_nI (by omega), iz_nI (by decide)]; exact r13), hR, FrK.rf⟩
      · refine v_tabIn (off := 55) (tgt := 86) C dX3_told_31 (by decide) (by decide) rfl (by decide) ?_
        refine v_aload_n C dX3_told_86 rfl rfl ?_
        refine v_get C inG2 rfl 2 (by decide) (tg3 94 rfl rfl) rfl (cxP hP) rfl dX3_told_87 ?_
        refine v_callVi (n := 0) (as := []) C (c_lsize _ Z (100 + 10 * i + 1) (100 + 10 * i + 1 + 1) g (cxPL hP)) (gv (tg1 97 rfl rfl) (tg1 98 rfl rfl) (tg1 99 rfl rfl) (tg1 4 rfl rfl) (tg1 100 rfl rfl)) (by decide +kernel) ⟨Nat.le_of_ble_eq_true rfl, Nat.le_of_ble_eq_true rfl⟩ rfl (cxPL hP) rfl rfl (Nat.le_of_ble_eq_true rfl) dX3_told_90 ⟨Nat.le_of_ble_eq_true rfl, Nat.le_of_ble_eq_true rfl⟩ (fun r90 g90 hp90 => ?_)
        obtain ⟨rfl, hg90⟩ := hp90
        rw [hg90]
        refine v_wide (k := 1) (n := 6) (Nat.le_of_ble_eq_true rfl) (Nat.le_of_ble_eq_true rfl) ?_
        exact ret _ _ _ _ dX3_told_93 ⟨by unfold cdTold; rw [if_neg (by simp [k5, show inB (nI 2) 0 7 = true by decide])], (show g (100 + 10 * i + 1) 2 = toldO s (iz (nI i)) (iz (nI 2)) by rw [iz_nI (by omega), iz_nI (by decide)]; exact r14), hR, FrK.rf⟩
      · refine v_tabIn (off := 63) (tgt := 94) C dX3_told_31 (by decide) (by decide) rfl (by decide) ?_
        refine v_aload_n C dX3_told_94 rfl rfl ?_
        refine v_callVi (n := 0) (as := []) C (c_cletters _ Z i (nlO s i) g hP hm hm4) (gv (tg2 51 rfl rfl) (tg2 52 rfl rfl) (tg2 53 rfl rfl) (tg1 20 rfl rfl) (tg2 54 rfl rfl)) (by decide +kernel) ⟨Nat.le_of_ble_eq_true rfl, Nat.le_of_ble_eq_true rfl⟩ rfl (cxP hP) rfl rfl (Nat.le_of_ble_eq_true rfl) dX3_told_95 ⟨Nat.le_of_ble_eq_true rfl, Nat.le_of_ble_eq_true rfl⟩ (fun r95 g95 hp95 => ?_)
        obtain ⟨rfl, hg95⟩ := hp95
        rw [hg95]
        refine v_wide (k := 1) (n := 6) (Nat.le_of_ble_eq_true rfl) (Nat.le_of_ble_eq_true rfl) ?_
        exact ret _ _ _ _ dX3_told_98 ⟨by unfold cdTold; rw [if_neg (by simp [k5, show inB (nI 3) 0 7 = true by decide])], (show sumI (fun q => g (200 + 10 * (4 * i + q)) 1) (nlO s i) = toldO s (iz (nI i)) (iz (nI 3)) by rw [iz_nI (by omega), iz_nI (by decide)]; exact Rl_lts hR hi), hR, FrK.rf⟩
      · refine v_tabIn (off := 68) (tgt := 99) C dX3_told_31 (by decide) (by decide) rfl (by decide) ?_
        refine v_aload_n C dX3_told_99 rfl rfl ?_
        refine v_get C inG2 rfl 3 (by decide) (tg3 96 rfl rfl) rfl (cxP hP) rfl dX3_told_100 ?_
        refine v_if_eq (tgt := 110) C dX3_told_103 (by decide) (fun h103 => ?_) (fun h103 => ?_)
        · refine v_iconst (v := 0) C dX3_told_110 (by decide) ?_
          refine v_wide (k := 1) (n := 6) (Nat.le_of_ble_eq_true rfl) (Nat.le_of_ble_eq_true rfl) ?_
          exact ret _ _ _ _ dX3_told_111 ⟨by unfold cdTold; rw [if_neg (by simp [k5, show inB (nI 4) 0 7 = true by decide])], (show 0 = toldO s (iz (nI i)) (iz (nI 4)) by rw [iz_nI (by omega), iz_nI (by decide)]; exact (r15.symm.trans h103).symm), hR, FrK.rf⟩
        · refine v_iconst (v := 1) C dX3_told_106 (by decide) ?_
          refine v_goto (tgt := 111) C dX3_told_107 (by decide) ?_
          refine v_wide (k := 1) (n := 6) (Nat.le_of_ble_eq_true rfl) (Nat.le_of_ble_eq_true rfl) ?_
          exact ret _ _ _ _ dX3_told_111 ⟨by unfold cdTold; rw [if_neg (by simp [k5, show inB (nI 4) 0 7 = true by decide])], (show 1 = toldO s (iz (nI i)) (iz (nI 4)) by rw [iz_nI (by omega), iz_nI (by decide)]; exact ((IvM_01 hI (by omega)).resolve_left (fun z => h103 (r15.trans z))).symm), hR, FrK.rf⟩
      · refine v_tabIn (off := 81) (tgt := 112) C dX3_told_31 (by decide) (by decide) rfl (by decide) ?_
        refine v_aload_n C dX3_told_112 rfl rfl ?_
        refine v_get C inG2 rfl 3 (by decide) (tg3 96 rfl rfl) rfl (cxP hP) rfl dX3_told_113 ?_
        refine v_if_eq (tgt := 126) C dX3_told_116 (by decide) (fun h116 => ?_) (fun h116 => ?_)
        · refine v_iconst (v := 0) C dX3_told_126 (by decide) ?_
          refine v_wide (k := 1) (n := 6) (Nat.le_of_ble_eq_true rfl) (Nat.le_of_ble_eq_true rfl) ?_
          exact ret _ _ _ _ dX3_told_127 ⟨by unfold cdTold; rw [if_neg (by simp [k5, show inB (nI 5) 0 7 = true by decide])], (show 0 = toldO s (iz (nI i)) (iz (nI 5)) by rw [iz_nI (by omega), iz_nI (by decide)]; show _ = flO s i (nlO s i); unfold flO; rw [if_neg (by rw [← r15, h116]; decide)]), hR, FrK.rf⟩
        · refine v_aload_n C dX3_told_119 rfl rfl ?_
          refine v_callVi (n := 0) (as := []) C (c_cflaws _ Z i (nlO s i) g hP hm hm4) (gv (tg2 58 rfl rfl) (tg2 59 rfl rfl) (tg2 60 rfl rfl) (tg1 20 rfl rfl) (tg2 61 rfl rfl)) (by decide +kernel) ⟨Nat.le_of_ble_eq_true rfl, Nat.le_of_ble_eq_true rfl⟩ rfl (cxP hP) rfl rfl (Nat.le_of_ble_eq_true rfl) dX3_told_120 ⟨Nat.le_of_ble_eq_true rfl, Nat.le_of_ble_eq_true rfl⟩ (fun r120 g120 hp120 => ?_)
          obtain ⟨rfl, hg120⟩ := hp120
          rw [hg120]
          refine v_goto (tgt := 127) C dX3_told_123 (by decide) ?_
          refine v_wide (k := 1) (n := 6) (Nat.le_of_ble_eq_true rfl) (Nat.le_of_ble_eq_true rfl) ?_
          exact ret _ _ _ _ dX3_told_127 ⟨by unfold cdTold; rw [if_neg (by simp [k5, show inB (nI 5) 0 7 = true by decide])], (show sumI (fun q => g (200 + 10 * (4 * i + q)) 4) (nlO s i) = toldO s (iz (nI i)) (iz (nI 5)) by rw [iz_nI (by omega), iz_nI (by decide)]; exact Rl_fls hR hi ((IvM_01 hI (by omega)).resolve_left (fun z => h116 (r15.trans z)))), hR, FrK.rf⟩
      · refine v_tabIn (off := 97) (tgt := 128) C dX3_told_31 (by decide) (by decide) rfl (by decide) ?_
        refine v_aload_n C dX3_told_128 rfl rfl ?_
        refine v_get C inG2 rfl 4 (by decide) (tg3 97 rfl rfl) rfl (cxP hP) rfl dX3_told_129 ?_
        refine v_wide (k := 1) (n := 6) (Nat.le_of_ble_eq_true rfl) (Nat.le_of_ble_eq_true rfl) ?_
        exact ret _ _ _ _ dX3_told_132 ⟨by unfold cdTold; rw [if_neg (by simp [k5, show inB (nI 6) 0 7 = true by decide])], (show g (100 + 10 * i) 4 = toldO s (iz (nI i)) (iz (nI 6)) by rw [iz_nI (by omega), iz_nI (by decide)]; exact r16), hR, FrK.rf⟩
      · refine v_tabIn (off := 102) (tgt := 133) C dX3_told_31 (by decide) (by decide) rfl (by decide) ?_
        refine v_aload_n C dX3_told_133 rfl rfl ?_
        refine v_get C inG2 rfl 3 (by decide) (tg3 96 rfl rfl) rfl (cxP hP) rfl dX3_told_134 ?_
        refine v_if_eq (tgt := 148) C dX3_told_137 (by decide) (fun h137 => ?_) (fun h137 => ?_)
        · refine v_iconst (v := 0) C dX3_told_148 (by decide) ?_
          refine v_wide (k := 1) (n := 6) (Nat.le_of_ble_eq_true rfl) (Nat.le_of_ble_eq_true rfl) ?_
          exact ret _ _ _ _ dX3_told_149 ⟨by unfold cdTold; rw [if_neg (by simp [k5, show inB (nI 7) 0 7 = true by decide])], (show 0 = toldO s (iz (nI i)) (iz (nI 7)) by rw [iz_nI (by omega), iz_nI (by decide)]; show _ = prO s (wdO s) i (nlO s i) (iz (s 12 i)); unfold prO; rw [if_pos (r15.symm.trans h137)]), hR, FrK.rf⟩
        · refine v_aload_n C dX3_told_140 rfl rfl ?_
          refine v_aload_n C dX3_told_141 rfl rfl ?_
          refine v_callVi (n := 1) (as := [.ref (Z.ad (100 + 10 * i))]) C (c_proofAsLaid _ Z i (nlO s i) (iz (s 12 i)) g hP hm hm4 (RlP_fo hI hF9 hR hi ((IvM_01 hI (by omega)).resolve_left (fun z => h137 (r15.trans z)))) (IvM_t hI (by omega)).2 (r12.trans (IvM_t hI (by omega)).1)) (gv (tg2 62 rfl rfl) (tg2 64 rfl rfl) (tg0 9 rfl rfl) (tg1 1 rfl rfl) (tg2 65 rfl rfl)) (by decide +kernel) ⟨Nat.le_of_ble_eq_true rfl, Nat.le_of_ble_eq_true rfl⟩ rfl cx_T rfl rfl (Nat.le_of_ble_eq_true rfl) dX3_told_142 ⟨Nat.le_of_ble_eq_true rfl, Nat.le_of_ble_eq_true rfl⟩ (fun r142 g142 hp142 => ?_)
          obtain ⟨rfl, hg142⟩ := hp142
          rw [hg142]
          refine v_goto (tgt := 149) C dX3_told_145 (by decide) ?_
          refine v_wide (k := 1) (n := 6) (Nat.le_of_ble_eq_true rfl) (Nat.le_of_ble_eq_true rfl) ?_
          exact ret _ _ _ _ dX3_told_149 ⟨by unfold cdTold; rw [if_neg (by simp [k5, show inB (nI 7) 0 7 = true by decide])], (show paL g i (nlO s i) (iz (s 12 i)) = toldO s (iz (nI i)) (iz (nI 7)) by rw [iz_nI (by omega), iz_nI (by decide)]; exact Rl_paL hI hF9 hR hi ((IvM_01 hI (by omega)).resolve_left (fun z => h137 (r15.trans z)))), hR, FrK.rf⟩
    · refine v_tabOut (tgt := 150) C dX3_told_31 ?_ (by decide) ?_
      · have z0 : (0 : Int32).toInt = 0 := rfl
        have zn : (7 : Int32).toInt = 7 := rfl
        have := inB_f.mp hnb
        omega
      exact thr _ _ _ _ _ 0 _ _ (List.mem_of_getElem? (i := 19) rfl) ⟨Nat.le_of_ble_eq_true rfl, Nat.le_of_ble_eq_true rfl⟩ dX3_told_150 dX3_told_153 dX3_told_154 dX3_told_156 dX3_told_159 (PXx.no (k := 1) (by unfold cdTold; rw [if_pos (Or.inr hnb)]) (by decide) rfl rfl hR FrK.rf)
  · have k5 := bI_0.mp h5
    exact thr _ _ _ _ _ 0 _ _ (List.mem_of_getElem? (i := 12) rfl) ⟨Nat.le_of_ble_eq_true rfl, Nat.le_of_ble_eq_true rfl⟩ dX3_told_8 dX3_told_11 dX3_told_12 dX3_told_14 dX3_told_17 (PXx.no (k := 1) (by unfold cdTold; rw [if_pos (Or.inl k5)]) (by decide) rfl rfl hR FrK.rf)
set_option maxRecDepth 100000 in
theorem m_told (l : Launch) (Z : Zc) (p v : Int32) (s g : MG) (hI : IvM s) (hF9 : IvF s) (hR : Rl s g) (hcd : cdTold s p v = 0) : MI l yX3_told cX3_told 4 (some .int) (rmz 8 240 0 0) Z [.ref (Z.ad 30), .int p, .int v] g (fun r g' => r = toldO s (iz p) (iz v) ∧ g' = g) := by
  refine ent_i (own := RX3) (lo := [some (.ref (Z.ad 30)), some (.int p), some (.int v), none]) (by decide) rfl (by simp [lg_sl, Value.category]) rfl (fun P hl C ret => ?_)
  have hnf := (IvM_nf hI).2
  have hf5 := (IvM_nf hI).1
  have hnp := (IvM_np hI).2
  have hp6 := (IvM_np hI).1
  have hn1 : g 31 2 = nI (nfO s) := hR.1.1.trans hnf
  have hn2 : g 32 2 = nI (npO s) := hR.1.2.1.trans hnp
  refine v_aload_n C dX3_told_0 rfl rfl ?_
  refine v_iload_n C dX3_told_1 rfl rfl ?_
  refine v_callVi (n := 1) (as := [.int p]) C (c_cisPoster _ Z (npO s) p g hn2 hp6) (gv (tg1 93 rfl rfl) (tg1 95 rfl rfl) (tg0 0 rfl rfl) (tg1 1 rfl rfl) (tg1 96 rfl rfl)) (by decide +kernel) ⟨Nat.le_of_ble_eq_true rfl, Nat.le_of_ble_eq_true rfl⟩ rfl cx_T rfl rfl (Nat.le_of_ble_eq_true rfl) dX3_told_2 ⟨Nat.le_of_ble_eq_true rfl, Nat.le_of_ble_eq_true rfl⟩ (fun r2 g2 hp2 => ?_)
  obtain ⟨rfl, hg2⟩ := hp2
  rw [hg2]
  refine v_if_ne (tgt := 18) C dX3_told_5 (by decide) (fun h5 => ?_) (fun h5 => ?_)
  · have k5 := bI_1.mp h5
    obtain ⟨i, hi, ei⟩ : ∃ i, i < npO s ∧ p = nI i := ⟨iz p, (isN_nI k5).2, (isN_nI k5).1⟩
    subst ei
    have hP := PsP.mk hn2 hi hp6
    obtain ⟨r12, r13, r15, r16, r14, rL⟩ := hR.2.2 i hi
    have hm : g (100 + 10 * i + 1) 2 = nI (nlO s i) := r14.trans (IvM_nl hI (by omega)).1
    have hm4 := (IvM_nl hI (show i < 6 by omega)).2
    refine v_aload_n C dX3_told_18 rfl rfl ?_
    refine v_get C inG3 rfl 1 (by decide) (tg1 67 rfl rfl) rfl cx_T rfl dX3_told_19 ?_
    refine v_iload_n C dX3_told_22 rfl rfl ?_
    refine v_callVq (n := 1) (as := [.int (nI i)]) C (c_lget _ Z 32 37 (npO s) i g cx_L2 hn2 hi (by omega) (fun j => Z.ad (100 + 10 * j)) (cxE2 hn2)) (gv (tg1 169 rfl rfl) (tg1 170 rfl rfl) (tg1 171 rfl rfl) (tg1 4 rfl rfl) (tg1 172 rfl rfl)) (by decide +kernel) ⟨Nat.le_of_ble_eq_true rfl, Nat.le_of_ble_eq_true rfl⟩ rfl cx_L2 rfl rfl (Nat.le_of_ble_eq_true rfl) dX3_told_23 ⟨Nat.le_of_ble_eq_true rfl, Nat.le_of_ble_eq_true rfl⟩ (fun r23 g23 hp23 => ?_)
    obtain ⟨rfl, hg23⟩ := hp23
    rw [hg23]
    refine v_st (st' := [.ref (Z.ad (100 + 10 * i))]) rfl ?_
    refine v_cast C rfl (tg1 183 rfl rfl) (cxP hP) dX3_told_26 ?_
    refine v_astore_n (lo' := [some (.ref (Z.ad 30)), some (.int (nI i)), some (.int v), some (.ref (Z.ad (100 + 10 * i)))]) C dX3_told_29 rfl (Nat.le_of_ble_eq_true rfl) rfl rfl ?_
    refine v_iload_n C dX3_told_30 rfl rfl ?_
    obtain ⟨b, hb, hvb⟩ | hnb : (∃ b, b < 8 ∧ v = nI b) ∨ inB v 0 7 = false := by cases hc : inB v 0 7; (· exact Or.inr rfl); (· exact Or.inl (inB_ex (n := 7) (by decide) hc))
    · subst hvb
      obtain rfl | rfl | rfl | rfl | rfl | rfl | rfl | rfl := (show b = 0 ∨ b = 1 ∨ b = 2 ∨ b = 3 ∨ b = 4 ∨ b = 5 ∨ b = 6 ∨ b = 7 by omega)
      · refine v_tabIn (off := 45) (tgt := 76) C dX3_told_31 (by decide) (by decide) rfl (by decide) ?_
        refine v_aload_n C dX3_told_76 rfl rfl ?_
        refine v_get C inG2 rfl 0 (by decide) (tg3 90 rfl rfl) rfl (cxP hP) rfl dX3_told_77 ?_
        exact ret _ _ _ _ dX3_told_80 ⟨(show g (100 + 10 * i) 0 = toldO s (iz (nI i)) (iz (nI 0)) by rw [iz_nI (by omega), iz_nI (by decide)]; exact r12), rfl⟩
      · refine v_tabIn (off := 50) (tgt := 81) C dX3_told_31 (by decide) (by decide) rfl (by decide) ?_
        refine v_aload_n C dX3_told_81 rfl rfl ?_
        refine v_get C inG2 rfl 1 (by decide) (tg3 92 rfl rfl) rfl (cxP hP) rfl dX3_told_82 ?_
        exact ret _ _ _ _ dX3_told_85 ⟨(show g (100 + 10 * i) 1 = toldO s (iz (nI i)) (iz (nI 1)) by rw [iz_nI (by omega), iz_nI (by decide)]; exact r13), rfl⟩
      · refine v_tabIn (off := 55) (tgt := 86) C dX3_told_31 (by decide) (by decide) rfl (by decide) ?_
        refine v_aload_n C dX3_told_86 rfl rfl ?_
        refine v_get C inG2 rfl 2 (by decide) (tg3 94 rfl rfl) rfl (cxP hP) rfl dX3_told_87 ?_
        refine v_callVi (n := 0) (as := []) C (c_lsize _ Z (100 + 10 * i + 1) (100 + 10 * i + 1 + 1) g (cxPL hP)) (gv (tg1 97 rfl rfl) (tg1 98 rfl rfl) (tg1 99 rfl rfl) (tg1 4 rfl rfl) (tg1 100 rfl rfl)) (by decide +kernel) ⟨Nat.le_of_ble_eq_true rfl, Nat.le_of_ble_eq_true rfl⟩ rfl (cxPL hP) rfl rfl (Nat.le_of_ble_eq_true rfl) dX3_told_90 ⟨Nat.le_of_ble_eq_true rfl, Nat.le_of_ble_eq_true rfl⟩ (fun r90 g90 hp90 => ?_)
        obtain ⟨rfl, hg90⟩ := hp90
        rw [hg90]
        exact ret _ _ _ _ dX3_told_93 ⟨(show g (100 + 10 * i + 1) 2 = toldO s (iz (nI i)) (iz (nI 2)) by rw [iz_nI (by omega), iz_nI (by decide)]; exact r14), rfl⟩
      · refine v_tabIn (off := 63) (tgt := 94) C dX3_told_31 (by decide) (by decide) rfl (by decide) ?_
        refine v_aload_n C dX3_told_94 rfl rfl ?_
        refine v_callVi (n := 0) (as := []) C (c_cletters _ Z i (nlO s i) g hP hm hm4) (gv (tg2 51 rfl rfl) (tg2 52 rfl rfl) (tg2 53 rfl rfl) (tg1 20 rfl rfl) (tg2 54 rfl rfl)) (by decide +kernel) ⟨Nat.le_of_ble_eq_true rfl, Nat.le_of_ble_eq_true rfl⟩ rfl (cxP hP) rfl rfl (Nat.le_of_ble_eq_true rfl) dX3_told_95 ⟨Nat.le_of_ble_eq_true rfl, Nat.le_of_ble_eq_true rfl⟩ (fun r95 g95 hp95 => ?_)
        obtain ⟨rfl, hg95⟩ := hp95
        rw [hg95]
        exact ret _ _ _ _ dX3_told_98 ⟨(show sumI (fun q => g (200 + 10 * (4 * i + q)) 1) (nlO s i) = toldO s (iz (nI i)) (iz (nI 3)) by rw [iz_nI (by omega), iz_nI (by decide)]; exact Rl_lts hR hi), rfl⟩
      · refine v_tabIn (off := 68) (tgt := 99) C dX3_told_31 (by decide) (by decide) rfl (by decide) ?_
        refine v_aload_n C dX3_told_99 rfl rfl ?_
        refine v_get C inG2 rfl 3 (by decide) (tg3 96 rfl rfl) rfl (cxP hP) rfl dX3_told_100 ?_
        refine v_if_eq (tgt := 110) C dX3_told_103 (by decide) (fun h103 => ?_) (fun h103 => ?_)
        · refine v_iconst (v := 0) C dX3_told_110 (by decide) ?_
          exact ret _ _ _ _ dX3_told_111 ⟨(show 0 = toldO s (iz (nI i)) (iz (nI 4)) by rw [iz_nI (by omega), iz_nI (by decide)]; exact (r15.symm.trans h103).symm), rfl⟩
        · refine v_iconst (v := 1) C dX3_told_106 (by decide) ?_
          refine v_goto (tgt := 111) C dX3_told_107 (by decide) ?_
          exact ret _ _ _ _ dX3_told_111 ⟨(show 1 = toldO s (iz (nI i)) (iz (nI 4)) by rw [iz_nI (by omega), iz_nI (by decide)]; exact ((IvM_01 hI (by omega)).resolve_left (fun z => h103 (r15.trans z))).symm), rfl⟩
      · refine v_tabIn (off := 81) (tgt := 112) C dX3_told_31 (by decide) (by decide) rfl (by decide) ?_
        refine v_aload_n C dX3_told_112 rfl rfl ?_
        refine v_get C inG2 rfl 3 (by decide) (tg3 96 rfl rfl) rfl (cxP hP) rfl dX3_told_113 ?_
        refine v_if_eq (tgt := 126) C dX3_told_116 (by decide) (fun h116 => ?_) (fun h116 => ?_)
        · refine v_iconst (v := 0) C dX3_told_126 (by decide) ?_
          exact ret _ _ _ _ dX3_told_127 ⟨(show 0 = toldO s (iz (nI i)) (iz (nI 5)) by rw [iz_nI (by omega), iz_nI (by decide)]; show _ = flO s i (nlO s i); unfold flO; rw [if_neg (by rw [← r15, h116]; decide)]), rfl⟩
        · refine v_aload_n C dX3_told_119 rfl rfl ?_
          refine v_callVi (n := 0) (as := []) C (c_cflaws _ Z i (nlO s i) g hP hm hm4) (gv (tg2 58 rfl rfl) (tg2 59 rfl rfl) (tg2 60 rfl rfl) (tg1 20 rfl rfl) (tg2 61 rfl rfl)) (by decide +kernel) ⟨Nat.le_of_ble_eq_true rfl, Nat.le_of_ble_eq_true rfl⟩ rfl (cxP hP) rfl rfl (Nat.le_of_ble_eq_true rfl) dX3_told_120 ⟨Nat.le_of_ble_eq_true rfl, Nat.le_of_ble_eq_true rfl⟩ (fun r120 g120 hp120 => ?_)
          obtain ⟨rfl, hg120⟩ := hp120
          rw [hg120]
          refine v_goto (tgt := 127) C dX3_told_123 (by decide) ?_
          exact ret _ _ _ _ dX3_told_127 ⟨(show sumI (fun q => g (200 + 10 * (4 * i + q)) 4) (nlO s i) = toldO s (iz (nI i)) (iz (nI 5)) by rw [iz_nI (by omega), iz_nI (by decide)]; exact Rl_fls hR hi ((IvM_01 hI (by omega)).resolve_left (fun z => h116 (r15.trans z)))), rfl⟩
      · refine v_tabIn (off := 97) (tgt := 128) C dX3_told_31 (by decide) (by decide) rfl (by decide) ?_
        refine v_aload_n C dX3_told_128 rfl rfl ?_
        refine v_get C inG2 rfl 4 (by decide) (tg3 97 rfl rfl) rfl (cxP hP) rfl dX3_told_129 ?_
        exact ret _ _ _ _ dX3_told_132 ⟨(show g (100 + 10 * i) 4 = toldO s (iz (nI i)) (iz (nI 6)) by rw [iz_nI (by omega), iz_nI (by decide)]; exact r16), rfl⟩
      · refine v_tabIn (off := 102) (tgt := 133) C dX3_told_31 (by decide) (by decide) rfl (by decide) ?_
        refine v_aload_n C dX3_told_133 rfl rfl ?_
        refine v_get C inG2 rfl 3 (by decide) (tg3 96 rfl rfl) rfl (cxP hP) rfl dX3_told_134 ?_
        refine v_if_eq (tgt := 148) C dX3_told_137 (by decide) (fun h137 => ?_) (fun h137 => ?_)
        · refine v_iconst (v := 0) C dX3_told_148 (by decide) ?_
          exact ret _ _ _ _ dX3_told_149 ⟨(show 0 = toldO s (iz (nI i)) (iz (nI 7)) by rw [iz_nI (by omega), iz_nI (by decide)]; show _ = prO s (wdO s) i (nlO s i) (iz (s 12 i)); unfold prO; rw [if_pos (r15.symm.trans h137)]), rfl⟩
        · refine v_aload_n C dX3_told_140 rfl rfl ?_
          refine v_aload_n C dX3_told_141 rfl rfl ?_
          refine v_callVi (n := 1) (as := [.ref (Z.ad (100 + 10 * i))]) C (c_proofAsLaid _ Z i (nlO s i) (iz (s 12 i)) g hP hm hm4 (RlP_fo hI hF9 hR hi ((IvM_01 hI (by omega)).resolve_left (fun z => h137 (r15.trans z)))) (IvM_t hI (by omega)).2 (r12.trans (IvM_t hI (by omega)).1)) (gv (tg2 62 rfl rfl) (tg2 64 rfl rfl) (tg0 9 rfl rfl) (tg1 1 rfl rfl) (tg2 65 rfl rfl)) (by decide +kernel) ⟨Nat.le_of_ble_eq_true rfl, Nat.le_of_ble_eq_true rfl⟩ rfl cx_T rfl rfl (Nat.le_of_ble_eq_true rfl) dX3_told_142 ⟨Nat.le_of_ble_eq_true rfl, Nat.le_of_ble_eq_true rfl⟩ (fun r142 g142 hp142 => ?_)
          obtain ⟨rfl, hg142⟩ := hp142
          rw [hg142]
          refine v_goto (tgt := 149) C dX3_told_145 (by decide) ?_
          exact ret _ _ _ _ dX3_told_149 ⟨(show paL g i (nlO s i) (iz (s 12 i)) = toldO s (iz (nI i)) (iz (nI 7)) by rw [iz_nI (by omega), iz_nI (by decide)]; exact Rl_paL hI hF9 hR hi ((IvM_01 hI (by omega)).resolve_left (fun z => h137 (r15.trans z)))), rfl⟩
    · refine v_tabOut (tgt := 150) C dX3_told_31 ?_ (by decide) ?_
      · have z0 : (0 : Int32).toInt = 0 := rfl
        have zn : (7 : Int32).toInt = 7 := rfl
        have := inB_f.mp hnb
        omega
      exact absurd (hcd.symm.trans (show _ = 1 by unfold cdTold; rw [if_pos (Or.inr hnb)])) (by decide)
  · have k5 := bI_0.mp h5
    exact absurd (hcd.symm.trans (show _ = 1 by unfold cdTold; rw [if_pos (Or.inl k5)])) (by decide)
