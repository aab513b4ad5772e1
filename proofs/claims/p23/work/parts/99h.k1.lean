/-! THE JDK'S TEXTS: the empty text is appended -/
set_option maxRecDepth 100000 in
theorem l_Ecod (l : Launch) (Z : Zc) (ad : Nat → Nat) (m g : MG)  : LMi l yJ0_coder_7d493 cJ0_coder_7d493 1 (some .byte) (rmz 0 0 0 0) Z [.ref Z.e] ad m g (fun r ad' m' g' => r = 0 ∧ ad' = ad ∧ m' = m ∧ g' = g) := by
  refine ent_ln (own := RJ0) (lo := [some (.ref Z.e)]) (by decide) rfl (by simp [lg_sl, Value.category]) rfl (fun P hl C hW9 ret => ?_)
  refine j_compact C hW9 (tg4 28 rfl rfl) dJ0_coder_7d493_0 ?_
  refine v_if_eq (tgt := 13) (C.wl _ _) dJ0_coder_7d493_3 (by decide) (fun h3 => ?_) (fun h3 => ?_)
  · exact absurd h3 (by decide)
  · refine v_aload_n (C.wl _ _) dJ0_coder_7d493_6 rfl rfl ?_
    refine j_Ecod C hW9 (tg4 138 rfl rfl) dJ0_coder_7d493_7 ?_
    refine v_goto (tgt := 14) (C.wl _ _) dJ0_coder_7d493_10 (by decide) ?_
    exact ret _ _ _ _ _ _ dJ0_coder_7d493_14 (by decide) ⟨rfl, rfl, rfl, rfl⟩
set_option maxRecDepth 100000 in
theorem l_Elen (l : Launch) (Z : Zc) (ad : Nat → Nat) (m g : MG)  : LMi l yJ0_length_8abf5 cJ0_length_8abf5 1 (some .int) (rmz 1 30 0 0) Z [.ref Z.e] ad m g (fun r ad' m' g' => r = 0 ∧ ad' = ad ∧ m' = m ∧ g' = g) := by
  refine ent_li (own := RJ0) (lo := [some (.ref Z.e)]) (by decide) rfl (by simp [lg_sl, Value.category]) rfl (fun P hl C hW9 ret => ?_)
  refine v_aload_n (C.wl _ _) dJ0_length_8abf5_0 rfl rfl ?_
  refine j_Eval C hW9 (tg4 137 rfl rfl) dJ0_length_8abf5_1 (fun b1 hb1 => ?_)
  refine j_Elen (C.wl _ _) hb1 dJ0_length_8abf5_4 ?_
  refine v_aload_n (C.wl _ _) dJ0_length_8abf5_5 rfl rfl ?_
  refine j_callEi (n := 0) (as := []) C hW9 (l_Ecod _ Z ad m g) (gv (tg4 24 rfl rfl) (tg4 25 rfl rfl) (tg4 26 rfl rfl) (tg1 23 rfl rfl) (tg4 27 rfl rfl)) (by decide +kernel) ⟨Nat.le_of_ble_eq_true rfl, Nat.le_of_ble_eq_true rfl⟩ rfl rfl (Nat.le_of_ble_eq_true rfl) dJ0_length_8abf5_6 ⟨Nat.le_of_ble_eq_true rfl, Nat.le_of_ble_eq_true rfl⟩ (fun r6 ad6 m6 g6 hp6 => ?_)
  obtain ⟨rfl, ea6, eb6, ec6⟩ := hp6
  replace ea6 := ea6.symm; replace eb6 := eb6.symm; replace ec6 := ec6.symm; subst ea6 eb6 ec6
  refine v_ishr (C.wl _ _) dJ0_length_8abf5_9 ?_
  exact ret _ _ _ _ _ _ dJ0_length_8abf5_10 ⟨rfl, rfl, rfl, rfl⟩
set_option maxRecDepth 100000 in
theorem l_infl (l : Launch) (Z : Zc) (ad : Nat → Nat) (m g : MG) (K : Nat) (hK : 600 ≤ K ∧ K < 1200) (h9 : m K 100000 = 9) (hc : m K 1 = 0) : LMv l yJ5_inflateIfNeededFor_a7421 cJ5_inflateIfNeededFor_a7421 2 (rmz 1 30 0 0) Z [.ref (ad K), .ref Z.e] ad m g (fun ad' m' g' => ad' = ad ∧ m' = m ∧ g' = g) := by
  refine ent_lv (own := RJ5) (lo := [some (.ref (ad K)), some (.ref Z.e)]) (by decide) rfl (by simp [lg_sl, Value.category]) rfl (fun P hl C hW9 ret => ?_)
  refine j_compact C hW9 (tg3 177 rfl rfl) dJ5_inflateIfNeededFor_a7421_0 ?_
  refine v_if_eq (tgt := 21) (C.wl _ _) dJ5_inflateIfNeededFor_a7421_3 (by decide) (fun h3 => ?_) (fun h3 => ?_)
  · exact absurd h3 (by decide)
  · refine v_aload_n (C.wl _ _) dJ5_inflateIfNeededFor_a7421_6 rfl rfl ?_
    refine j_get C inGB (ci := 8) rfl 1 (by decide) (tg3 187 rfl rfl) hK (cW_9 h9) rfl dJ5_inflateIfNeededFor_a7421_7 ?_
    refine v_topi (y := 0) hc ?_
    refine v_aload_n (C.wl _ _) dJ5_inflateIfNeededFor_a7421_10 rfl rfl ?_
    refine j_callEi (n := 0) (as := []) C hW9 (l_Ecod _ Z ad m g) (gv (tg4 37 rfl rfl) (tg4 25 rfl rfl) (tg4 26 rfl rfl) (tg1 23 rfl rfl) (tg4 27 rfl rfl)) (by decide +kernel) ⟨Nat.le_of_ble_eq_true rfl, Nat.le_of_ble_eq_true rfl⟩ rfl rfl (Nat.le_of_ble_eq_true rfl) dJ5_inflateIfNeededFor_a7421_11 ⟨Nat.le_of_ble_eq_true rfl, Nat.le_of_ble_eq_true rfl⟩ (fun r11 ad11 m11 g11 hp11 => ?_)
    obtain ⟨rfl, ea11, eb11, ec11⟩ := hp11
    replace ea11 := ea11.symm; replace eb11 := eb11.symm; replace ec11 := ec11.symm; subst ea11 eb11 ec11
    refine v_icmp_eq (tgt := 21) (C.wl _ _) dJ5_inflateIfNeededFor_a7421_14 (by decide) (fun h14 => ?_) (fun h14 => ?_)
    · exact ret _ _ _ _ _ dJ5_inflateIfNeededFor_a7421_21 ⟨rfl, rfl, rfl⟩
    · exact absurd rfl h14
set_option maxRecDepth 100000 in
theorem l_Egb (l : Launch) (Z : Zc) (ad : Nat → Nat) (m g : MG) (V9 n : Nat) (hV : 600 ≤ V9 ∧ V9 < 1200) (h7 : m V9 100000 = 7) (hn : m V9 100001 = nI n) (hn9 : n < 1000) : LMv l yJ0_getBytes_840e7 cJ0_getBytes_840e7 4 (rmz 1 40 0 0) Z [.ref Z.e, .ref (ad V9), .int 0, .int 0] ad m g (fun ad' m' g' => ad' = ad ∧ m' = m ∧ g' = g) := by
  refine ent_lv (own := RJ0) (lo := [some (.ref Z.e), some (.ref (ad V9)), some (.int 0), some (.int 0)]) (by decide) rfl (by simp [lg_sl, Value.category]) rfl (fun P hl C hW9 ret => ?_)
  refine v_aload_n (C.wl _ _) dJ0_getBytes_840e7_0 rfl rfl ?_
  refine j_callEi (n := 0) (as := []) C hW9 (l_Ecod _ Z ad m g) (gv (tg4 24 rfl rfl) (tg4 25 rfl rfl) (tg4 26 rfl rfl) (tg1 23 rfl rfl) (tg4 27 rfl rfl)) (by decide +kernel) ⟨Nat.le_of_ble_eq_true rfl, Nat.le_of_ble_eq_true rfl⟩ rfl rfl (Nat.le_of_ble_eq_true rfl) dJ0_getBytes_840e7_1 ⟨Nat.le_of_ble_eq_true rfl, Nat.le_of_ble_eq_true rfl⟩ (fun r1 ad1 m1 g1 hp1 => ?_)
  obtain ⟨rfl, ea1, eb1, ec1⟩ := hp1
  replace ea1 := ea1.symm; replace eb1 := eb1.symm; replace ec1 := ec1.symm; subst ea1 eb1 ec1
  refine v_iload_n (C.wl _ _) dJ0_getBytes_840e7_4 rfl rfl ?_
  refine v_icmp_ne (tgt := 28) (C.wl _ _) dJ0_getBytes_840e7_5 (by decide) (fun h5 => ?_) (fun h5 => ?_)
  · exact absurd rfl h5
  · refine v_aload_n (C.wl _ _) dJ0_getBytes_840e7_8 rfl rfl ?_
    refine j_Eval C hW9 (tg4 137 rfl rfl) dJ0_getBytes_840e7_9 (fun b1 hb1 => ?_)
    refine v_iconst (v := 0) (C.wl _ _) dJ0_getBytes_840e7_12 (by decide) ?_
    refine v_aload_n (C.wl _ _) dJ0_getBytes_840e7_13 rfl rfl ?_
    refine v_iload_n (C.wl _ _) dJ0_getBytes_840e7_14 rfl rfl ?_
    refine v_iload_n (C.wl _ _) dJ0_getBytes_840e7_15 rfl rfl ?_
    refine v_ishl (C.wl _ _) dJ0_getBytes_840e7_16 ?_
    refine v_aload_n (C.wl _ _) dJ0_getBytes_840e7_17 rfl rfl ?_
    refine j_Eval C hW9 (tg4 137 rfl rfl) dJ0_getBytes_840e7_18 (fun b2 hb2 => ?_)
    refine j_Elen (C.wl _ _) hb2 dJ0_getBytes_840e7_21 ?_
    refine v_st (st' := [.int 0, .int 0, .ref (ad V9), .int 0, .ref b1]) rfl ?_
    refine j_Ecpy C (tg4 61 rfl rfl) (tg1 207 rfl rfl) (tg1 206 rfl rfl) (tg1 15 rfl rfl) hb1 hV h7 hn hn9 (Nat.le_of_ble_eq_true rfl) (Nat.le_of_ble_eq_true rfl) dJ0_getBytes_840e7_22 ?_
    refine v_goto (tgt := 43) (C.wl _ _) dJ0_getBytes_840e7_25 (by decide) ?_
    exact ret _ _ _ _ _ dJ0_getBytes_840e7_43 ⟨rfl, rfl, rfl⟩
set_option maxRecDepth 100000 in
theorem l_putS (l : Launch) (Z : Zc) (ad : Nat → Nat) (m g : MG) (K : Nat) (hK : 600 ≤ K ∧ K < 1200) (h9 : m K 100000 = 9) (hc : m K 1 = 0) (V9 n : Nat) (h0 : m K 0 = nI V9) (hV : 600 ≤ V9 ∧ V9 < 1200) (h7 : m V9 100000 = 7) (hn : m V9 100001 = nI n) (hn9 : n < 1000) : LMv l yJ5_putStringAt_47b60 cJ5_putStringAt_47b60 3 (rmz 3 120 0 0) Z [.ref (ad K), .int 0, .ref Z.e] ad m g (fun ad' m' g' => ad' = ad ∧ m' = m ∧ g' = g) := by
  refine ent_lv (own := RJ5) (lo := [some (.ref (ad K)), some (.int 0), some (.ref Z.e)]) (by decide) rfl (by simp [lg_sl, Value.category]) rfl (fun P hl C hW9 ret => ?_)
  refine v_aload_n (C.wl _ _) dJ5_putStringAt_47b60_0 rfl rfl ?_
  refine v_aload_n (C.wl _ _) dJ5_putStringAt_47b60_1 rfl rfl ?_
  refine j_callUv (n := 1) (as := [.ref Z.e]) C hW9 (l_infl _ Z ad m g K hK h9 hc) (fun s args hts hs => j_cu (x := yJ5_inflateIfNeededFor_a7421) hts (tg4 33 rfl rfl) (tg5 79 rfl rfl) (tg4 35 rfl rfl) (tg4 36 rfl rfl) (hs _ (List.mem_of_getElem? (i := 2) rfl)) (tg4 35 rfl rfl) (tg1 21 rfl rfl) (tg4 36 rfl rfl) (by decide +kernel) ⟨Nat.le_of_ble_eq_true rfl, Nat.le_of_ble_eq_true rfl⟩) rfl hK (cW_9 h9) rfl rfl (Nat.le_of_ble_eq_true rfl) dJ5_putStringAt_47b60_2 ⟨Nat.le_of_ble_eq_true rfl, Nat.le_of_ble_eq_true rfl⟩ (fun ad2 m2 g2 hp2 => ?_)
  obtain ⟨ea2, eb2, ec2⟩ := hp2
  replace ea2 := ea2.symm; replace eb2 := eb2.symm; replace ec2 := ec2.symm; subst ea2 eb2 ec2
  refine v_aload_n (C.wl _ _) dJ5_putStringAt_47b60_5 rfl rfl ?_
  refine v_aload_n (C.wl _ _) dJ5_putStringAt_47b60_6 rfl rfl ?_
  refine j_get C inGB (ci := 8) rfl 0 (by decide) (tg3 186 rfl rfl) hK (cW_9 h9) (sb_rf h0 hV) dJ5_putStringAt_47b60_7 ?_
  refine v_iload_n (C.wl _ _) dJ5_putStringAt_47b60_10 rfl rfl ?_
  refine v_aload_n (C.wl _ _) dJ5_putStringAt_47b60_11 rfl rfl ?_
  refine j_get C inGB (ci := 8) rfl 1 (by decide) (tg3 187 rfl rfl) hK (cW_9 h9) rfl dJ5_putStringAt_47b60_12 ?_
  refine v_topi (y := 0) hc ?_
  refine j_callEv (n := 3) (as := [.ref (ad V9), .int 0, .int 0]) C hW9 (l_Egb _ Z ad m g V9 n hV h7 hn hn9) (gv (tg4 57 rfl rfl) (tg4 58 rfl rfl) (tg4 59 rfl rfl) (tg1 23 rfl rfl) (tg4 60 rfl rfl)) (by decide +kernel) ⟨Nat.le_of_ble_eq_true rfl, Nat.le_of_ble_eq_true rfl⟩ rfl rfl (Nat.le_of_ble_eq_true rfl) dJ5_putStringAt_47b60_15 ⟨Nat.le_of_ble_eq_true rfl, Nat.le_of_ble_eq_true rfl⟩ (fun ad15 m15 g15 hp15 => ?_)
  obtain ⟨ea15, eb15, ec15⟩ := hp15
  replace ea15 := ea15.symm; replace eb15 := eb15.symm; replace ec15 := ec15.symm; subst ea15 eb15 ec15
  exact ret _ _ _ _ _ dJ5_putStringAt_47b60_18 ⟨rfl, rfl, rfl⟩
set_option maxRecDepth 100000 in
theorem l_ensC (l : Launch) (Z : Zc) (ad : Nat → Nat) (m g : MG) (K : Nat) (hK : 600 ≤ K ∧ K < 1200) (h9 : m K 100000 = 9) (hc : m K 1 = 0) (V9 n : Nat) (h0 : m K 0 = nI V9) (hV : 600 ≤ V9 ∧ V9 < 1200) (h7 : m V9 100000 = 7) (hn : m V9 100001 = nI n) (hn9 : n < 1000) (q : Nat) (hq : q ≤ n) : LMv l yJ5_ensureCapacityInternal_d00df cJ5_ensureCapacityInternal_d00df 3 (rmz 0 0 0 0) Z [.ref (ad K), .int (nI q)] ad m g (fun ad' m' g' => ad' = ad ∧ m' = m ∧ g' = g) := by
  refine ent_lv (own := RJ5) (lo := [some (.ref (ad K)), some (.int (nI q)), none]) (by decide) rfl (by simp [lg_sl, Value.category]) rfl (fun P hl C hW9 ret => ?_)
  refine v_aload_n (C.wl _ _) dJ5_ensureCapacityInternal_d00df_0 rfl rfl ?_
  refine j_get C inGB (ci := 8) rfl 0 (by decide) (tg3 186 rfl rfl) hK (cW_9 h9) (sb_rf h0 hV) dJ5_ensureCapacityInternal_d00df_1 ?_
  refine j_len (k := V9) C hV h7 hn hn9 dJ5_ensureCapacityInternal_d00df_4 ?_
  refine v_aload_n (C.wl _ _) dJ5_ensureCapacityInternal_d00df_5 rfl rfl ?_
  refine j_get C inGB (ci := 8) rfl 1 (by decide) (tg3 187 rfl rfl) hK (cW_9 h9) rfl dJ5_ensureCapacityInternal_d00df_6 ?_
  refine v_topi (y := 0) hc ?_
  refine v_ishr (C.wl _ _) dJ5_ensureCapacityInternal_d00df_9 ?_
  refine v_topi (y := nI n) (sh0 _) ?_
  refine v_istore_n (lo' := [some (.ref (ad K)), some (.int (nI q)), some (.int (nI n))]) (C.wl _ _) dJ5_ensureCapacityInternal_d00df_10 rfl (Nat.le_of_ble_eq_true rfl) rfl rfl ?_
  refine v_iload_n (C.wl _ _) dJ5_ensureCapacityInternal_d00df_11 rfl rfl ?_
  refine v_iload_n (C.wl _ _) dJ5_ensureCapacityInternal_d00df_12 rfl rfl ?_
  refine v_isub (C.wl _ _) dJ5_ensureCapacityInternal_d00df_13 ?_
  refine v_if_le (tgt := 38) (C.wl _ _) dJ5_ensureCapacityInternal_d00df_14 (by decide) (fun h14 => ?_) (fun h14 => ?_)
  · exact ret _ _ _ _ _ dJ5_ensureCapacityInternal_d00df_38 ⟨rfl, rfl, rfl⟩
  · exact absurd (by rw [i_le, ti_sub (by rw [nI_toInt (by omega), nI_toInt (by omega)]; omega) (by rw [nI_toInt (by omega), nI_toInt (by omega)]; omega), nI_toInt (by omega), nI_toInt (by omega), Int32.toInt_zero]; omega) h14
