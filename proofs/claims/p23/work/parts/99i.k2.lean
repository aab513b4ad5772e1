/-! THE JDK'S TEXTS: a builder comes anew; texts are appended -/
theorem sb_put {ad : Nat → Nat} {r : Nat → Int32} {k : Nat} (hk : 600 ≤ k ∧ k < 1200) : sbF ad (upd r 0 (nI k)) = (sbF ad r).set 0 (.ref (ad k)) := by
  simp [sbF, upd, fW_nI hk, va_rf]
theorem wr_id {m : MG} {k j : Nat} {x : Int32} (h : m k j = x) : wr m k j x = m := by
  funext a b
  unfold wr
  by_cases ha : a = k
  · subst ha
    rw [if_pos rfl]
    by_cases hb : b = j
    · subst hb; rw [if_pos rfl, h]
    · rw [if_neg hb]
  · rw [if_neg ha]
theorem r9 {kd : Int32} {j : Nat} : isrf kd (j + 1) = true → kd = 8 ∨ kd = 9 → False := by
  intro h1 h2
  rcases h2 with rfl | rfl <;> simp [isrf] at h1
set_option maxRecDepth 100000 in
theorem l_appE (l : Launch) (Z : Zc) (ad : Nat → Nat) (m g : MG) (K : Nat) (hK : 600 ≤ K ∧ K < 1200) (h9 : m K 100000 = 9) (hc : m K 1 = 0) (V9 n : Nat) (h0 : m K 0 = nI V9) (hV : 600 ≤ V9 ∧ V9 < 1200) (h7 : m V9 100000 = 7) (hn : m V9 100001 = nI n) (hn9 : n < 1000) (h3 : m K 3 = 0) : LMq l yJ5_append_cf1ce cJ5_append_cf1ce 3 (some (.object "java/lang/AbstractStringBuilder")) (rmz 4 170 0 0) Z [.ref (ad K), .ref Z.e] ad m g (fun r ad' m' g' => r = some (ad K) ∧ ad' = ad ∧ m' = m ∧ g' = g) := by
  refine ent_lq (own := RJ5) (lo := [some (.ref (ad K)), some (.ref Z.e), none]) (Or.inl ⟨_, rfl⟩) (by decide) rfl (by simp [lg_sl, Value.category]) rfl (fun P hl C hW9 ret => ?_)
  refine v_aload_n (C.wl _ _) dJ5_append_cf1ce_0 rfl rfl ?_
  refine v_ifnonnull (tgt := 9) (C.wl _ _) dJ5_append_cf1ce_1 (by decide) ?_
  refine v_aload_n (C.wl _ _) dJ5_append_cf1ce_9 rfl rfl ?_
  refine j_callEi (n := 0) (as := []) C hW9 (l_Elen _ Z ad m g) (gv (tg4 20 rfl rfl) (tg4 21 rfl rfl) (tg4 22 rfl rfl) (tg1 23 rfl rfl) (tg4 23 rfl rfl)) (by decide +kernel) ⟨Nat.le_of_ble_eq_true rfl, Nat.le_of_ble_eq_true rfl⟩ rfl rfl (Nat.le_of_ble_eq_true rfl) dJ5_append_cf1ce_10 ⟨Nat.le_of_ble_eq_true rfl, Nat.le_of_ble_eq_true rfl⟩ (fun r10 ad10 m10 g10 hp10 => ?_)
  obtain ⟨rfl, ea10, eb10, ec10⟩ := hp10
  replace ea10 := ea10.symm; replace eb10 := eb10.symm; replace ec10 := ec10.symm; subst ea10 eb10 ec10
  refine v_istore_n (lo' := [some (.ref (ad K)), some (.ref Z.e), some (.int 0)]) (C.wl _ _) dJ5_append_cf1ce_13 rfl (Nat.le_of_ble_eq_true rfl) rfl rfl ?_
  refine v_aload_n (C.wl _ _) dJ5_append_cf1ce_14 rfl rfl ?_
  refine v_aload_n (C.wl _ _) dJ5_append_cf1ce_15 rfl rfl ?_
  refine j_get C inGB (ci := 8) rfl 3 (by decide) (tg3 189 rfl rfl) hK (cW_9 h9) rfl dJ5_append_cf1ce_16 ?_
  refine v_topi (y := 0) h3 ?_
  refine v_iload_n (C.wl _ _) dJ5_append_cf1ce_19 rfl rfl ?_
  refine v_iadd (C.wl _ _) dJ5_append_cf1ce_20 ?_
  refine v_topi (y := nI 0) rfl ?_
  refine j_callUv (n := 1) (as := [.int (nI 0)]) C hW9 (l_ensC _ Z ad m g K hK h9 hc V9 n h0 hV h7 hn hn9 0 (Nat.zero_le _)) (fun s args hts hs => j_cu (x := yJ5_ensureCapacityInternal_d00df) hts (tg3 211 rfl rfl) (tg5 76 rfl rfl) (tg3 213 rfl rfl) (tg3 214 rfl rfl) (hs _ (List.mem_of_getElem? (i := 0) rfl)) (tg3 213 rfl rfl) (tg1 21 rfl rfl) (tg3 214 rfl rfl) (by decide +kernel) ⟨Nat.le_of_ble_eq_true rfl, Nat.le_of_ble_eq_true rfl⟩) rfl hK (cW_9 h9) rfl rfl (Nat.le_of_ble_eq_true rfl) dJ5_append_cf1ce_21 ⟨Nat.le_of_ble_eq_true rfl, Nat.le_of_ble_eq_true rfl⟩ (fun ad21 m21 g21 hp21 => ?_)
  obtain ⟨ea21, eb21, ec21⟩ := hp21
  replace ea21 := ea21.symm; replace eb21 := eb21.symm; replace ec21 := ec21.symm; subst ea21 eb21 ec21
  refine v_aload_n (C.wl _ _) dJ5_append_cf1ce_24 rfl rfl ?_
  refine v_aload_n (C.wl _ _) dJ5_append_cf1ce_25 rfl rfl ?_
  refine j_get C inGB (ci := 8) rfl 3 (by decide) (tg3 189 rfl rfl) hK (cW_9 h9) rfl dJ5_append_cf1ce_26 ?_
  refine v_topi (y := 0) h3 ?_
  refine v_aload_n (C.wl _ _) dJ5_append_cf1ce_29 rfl rfl ?_
  refine j_callUv (n := 2) (as := [.int 0, .ref Z.e]) C hW9 (l_putS _ Z ad m g K hK h9 hc V9 n h0 hV h7 hn hn9) (fun s args hts hs => j_cu (x := yJ5_putStringAt_47b60) hts (tg4 29 rfl rfl) (tg5 78 rfl rfl) (tg4 31 rfl rfl) (tg4 32 rfl rfl) (hs _ (List.mem_of_getElem? (i := 1) rfl)) (tg4 31 rfl rfl) (tg1 21 rfl rfl) (tg4 32 rfl rfl) (by decide +kernel) ⟨Nat.le_of_ble_eq_true rfl, Nat.le_of_ble_eq_true rfl⟩) rfl hK (cW_9 h9) rfl rfl (Nat.le_of_ble_eq_true rfl) dJ5_append_cf1ce_30 ⟨Nat.le_of_ble_eq_true rfl, Nat.le_of_ble_eq_true rfl⟩ (fun ad30 m30 g30 hp30 => ?_)
  obtain ⟨ea30, eb30, ec30⟩ := hp30
  replace ea30 := ea30.symm; replace eb30 := eb30.symm; replace ec30 := ec30.symm; subst ea30 eb30 ec30
  refine v_aload_n (C.wl _ _) dJ5_append_cf1ce_33 rfl rfl ?_
  refine v_dup (C.wl _ _) dJ5_append_cf1ce_34 rfl ?_
  refine j_get C inGB (ci := 8) rfl 3 (by decide) (tg3 189 rfl rfl) hK (cW_9 h9) rfl dJ5_append_cf1ce_35 ?_
  refine v_topi (y := 0) h3 ?_
  refine v_iload_n (C.wl _ _) dJ5_append_cf1ce_38 rfl rfl ?_
  refine v_iadd (C.wl _ _) dJ5_append_cf1ce_39 ?_
  refine v_topi (y := 0) rfl ?_
  refine j_put (k := K) (x := 0) C inGB (ci := 8) rfl tyJ4 tyJ4_ok nmJ4 3 (by decide) (tg3 189 rfl rfl) rfl rfl rfl rfl hK (cW_9 h9) (Nat.le_of_ble_eq_true rfl) ((cW_9 ((if_neg (by decide : ¬ (100000 : Nat) = 3)).trans h9)).trans rfl) dJ5_append_cf1ce_40 ?_
  rw [wr_id h3]
  refine v_aload_n (C.wl _ _) dJ5_append_cf1ce_43 rfl rfl ?_
  exact ret _ _ (some (ad K)) _ _ _ dJ5_append_cf1ce_44 ⟨rfl, rfl, rfl, rfl⟩
set_option maxRecDepth 100000 in
theorem l_appE4 (l : Launch) (Z : Zc) (ad : Nat → Nat) (m g : MG) (K : Nat) (hK : 600 ≤ K ∧ K < 1200) (h9 : m K 100000 = 9) (hc : m K 1 = 0) (V9 n : Nat) (h0 : m K 0 = nI V9) (hV : 600 ≤ V9 ∧ V9 < 1200) (h7 : m V9 100000 = 7) (hn : m V9 100001 = nI n) (hn9 : n < 1000) (h3 : m K 3 = 0) : LMq l yJ4_append_15ec4 cJ4_append_15ec4 2 (some (.object "java/lang/StringBuilder")) (rmz 5 200 0 0) Z [.ref (ad K), .ref Z.e] ad m g (fun r ad' m' g' => r = some (ad K) ∧ ad' = ad ∧ m' = m ∧ g' = g) := by
  refine ent_lq (own := RJ4) (lo := [some (.ref (ad K)), some (.ref Z.e)]) (Or.inl ⟨_, rfl⟩) (by decide) rfl (by simp [lg_sl, Value.category]) rfl (fun P hl C hW9 ret => ?_)
  refine v_aload_n (C.wl _ _) dJ4_append_15ec4_0 rfl rfl ?_
  refine v_aload_n (C.wl _ _) dJ4_append_15ec4_1 rfl rfl ?_
  refine j_callSUq (n := 1) (as := [.ref Z.e]) (ci := 8) C hW9 (l_appE _ Z ad m g K hK h9 hc V9 n h0 hV h7 hn hn9 h3) (fun s args hts => j_csu hts (tg3 204 rfl rfl) (tg5 74 rfl rfl) (tg3 198 rfl rfl) (tg3 205 rfl rfl) (tg1 21 rfl rfl) (tg3 206 rfl rfl) (by decide +kernel) ⟨Nat.le_of_ble_eq_true rfl, Nat.le_of_ble_eq_true rfl⟩) rfl hK (cW_9 h9) rfl rfl (Nat.le_of_ble_eq_true rfl) dJ4_append_15ec4_2 ⟨Nat.le_of_ble_eq_true rfl, Nat.le_of_ble_eq_true rfl⟩ (fun r2 ad2 m2 g2 hp2 => ?_)
  obtain ⟨rfl, ea2, eb2, ec2⟩ := hp2
  replace ea2 := ea2.symm; replace eb2 := eb2.symm; replace ec2 := ec2.symm; subst ea2 eb2 ec2
  refine v_pop (C.wl _ _) dJ4_append_15ec4_5 rfl ?_
  refine v_aload_n (C.wl _ _) dJ4_append_15ec4_6 rfl rfl ?_
  exact ret _ _ (some (ad K)) _ _ _ dJ4_append_15ec4_7 ⟨rfl, rfl, rfl, rfl⟩
set_option maxRecDepth 100000 in
theorem l_sbLat (l : Launch) (Z : Zc) (ad : Nat → Nat) (m g : MG) (K : Nat) (hK : 600 ≤ K ∧ K < 1200) (h9 : m K 100000 = 9) (hc : m K 1 = 0) : LMi l yJ5_isLatin1_aae02 cJ5_isLatin1_aae02 1 (some .boolean) (rmz 0 0 0 0) Z [.ref (ad K)] ad m g (fun r ad' m' g' => r = 1 ∧ ad' = ad ∧ m' = m ∧ g' = g) := by
  refine ent_ln (own := RJ5) (lo := [some (.ref (ad K))]) (by decide) rfl (by simp [lg_sl, Value.category]) rfl (fun P hl C hW9 ret => ?_)
  refine j_compact C hW9 (tg3 177 rfl rfl) dJ5_isLatin1_aae02_0 ?_
  refine v_if_eq (tgt := 17) (C.wl _ _) dJ5_isLatin1_aae02_3 (by decide) (fun h3 => ?_) (fun h3 => ?_)
  · exact absurd h3 (by decide)
  · refine v_aload_n (C.wl _ _) dJ5_isLatin1_aae02_6 rfl rfl ?_
    refine j_get C inGB (ci := 8) rfl 1 (by decide) (tg3 187 rfl rfl) hK (cW_9 h9) rfl dJ5_isLatin1_aae02_7 ?_
    refine v_topi (y := 0) hc ?_
    refine v_if_ne (tgt := 17) (C.wl _ _) dJ5_isLatin1_aae02_10 (by decide) (fun h10 => ?_) (fun h10 => ?_)
    · exact absurd rfl h10
    · refine v_iconst (v := 1) (C.wl _ _) dJ5_isLatin1_aae02_13 (by decide) ?_
      refine v_goto (tgt := 18) (C.wl _ _) dJ5_isLatin1_aae02_14 (by decide) ?_
      exact ret _ _ _ _ _ _ dJ5_isLatin1_aae02_18 (by decide) ⟨rfl, rfl, rfl, rfl⟩
set_option maxRecDepth 100000 in
theorem l_sbVal (l : Launch) (Z : Zc) (ad : Nat → Nat) (m g : MG) (K V9 : Nat) (hK : 600 ≤ K ∧ K < 1200) (h9 : m K 100000 = 9) (h0 : m K 0 = nI V9) (hV : 600 ≤ V9 ∧ V9 < 1200) : LMq l yJ5_getValue_6d5f1 cJ5_getValue_6d5f1 1 (some (.array .byte)) (rmz 0 0 0 0) Z [.ref (ad K)] ad m g (fun r ad' m' g' => r = some (ad V9) ∧ ad' = ad ∧ m' = m ∧ g' = g) := by
  refine ent_lq (own := RJ5) (lo := [some (.ref (ad K))]) (Or.inr ⟨_, rfl⟩) (by decide) rfl (by simp [lg_sl, Value.category]) rfl (fun P hl C hW9 ret => ?_)
  refine v_aload_n (C.wl _ _) dJ5_getValue_6d5f1_0 rfl rfl ?_
  refine j_get C inGB (ci := 8) rfl 0 (by decide) (tg3 186 rfl rfl) hK (cW_9 h9) (sb_rf h0 hV) dJ5_getValue_6d5f1_1 ?_
  exact ret _ _ (some (ad V9)) _ _ _ dJ5_getValue_6d5f1_4 ⟨rfl, rfl, rfl, rfl⟩
set_option maxRecDepth 100000 in
theorem l_sbLen5 (l : Launch) (Z : Zc) (ad : Nat → Nat) (m g : MG) (K : Nat) (hK : 600 ≤ K ∧ K < 1200) (h9 : m K 100000 = 9) : LMi l yJ5_length_8abf5 cJ5_length_8abf5 1 (some .int) (rmz 0 0 0 0) Z [.ref (ad K)] ad m g (fun r ad' m' g' => r = m K 3 ∧ ad' = ad ∧ m' = m ∧ g' = g) := by
  refine ent_li (own := RJ5) (lo := [some (.ref (ad K))]) (by decide) rfl (by simp [lg_sl, Value.category]) rfl (fun P hl C hW9 ret => ?_)
  refine v_aload_n (C.wl _ _) dJ5_length_8abf5_0 rfl rfl ?_
  refine j_get C inGB (ci := 8) rfl 3 (by decide) (tg3 189 rfl rfl) hK (cW_9 h9) rfl dJ5_length_8abf5_1 ?_
  exact ret _ _ _ _ _ _ dJ5_length_8abf5_4 ⟨rfl, rfl, rfl, rfl⟩
set_option maxRecDepth 100000 in
theorem l_sbLen (l : Launch) (Z : Zc) (ad : Nat → Nat) (m g : MG) (K : Nat) (hK : 600 ≤ K ∧ K < 1200) (h9 : m K 100000 = 9) : LMi l yJ4_length_8abf5 cJ4_length_8abf5 1 (some .int) (rmz 1 30 0 0) Z [.ref (ad K)] ad m g (fun r ad' m' g' => r = m K 3 ∧ ad' = ad ∧ m' = m ∧ g' = g) := by
  refine ent_li (own := RJ4) (lo := [some (.ref (ad K))]) (by decide) rfl (by simp [lg_sl, Value.category]) rfl (fun P hl C hW9 ret => ?_)
  refine v_aload_n (C.wl _ _) dJ4_length_8abf5_0 rfl rfl ?_
  refine j_callSUi (n := 0) (as := []) (ci := 8) C hW9 (l_sbLen5 _ Z ad m g K hK h9) (fun s args hts => j_csu hts (tg4 112 rfl rfl) (tg4 108 rfl rfl) (tg3 198 rfl rfl) (tg4 107 rfl rfl) (tg1 21 rfl rfl) (tg4 113 rfl rfl) (by decide +kernel) ⟨Nat.le_of_ble_eq_true rfl, Nat.le_of_ble_eq_true rfl⟩) rfl hK (cW_9 h9) rfl rfl (Nat.le_of_ble_eq_true rfl) dJ4_length_8abf5_1 ⟨Nat.le_of_ble_eq_true rfl, Nat.le_of_ble_eq_true rfl⟩ (fun r1 ad1 m1 g1 hp1 => ?_)
  obtain ⟨rfl, ea1, eb1, ec1⟩ := hp1
  replace ea1 := ea1.symm; replace eb1 := eb1.symm; replace ec1 := ec1.symm; subst ea1 eb1 ec1
  exact ret _ _ _ _ _ _ dJ4_length_8abf5_4 ⟨rfl, rfl, rfl, rfl⟩
set_option maxRecDepth 100000 in
theorem l_appI (l : Launch) (Z : Zc) (ad : Nat → Nat) (m g : MG) (K : Nat) (hK : 600 ≤ K ∧ K < 1200) (h9 : m K 100000 = 9) (hc : m K 1 = 0) (V9 n : Nat) (h0 : m K 0 = nI V9) (hV : 600 ≤ V9 ∧ V9 < 1200) (h7 : m V9 100000 = 7) (hn : m V9 100001 = nI n) (hn9 : n < 1000) (h3 : m K 3 = 0) (w : Nat) (hw : w ≤ 99999999) (hsn : szw w ≤ n) : LMq l yJ5_append_c97b9 cJ5_append_c97b9 4 (some (.object "java/lang/AbstractStringBuilder")) (rmz 1 60 0 0) Z [.ref (ad K), .int (nI w)] ad m g (fun r ad' m' g' => r = some (ad K) ∧ ad' = ad ∧ (∃ m1, GcI m m1 V9 w (szw w) 0 ∧ m' = wr m1 K 3 (nI (szw w))) ∧ g' = g) := by
  have hs8 := szw_8 hw
  refine ent_lq (own := RJ5) (lo := [some (.ref (ad K)), some (.int (nI w)), none, none]) (Or.inl ⟨_, rfl⟩) (by decide) rfl (by simp [lg_sl, Value.category]) rfl (fun P hl C hW9 ret => ?_)
  refine v_aload_n (C.wl _ _) dJ5_append_c97b9_0 rfl rfl ?_
  refine j_get C inGB (ci := 8) rfl 3 (by decide) (tg3 189 rfl rfl) hK (cW_9 h9) rfl dJ5_append_c97b9_1 ?_
  refine v_topi (y := 0) h3 ?_
  refine v_istore_n (lo' := [some (.ref (ad K)), some (.int (nI w)), some (.int 0), none]) (C.wl _ _) dJ5_append_c97b9_4 rfl (Nat.le_of_ble_eq_true rfl) rfl rfl ?_
  refine v_iload_n (C.wl _ _) dJ5_append_c97b9_5 rfl rfl ?_
  refine v_iload_n (C.wl _ _) dJ5_append_c97b9_6 rfl rfl ?_
  refine v_callSxi (n := 1) (as := [.int (nI w)]) (C.wl _ _) (l_ssize _ _ w hw g) (gs2 (tg4 70 rfl rfl) (tg4 71 rfl rfl) (tg1 27 rfl rfl) (tg4 72 rfl rfl)) (by decide +kernel) ⟨Nat.le_of_ble_eq_true rfl, Nat.le_of_ble_eq_true rfl⟩ rfl rfl (Nat.le_of_ble_eq_true rfl) dJ5_append_c97b9_7 ⟨Nat.le_of_ble_eq_true rfl, Nat.le_of_ble_eq_true rfl⟩ (fun r7 g7 hp7 => ?_)
  obtain ⟨rfl, hg7⟩ := hp7
  rw [hg7]
  refine v_iadd (C.wl _ _) dJ5_append_c97b9_10 ?_
  refine v_topi (y := nI (szw w)) (Int32.zero_add _) ?_
  refine v_istore_n (lo' := [some (.ref (ad K)), some (.int (nI w)), some (.int 0), some (.int (nI (szw w)))]) (C.wl _ _) dJ5_append_c97b9_11 rfl (Nat.le_of_ble_eq_true rfl) rfl rfl ?_
  refine v_aload_n (C.wl _ _) dJ5_append_c97b9_12 rfl rfl ?_
  refine v_iload_n (C.wl _ _) dJ5_append_c97b9_13 rfl rfl ?_
  refine j_callUv (n := 1) (as := [.int (nI (szw w))]) C hW9 (l_ensC _ Z ad m g K hK h9 hc V9 n h0 hV h7 hn hn9 (szw w) hsn) (fun s args hts hs => j_cu (x := yJ5_ensureCapacityInternal_d00df) hts (tg3 211 rfl rfl) (tg5 76 rfl rfl) (tg3 213 rfl rfl) (tg3 214 rfl rfl) (hs _ (List.mem_of_getElem? (i := 0) rfl)) (tg3 213 rfl rfl) (tg1 21 rfl rfl) (tg3 214 rfl rfl) (by decide +kernel) ⟨Nat.le_of_ble_eq_true rfl, Nat.le_of_ble_eq_true rfl⟩) rfl hK (cW_9 h9) rfl rfl (Nat.le_of_ble_eq_true rfl) dJ5_append_c97b9_14 ⟨Nat.le_of_ble_eq_true rfl, Nat.le_of_ble_eq_true rfl⟩ (fun ad14 m14 g14 hp14 => ?_)
  obtain ⟨ea14, eb14, ec14⟩ := hp14
  replace ea14 := ea14.symm; replace eb14 := eb14.symm; replace ec14 := ec14.symm; subst ea14 eb14 ec14
  refine v_aload_n (C.wl _ _) dJ5_append_c97b9_17 rfl rfl ?_
  refine j_callUi (n := 0) (as := []) C hW9 (l_sbLat _ Z ad m g K hK h9 hc) (fun s args hts hs => j_cu (x := yJ5_isLatin1_aae02) hts (tg3 229 rfl rfl) (tg3 231 rfl rfl) (tg3 230 rfl rfl) (tg3 233 rfl rfl) (hts _ (tg3 232 rfl rfl)) (tg3 230 rfl rfl) (tg1 21 rfl rfl) (tg3 233 rfl rfl) (by decide +kernel) ⟨Nat.le_of_ble_eq_true rfl, Nat.le_of_ble_eq_true rfl⟩) rfl hK (cW_9 h9) rfl rfl (Nat.le_of_ble_eq_true rfl) dJ5_append_c97b9_18 ⟨Nat.le_of_ble_eq_true rfl, Nat.le_of_ble_eq_true rfl⟩ (fun r18 ad18 m18 g18 hp18 => ?_)
  obtain ⟨rfl, ea18, eb18, ec18⟩ := hp18
  replace ea18 := ea18.symm; replace eb18 := eb18.symm; replace ec18 := ec18.symm; subst ea18 eb18 ec18
  refine v_if_eq (tgt := 37) (C.wl _ _) dJ5_append_c97b9_21 (by decide) (fun h21 => ?_) (fun h21 => ?_)
  · exact absurd h21 (by decide)
  · refine v_iload_n (C.wl _ _) dJ5_append_c97b9_24 rfl rfl ?_
    refine v_iload_n (C.wl _ _) dJ5_append_c97b9_25 rfl rfl ?_
    refine v_aload_n (C.wl _ _) dJ5_append_c97b9_26 rfl rfl ?_
    refine j_get C inGB (ci := 8) rfl 0 (by decide) (tg3 186 rfl rfl) hK (cW_9 h9) (sb_rf h0 hV) dJ5_append_c97b9_27 ?_
    refine l_callSi (n := 3) (as := [.int (nI w), .int (nI (szw w)), .ref (ad V9)]) C hW9 (l_getChars _ Z ad m g V9 n w (szw w) hw rfl hV h7 hn ⟨hsn, hn9⟩) (gs2 (tg4 73 rfl rfl) (tg4 74 rfl rfl) (tg1 27 rfl rfl) (tg4 75 rfl rfl)) (by decide +kernel) ⟨Nat.le_of_ble_eq_true rfl, Nat.le_of_ble_eq_true rfl⟩ rfl rfl (Nat.le_of_ble_eq_true rfl) dJ5_append_c97b9_30 ⟨Nat.le_of_ble_eq_true rfl, Nat.le_of_ble_eq_true rfl⟩ (fun r30 ad30 m30 g30 hp30 => ?_)
    obtain ⟨hG, ea30, ec30⟩ := hp30
    replace ea30 := ea30.symm; replace ec30 := ec30.symm; subst ea30 ec30
    have hKV : K ≠ V9 := fun z => by rw [z, h7] at h9; exact absurd h9 (by decide)
    have k9 : m30 K 100000 = 9 := by rw [hG.1 K hKV]; exact h9
    refine v_pop (C.wl _ _) dJ5_append_c97b9_33 rfl ?_
    refine v_goto (tgt := 48) (C.wl _ _) dJ5_append_c97b9_34 (by decide) ?_
    refine v_aload_n (C.wl _ _) dJ5_append_c97b9_48 rfl rfl ?_
    refine v_iload_n (C.wl _ _) dJ5_append_c97b9_49 rfl rfl ?_
    refine j_put (k := K) (x := nI (szw w)) C inGB (ci := 8) rfl tyJ4 tyJ4_ok nmJ4 3 (by decide) (tg3 189 rfl rfl) rfl rfl rfl rfl hK (cW_9 k9) (Nat.le_of_ble_eq_true rfl) ((cW_9 ((if_neg (by decide : ¬ (100000 : Nat) = 3)).trans k9)).trans rfl) dJ5_append_c97b9_50 ?_
    refine v_aload_n (C.wl _ _) dJ5_append_c97b9_53 rfl rfl ?_
    exact ret _ _ (some (ad K)) _ _ _ dJ5_append_c97b9_54 ⟨rfl, rfl, ⟨m30, hG, rfl⟩, rfl⟩
set_option maxRecDepth 100000 in
theorem l_appI4 (l : Launch) (Z : Zc) (ad : Nat → Nat) (m g : MG) (K : Nat) (hK : 600 ≤ K ∧ K < 1200) (h9 : m K 100000 = 9) (hc : m K 1 = 0) (V9 n : Nat) (h0 : m K 0 = nI V9) (hV : 600 ≤ V9 ∧ V9 < 1200) (h7 : m V9 100000 = 7) (hn : m V9 100001 = nI n) (hn9 : n < 1000) (h3 : m K 3 = 0) (w : Nat) (hw : w ≤ 99999999) (hsn : szw w ≤ n) : LMq l yJ4_append_bf812 cJ4_append_bf812 2 (some (.object "java/lang/StringBuilder")) (rmz 2 100 0 0) Z [.ref (ad K), .int (nI w)] ad m g (fun r ad' m' g' => r = some (ad K) ∧ ad' = ad ∧ (∃ m1, GcI m m1 V9 w (szw w) 0 ∧ m' = wr m1 K 3 (nI (szw w))) ∧ g' = g) := by
  refine ent_lq (own := RJ4) (lo := [some (.ref (ad K)), some (.int (nI w))]) (Or.inl ⟨_, rfl⟩) (by decide) rfl (by simp [lg_sl, Value.category]) rfl (fun P hl C hW9 ret => ?_)
  refine v_aload_n (C.wl _ _) dJ4_append_bf812_0 rfl rfl ?_
  refine v_iload_n (C.wl _ _) dJ4_append_bf812_1 rfl rfl ?_
  refine j_callSUq (n := 1) (as := [.int (nI w)]) (ci := 8) C hW9 (l_appI _ Z ad m g K hK h9 hc V9 n h0 hV h7 hn hn9 h3 w hw hsn) (fun s args hts => j_csu hts (tg4 67 rfl rfl) (tg5 81 rfl rfl) (tg3 198 rfl rfl) (tg4 68 rfl rfl) (tg1 21 rfl rfl) (tg4 69 rfl rfl) (by decide +kernel) ⟨Nat.le_of_ble_eq_true rfl, Nat.le_of_ble_eq_true rfl⟩) rfl hK (cW_9 h9) rfl rfl (Nat.le_of_ble_eq_true rfl) dJ4_append_bf812_2 ⟨Nat.le_of_ble_eq_true rfl, Nat.le_of_ble_eq_true rfl⟩ (fun r2 ad2 m2 g2 hp2 => ?_)
  obtain ⟨rfl, ea2, hG, ec2⟩ := hp2
  replace ea2 := ea2.symm; replace ec2 := ec2.symm; subst ea2 ec2
  refine v_pop (C.wl _ _) dJ4_append_bf812_5 rfl ?_
  refine v_aload_n (C.wl _ _) dJ4_append_bf812_6 rfl rfl ?_
  exact ret _ _ (some (ad K)) _ _ _ dJ4_append_bf812_7 ⟨rfl, rfl, hG, rfl⟩
