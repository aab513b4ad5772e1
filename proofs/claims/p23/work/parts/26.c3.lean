/-! THE CLASS: its small private methods -/
theorem FnP.mk {g : MG} {n i : Nat} (hn : g 31 2 = nI n) (hi : i < n) (h5 : n ≤ 5) : FnP g i := ⟨n, hn, hi, h5⟩
theorem PsP.mk {g : MG} {n i : Nat} (hn : g 32 2 = nI n) (hi : i < n) (h6 : n ≤ 6) : PsP g i := ⟨n, hn, hi, h6⟩
theorem isN_f1 {n : Nat} {v : Int32} (h : v < 0) : isN n v = false := by
  rw [i_lt] at h
  have h0 : (0 : Int32).toInt = 0 := rfl
  cases hc : isN n v
  · rfl
  · have := (isN_t.mp hc).1; omega
theorem isN_f2 {n : Nat} {v : Int32} (hn : n ≤ 100) (h : nI n ≤ v) : isN n v = false := by
  rw [i_le, nI_toInt (by omega)] at h
  cases hc : isN n v
  · rfl
  · have := (isN_t.mp hc).2; omega
theorem isN_tt {n : Nat} {v : Int32} (hn : n ≤ 100) (h1 : ¬ v < 0) (h : ¬ nI n ≤ v) : isN n v = true := by
  rw [i_lt] at h1
  rw [i_le, nI_toInt (by omega)] at h
  have h0 : (0 : Int32).toInt = 0 := rfl
  exact isN_t.mpr ⟨by omega, by omega⟩
theorem mx0_r (x : Int32) : (if x < 0 then 0 else x) = mx0 x := by
  unfold mx0
  have h0 : (0 : Int32).toInt = 0 := rfl
  by_cases h1 : x < 0
  · rw [if_pos h1, if_neg (by rw [i_lt] at h1 ⊢; omega)]
  · rw [if_neg h1]
    by_cases h2 : 0 < x
    · rw [if_pos h2]
    · rw [if_neg h2]
      rw [i_eq]; rw [i_lt] at h1 h2; omega
set_option maxRecDepth 100000 in
theorem c_cisFount (l : Launch) (Z : Zc) (n : Nat) (f : Int32) (g : MG) (hn : g 31 2 = nI n) (hle : n ≤ 5) : MI l yX3_isFount cX3_isFount 2 (some .boolean) (rmz 1 22 0 0) Z [.ref (Z.ad 30), .int f] g (fun r g' => r = bI (isN n f) ∧ g' = g) := by
  refine ent_z (own := RX3) (lo := [some (.ref (Z.ad 30)), some (.int f)]) (by decide) rfl (by simp [lg_sl, Value.category]) rfl (fun P hl C ret => ?_)
  refine v_iload_n C dX3_isFount_0 rfl rfl ?_
  refine v_if_lt (tgt := 19) C dX3_isFount_1 (by decide) (fun h1 => ?_) (fun h1 => ?_)
  · refine v_iconst (v := 0) C dX3_isFount_19 (by decide) ?_
    exact ret _ _ _ _ dX3_isFount_20 (by decide) ⟨bI_f (isN_f1 h1), rfl⟩
  · refine v_iload_n C dX3_isFount_4 rfl rfl ?_
    refine v_aload_n C dX3_isFount_5 rfl rfl ?_
    refine v_get C inG3 rfl 0 (by decide) (tg1 66 rfl rfl) rfl cx_T rfl dX3_isFount_6 ?_
    refine v_callVi (n := 0) (as := []) C (c_lsize _ Z 31 36 g cx_L1) (gv (tg1 97 rfl rfl) (tg1 98 rfl rfl) (tg1 99 rfl rfl) (tg1 4 rfl rfl) (tg1 100 rfl rfl)) (by decide +kernel) ⟨Nat.le_of_ble_eq_true rfl, Nat.le_of_ble_eq_true rfl⟩ rfl cx_L1 rfl rfl (Nat.le_of_ble_eq_true rfl) dX3_isFount_9 ⟨Nat.le_of_ble_eq_true rfl, Nat.le_of_ble_eq_true rfl⟩ (fun r9 g9 hp9 => ?_)
    obtain ⟨rfl, hg9⟩ := hp9
    rw [hg9]
    refine v_topi (y := nI n) hn ?_
    refine v_icmp_ge (tgt := 19) C dX3_isFount_12 (by decide) (fun h12 => ?_) (fun h12 => ?_)
    · refine v_iconst (v := 0) C dX3_isFount_19 (by decide) ?_
      exact ret _ _ _ _ dX3_isFount_20 (by decide) ⟨bI_f (isN_f2 (by omega) h12), rfl⟩
    · refine v_iconst (v := 1) C dX3_isFount_15 (by decide) ?_
      refine v_goto (tgt := 20) C dX3_isFount_16 (by decide) ?_
      exact ret _ _ _ _ dX3_isFount_20 (by decide) ⟨bI_t (isN_tt (by omega) h1 h12), rfl⟩
set_option maxRecDepth 100000 in
theorem c_cisPoster (l : Launch) (Z : Zc) (n : Nat) (f : Int32) (g : MG) (hn : g 32 2 = nI n) (hle : n ≤ 6) : MI l yX3_isPoster cX3_isPoster 2 (some .boolean) (rmz 1 22 0 0) Z [.ref (Z.ad 30), .int f] g (fun r g' => r = bI (isN n f) ∧ g' = g) := by
  refine ent_z (own := RX3) (lo := [some (.ref (Z.ad 30)), some (.int f)]) (by decide) rfl (by simp [lg_sl, Value.category]) rfl (fun P hl C ret => ?_)
  refine v_iload_n C dX3_isPoster_0 rfl rfl ?_
  refine v_if_lt (tgt := 19) C dX3_isPoster_1 (by decide) (fun h1 => ?_) (fun h1 => ?_)
  · refine v_iconst (v := 0) C dX3_isPoster_19 (by decide) ?_
    exact ret _ _ _ _ dX3_isPoster_20 (by decide) ⟨bI_f (isN_f1 h1), rfl⟩
  · refine v_iload_n C dX3_isPoster_4 rfl rfl ?_
    refine v_aload_n C dX3_isPoster_5 rfl rfl ?_
    refine v_get C inG3 rfl 1 (by decide) (tg1 67 rfl rfl) rfl cx_T rfl dX3_isPoster_6 ?_
    refine v_callVi (n := 0) (as := []) C (c_lsize _ Z 32 37 g cx_L2) (gv (tg1 97 rfl rfl) (tg1 98 rfl rfl) (tg1 99 rfl rfl) (tg1 4 rfl rfl) (tg1 100 rfl rfl)) (by decide +kernel) ⟨Nat.le_of_ble_eq_true rfl, Nat.le_of_ble_eq_true rfl⟩ rfl cx_L2 rfl rfl (Nat.le_of_ble_eq_true rfl) dX3_isPoster_9 ⟨Nat.le_of_ble_eq_true rfl, Nat.le_of_ble_eq_true rfl⟩ (fun r9 g9 hp9 => ?_)
    obtain ⟨rfl, hg9⟩ := hp9
    rw [hg9]
    refine v_topi (y := nI n) hn ?_
    refine v_icmp_ge (tgt := 19) C dX3_isPoster_12 (by decide) (fun h12 => ?_) (fun h12 => ?_)
    · refine v_iconst (v := 0) C dX3_isPoster_19 (by decide) ?_
      exact ret _ _ _ _ dX3_isPoster_20 (by decide) ⟨bI_f (isN_f2 (by omega) h12), rfl⟩
    · refine v_iconst (v := 1) C dX3_isPoster_15 (by decide) ?_
      refine v_goto (tgt := 20) C dX3_isPoster_16 (by decide) ?_
      exact ret _ _ _ _ dX3_isPoster_20 (by decide) ⟨bI_t (isN_tt (by omega) h1 h12), rfl⟩
set_option maxRecDepth 100000 in
theorem c_cisLetter (l : Launch) (Z : Zc) (f : Int32) (g : MG) : MI l yX3_isLetter cX3_isLetter 1 (some .boolean) (rmz 0 0 0 0) Z [.int f] g (fun r g' => r = bI (isN 10 f) ∧ g' = g) := by
  refine ent_z (own := RX3) (lo := [some (.int f)]) (by decide) rfl (by simp [lg_sl, Value.category]) rfl (fun P hl C ret => ?_)
  refine v_iload_n C dX3_isLetter_0 rfl rfl ?_
  refine v_if_lt (tgt := 14) C dX3_isLetter_1 (by decide) (fun h1 => ?_) (fun h1 => ?_)
  · refine v_iconst (v := 0) C dX3_isLetter_14 (by decide) ?_
    exact ret _ _ _ _ dX3_isLetter_15 (by decide) ⟨bI_f (isN_f1 h1), rfl⟩
  · refine v_iload_n C dX3_isLetter_4 rfl rfl ?_
    refine v_bipush (v := 10) C dX3_isLetter_5 (by decide) ?_
    refine v_icmp_ge (tgt := 14) C dX3_isLetter_7 (by decide) (fun h7 => ?_) (fun h7 => ?_)
    · refine v_iconst (v := 0) C dX3_isLetter_14 (by decide) ?_
      exact ret _ _ _ _ dX3_isLetter_15 (by decide) ⟨bI_f (isN_f2 (n := 10) (by omega) h7), rfl⟩
    · refine v_iconst (v := 1) C dX3_isLetter_10 (by decide) ?_
      refine v_goto (tgt := 15) C dX3_isLetter_11 (by decide) ?_
      exact ret _ _ _ _ dX3_isLetter_15 (by decide) ⟨bI_t (isN_tt (n := 10) (by omega) h1 h7), rfl⟩
set_option maxRecDepth 100000 in
theorem c_cisTown (l : Launch) (Z : Zc) (f : Int32) (g : MG) : MI l yX3_isTown cX3_isTown 1 (some .boolean) (rmz 0 0 0 0) Z [.int f] g (fun r g' => r = bI (isN 4 f) ∧ g' = g) := by
  refine ent_z (own := RX3) (lo := [some (.int f)]) (by decide) rfl (by simp [lg_sl, Value.category]) rfl (fun P hl C ret => ?_)
  refine v_iload_n C dX3_isTown_0 rfl rfl ?_
  refine v_if_lt (tgt := 13) C dX3_isTown_1 (by decide) (fun h1 => ?_) (fun h1 => ?_)
  · refine v_iconst (v := 0) C dX3_isTown_13 (by decide) ?_
    exact ret _ _ _ _ dX3_isTown_14 (by decide) ⟨bI_f (isN_f1 h1), rfl⟩
  · refine v_iload_n C dX3_isTown_4 rfl rfl ?_
    refine v_iconst (v := 4) C dX3_isTown_5 (by decide) ?_
    refine v_icmp_ge (tgt := 13) C dX3_isTown_6 (by decide) (fun h6 => ?_) (fun h6 => ?_)
    · refine v_iconst (v := 0) C dX3_isTown_13 (by decide) ?_
      exact ret _ _ _ _ dX3_isTown_14 (by decide) ⟨bI_f (isN_f2 (n := 4) (by omega) h6), rfl⟩
    · refine v_iconst (v := 1) C dX3_isTown_9 (by decide) ?_
      refine v_goto (tgt := 14) C dX3_isTown_10 (by decide) ?_
      exact ret _ _ _ _ dX3_isTown_14 (by decide) ⟨bI_t (isN_tt (n := 4) (by omega) h1 h6), rfl⟩
def fwr (a b : Int32) : Bool := decide (¬ a = -1) && (decide (b = -1) || decide (a < b))
theorem lt_le {a b : Int32} : ¬ b ≤ a ↔ a < b := by rw [i_le, i_lt]; omega
set_option maxRecDepth 100000 in
theorem c_cmixed (l : Launch) (Z : Zc) (d : Int64) (x : Int32) (g : MG) : ML l yX3_mixed cX3_mixed 3 (rmz 0 0 0 0) Z [.long d, .int x] g (fun r g' => r = d * 31 + x.toInt64 ∧ g' = g) := by
  refine ent_l (own := RX3) (lo := [some (.long d), none, some (.int x)]) (by decide) rfl (by simp [lg_sl, Value.category]) rfl (fun P hl C ret => ?_)
  refine v_lload_n C dX3_mixed_0 rfl rfl ?_
  refine v_ldc2 (v := 31) C (tg2 143 rfl rfl) dX3_mixed_1 ?_
  refine v_lmul C dX3_mixed_4 ?_
  refine v_iload_n C dX3_mixed_5 rfl rfl ?_
  refine v_i2l C dX3_mixed_6 ?_
  refine v_ladd C dX3_mixed_7 ?_
  exact ret _ _ _ _ dX3_mixed_8 ⟨rfl, rfl⟩
set_option maxRecDepth 100000 in
theorem c_cpostersSet (l : Launch) (Z : Zc) (n : Nat) (g : MG) (hn : g 32 2 = nI n) (h6 : n ≤ 6) : MI l yX3_postersSet cX3_postersSet 3 (some .int) (rmz 3 70 0 0) Z [.ref (Z.ad 30)] g (fun r g' => r = sumI (fun p => if g (100 + 10 * p) 3 = 0 then 0 else 1) n ∧ g' = g) := by
  refine ent_i (own := RX3) (lo := [some (.ref (Z.ad 30)), none, none]) (by decide) rfl (by simp [lg_sl, Value.category]) rfl (fun P hl C ret => ?_)
  have loop : ∀ (m : Nat) (i : Nat), n - i < m → i ≤ n → V P (rmz 3 70 0 0) Z [some (.ref (Z.ad 30)), some (.int (sumI (fun p => if g (100 + 10 * p) 3 = 0 then 0 else 1) i)), some (.int (nI i))] 4 [] g 0 0 := by
    intro m
    induction m with
    | zero => intro i hm hk; exact absurd hm (Nat.not_lt_zero _)
    | succ m ih =>
      intro i hm hk
      refine v_iload_n C dX3_postersSet_4 rfl rfl ?_
      refine v_aload_n C dX3_postersSet_5 rfl rfl ?_
      refine v_get C inG3 rfl 1 (by decide) (tg1 67 rfl rfl) rfl cx_T rfl dX3_postersSet_6 ?_
      refine v_callVi (n := 0) (as := []) C (c_lsize _ Z 32 37 g cx_L2) (gv (tg1 97 rfl rfl) (tg1 98 rfl rfl) (tg1 99 rfl rfl) (tg1 4 rfl rfl) (tg1 100 rfl rfl)) (by decide +kernel) ⟨Nat.le_of_ble_eq_true rfl, Nat.le_of_ble_eq_true rfl⟩ rfl cx_L2 rfl rfl (Nat.le_of_ble_eq_true rfl) dX3_postersSet_9 ⟨Nat.le_of_ble_eq_true rfl, Nat.le_of_ble_eq_true rfl⟩ (fun r9 g9 hp9 => ?_)
      obtain ⟨rfl, hg9⟩ := hp9
      rw [hg9]
      refine v_topi (y := nI n) hn ?_
      refine v_icmp_ge (tgt := 41) C dX3_postersSet_12 (by decide) (fun h12 => ?_) (fun h12 => ?_)
      · have hkn : i = n := Nat.le_antisymm hk ((nI_leI (by omega) (by omega)).mp h12)
        subst hkn
        refine v_iload_n C dX3_postersSet_41 rfl rfl ?_
        exact ret _ _ _ _ dX3_postersSet_42 ⟨rfl, rfl⟩
      · have hkn : i < n := Nat.lt_of_not_le fun z => h12 ((nI_leI (by omega) (by omega)).mpr z)
        have hP := PsP.mk hn hkn h6
        refine v_aload_n C dX3_postersSet_15 rfl rfl ?_
        refine v_get C inG3 rfl 1 (by decide) (tg1 67 rfl rfl) rfl cx_T rfl dX3_postersSet_16 ?_
        refine v_iload_n C dX3_postersSet_19 rfl rfl ?_
        refine v_callVq (n := 1) (as := [.int (nI i)]) C (c_lget _ Z 32 37 n i g cx_L2 hn hkn (by omega) (fun j => Z.ad (100 + 10 * j)) (cxE2 hn)) (gv (tg1 169 rfl rfl) (tg1 170 rfl rfl) (tg1 171 rfl rfl) (tg1 4 rfl rfl) (tg1 172 rfl rfl)) (by decide +kernel) ⟨Nat.le_of_ble_eq_true rfl, Nat.le_of_ble_eq_true rfl⟩ rfl cx_L2 rfl rfl (Nat.le_of_ble_eq_true rfl) dX3_postersSet_20 ⟨Nat.le_of_ble_eq_true rfl, Nat.le_of_ble_eq_true rfl⟩ (fun r20 g20 hp20 => ?_)
        obtain ⟨rfl, hg20⟩ := hp20
        rw [hg20]
        refine v_st (st' := [.ref (Z.ad (100 + 10 * i))]) rfl ?_
        refine v_cast C rfl (tg1 183 rfl rfl) (cxP hP) dX3_postersSet_23 ?_
        refine v_get C inG2 rfl 3 (by decide) (tg3 96 rfl rfl) rfl (cxP hP) rfl dX3_postersSet_26 ?_
        refine v_if_eq (tgt := 35) C dX3_postersSet_29 (by decide) (fun h29 => ?_) (fun h29 => ?_)
        · refine v_lo (lo' := [some (.ref (Z.ad 30)), some (.int (sumI (fun p => if g (100 + 10 * p) 3 = 0 then 0 else 1) (i + 1))), some (.int (nI i))]) (by rw [sumI, if_pos h29, Int32.add_zero]) ?_
          refine v_iinc (lo' := [some (.ref (Z.ad 30)), some (.int (sumI (fun p => if g (100 + 10 * p) 3 = 0 then 0 else 1) (i + 1))), some (.int ((nI i) + 1))]) C dX3_postersSet_35 rfl rfl rfl rfl ?_
          refine v_lo (lo' := [some (.ref (Z.ad 30)), some (.int (sumI (fun p => if g (100 + 10 * p) 3 = 0 then 0 else 1) (i + 1))), some (.int (nI (i + 1)))]) (by rw [← nI_1 i]) ?_
          refine v_goto (tgt := 4) C dX3_postersSet_38 (by decide) ?_
          exact ih (i + 1) (by omega) (by omega)
        · refine v_iinc (lo' := [some (.ref (Z.ad 30)), some (.int ((sumI (fun p => if g (100 + 10 * p) 3 = 0 then 0 else 1) i) + 1)), some (.int (nI i))]) C dX3_postersSet_32 rfl rfl rfl rfl ?_
          refine v_lo (lo' := [some (.ref (Z.ad 30)), some (.int (sumI (fun p => if g (100 + 10 * p) 3 = 0 then 0 else 1) (i + 1))), some (.int (nI i))]) (by rw [sumI, if_neg h29]) ?_
          refine v_iinc (lo' := [some (.ref (Z.ad 30)), some (.int (sumI (fun p => if g (100 + 10 * p) 3 = 0 then 0 else 1) (i + 1))), some (.int ((nI i) + 1))]) C dX3_postersSet_35 rfl rfl rfl rfl ?_
          refine v_lo (lo' := [some (.ref (Z.ad 30)), some (.int (sumI (fun p => if g (100 + 10 * p) 3 = 0 then 0 else 1) (i + 1))), some (.int (nI (i + 1)))]) (by rw [← nI_1 i]) ?_
          refine v_goto (tgt := 4) C dX3_postersSet_38 (by decide) ?_
          exact ih (i + 1) (by omega) (by omega)
  refine v_iconst (v := 0) C dX3_postersSet_0 (by decide) ?_
  refine v_topi (y := sumI (fun p => if g (100 + 10 * p) 3 = 0 then 0 else 1) 0) rfl ?_
  refine v_istore_n (lo' := [some (.ref (Z.ad 30)), some (.int (sumI (fun p => if g (100 + 10 * p) 3 = 0 then 0 else 1) 0)), none]) C dX3_postersSet_1 rfl (Nat.le_of_ble_eq_true rfl) rfl rfl ?_
  refine v_iconst (v := 0) C dX3_postersSet_2 (by decide) ?_
  refine v_topi (y := nI 0) rfl ?_
  refine v_istore_n (lo' := [some (.ref (Z.ad 30)), some (.int (sumI (fun p => if g (100 + 10 * p) 3 = 0 then 0 else 1) 0)), some (.int (nI 0))]) C dX3_postersSet_3 rfl (Nat.le_of_ble_eq_true rfl) rfl rfl ?_
  exact loop (n + 1) 0 (by omega) (by omega)
set_option maxRecDepth 100000 in
theorem c_cblocksInAll (l : Launch) (Z : Zc) (n : Nat) (g : MG) (hn : g 31 2 = nI n) (h5 : n ≤ 5) : MI l yX3_blocksInAll cX3_blocksInAll 4 (some .int) (rmz 3 70 0 0) Z [.ref (Z.ad 30)] g (fun r g' => r = sumI (fun i => sumI (g (40 + 10 * i + 1)) 10) n ∧ g' = g) := by
  refine ent_i (own := RX3) (lo := [some (.ref (Z.ad 30)), none, none, none]) (by decide) rfl (by simp [lg_sl, Value.category]) rfl (fun P hl C ret => ?_)
  have loopC : ∀ (m : Nat) (c i : Nat), 10 - c < m → c ≤ 10 → i < n → (∀ v, V P (rmz 3 70 0 0) Z [some (.ref (Z.ad 30)), some (.int (sumI (fun i => sumI (g (40 + 10 * i + 1)) 10) (i + 1))), some (.int (nI (i + 1))), v] 4 [] g 0 0) → V P (rmz 3 70 0 0) Z [some (.ref (Z.ad 30)), some (.int (sumI (fun i => sumI (g (40 + 10 * i + 1)) 10) i + sumI (g (40 + 10 * i + 1)) c)), some (.int (nI i)), some (.int (nI c))] 17 [] g 0 0 := by
    intro m
    induction m with
    | zero => intro c i hm hc hkn K; exact absurd hm (Nat.not_lt_zero _)
    | succ m ih =>
      intro c i hm hc hkn K
      have hF := FnP.mk hn hkn h5
      refine v_iload_n C dX3_blocksInAll_17 rfl rfl ?_
      refine v_bipush (v := 10) C dX3_blocksInAll_18 (by decide) ?_
      refine v_icmp_ge (tgt := 48) C dX3_blocksInAll_20 (by decide) (fun h20 => ?_) (fun h20 => ?_)
      · have hcn : c = 10 := Nat.le_antisymm hc ((nI_leI (a := 10) (by decide) (by omega)).mp h20)
        subst hcn
        refine v_iinc (lo' := [some (.ref (Z.ad 30)), some (.int (sumI (fun i => sumI (g (40 + 10 * i + 1)) 10) i + sumI (g (40 + 10 * i + 1)) 10)), some (.int ((nI i) + 1)), some (.int (nI 10))]) C dX3_blocksInAll_48 rfl rfl rfl rfl ?_
        refine v_lo (lo' := [some (.ref (Z.ad 30)), some (.int (sumI (fun i => sumI (g (40 + 10 * i + 1)) 10) (i + 1))), some (.int ((nI i) + 1)), some (.int (nI 10))]) rfl ?_
        refine v_lo (lo' := [some (.ref (Z.ad 30)), some (.int (sumI (fun i => sumI (g (40 + 10 * i + 1)) 10) (i + 1))), some (.int (nI (i + 1))), some (.int (nI 10))]) (by rw [← nI_1 i]) ?_
        refine v_goto (tgt := 4) C dX3_blocksInAll_51 (by decide) ?_
        exact K _
      · have hcn : c < 10 := Nat.lt_of_not_le fun z => h20 ((nI_leI (a := 10) (by decide) (by omega)).mpr z)
        refine v_iload_n C dX3_blocksInAll_23 rfl rfl ?_
        refine v_aload_n C dX3_blocksInAll_24 rfl rfl ?_
        refine v_get C inG3 rfl 0 (by decide) (tg1 66 rfl rfl) rfl cx_T rfl dX3_blocksInAll_25 ?_
        refine v_iload_n C dX3_blocksInAll_28 rfl rfl ?_
        refine v_callVq (n := 1) (as := [.int (nI i)]) C (c_lget _ Z 31 36 n i g cx_L1 hn hkn (by omega) (fun j => Z.ad (40 + 10 * j)) (cxE1 hn)) (gv (tg1 169 rfl rfl) (tg1 170 rfl rfl) (tg1 171 rfl rfl) (tg1 4 rfl rfl) (tg1 172 rfl rfl)) (by decide +kernel) ⟨Nat.le_of_ble_eq_true rfl, Nat.le_of_ble_eq_true rfl⟩ rfl cx_L1 rfl rfl (Nat.le_of_ble_eq_true rfl) dX3_blocksInAll_29 ⟨Nat.le_of_ble_eq_true rfl, Nat.le_of_ble_eq_true rfl⟩ (fun r29 g29 hp29 => ?_)
        obtain ⟨rfl, hg29⟩ := hp29
        rw [hg29]
        refine v_st (st' := [.ref (Z.ad (40 + 10 * i)), .int (sumI (fun i => sumI (g (40 + 10 * i + 1)) 10) i + sumI (g (40 + 10 * i + 1)) c)]) rfl ?_
        refine v_cast C rfl (tg1 200 rfl rfl) (cxF hF) dX3_blocksInAll_32 ?_
        refine v_get C inG0 rfl 2 (by decide) (tg5 48 rfl rfl) rfl (cxF hF) rfl dX3_blocksInAll_35 ?_
        refine v_iload_n C dX3_blocksInAll_38 rfl rfl ?_
        refine v_ialdN (a := c) C (cxFa 1 hF (by decide)) (by omega) dX3_blocksInAll_39 ?_
        refine v_iadd C dX3_blocksInAll_40 ?_
        refine v_topi (y := sumI (fun i => sumI (g (40 + 10 * i + 1)) 10) i + sumI (g (40 + 10 * i + 1)) (c + 1)) (by rw [sumI, Int32.add_assoc]) ?_
        refine v_istore_n (lo' := [some (.ref (Z.ad 30)), some (.int (sumI (fun i => sumI (g (40 + 10 * i + 1)) 10) i + sumI (g (40 + 10 * i + 1)) (c + 1))), some (.int (nI i)), some (.int (nI c))]) C dX3_blocksInAll_41 rfl (Nat.le_of_ble_eq_true rfl) rfl rfl ?_
        refine v_iinc (lo' := [some (.ref (Z.ad 30)), some (.int (sumI (fun i => sumI (g (40 + 10 * i + 1)) 10) i + sumI (g (40 + 10 * i + 1)) (c + 1))), some (.int (nI i)), some (.int ((nI c) + 1))]) C dX3_blocksInAll_42 rfl rfl rfl rfl ?_
        refine v_lo (lo' := [some (.ref (Z.ad 30)), some (.int (sumI (fun i => sumI (g (40 + 10 * i + 1)) 10) i + sumI (g (40 + 10 * i + 1)) (c + 1))), some (.int (nI i)), some (.int (nI (c + 1)))]) (by rw [← nI_1 c]) ?_
        refine v_goto (tgt := 17) C dX3_blocksInAll_45 (by decide) ?_
        exact ih (c + 1) i (by omega) (by omega) hkn K
  have loop : ∀ (m : Nat) (i : Nat) (v : Option Value), n - i < m → i ≤ n → V P (rmz 3 70 0 0) Z [some (.ref (Z.ad 30)), some (.int (sumI (fun i => sumI (g (40 + 10 * i + 1)) 10) i)), some (.int (nI i)), v] 4 [] g 0 0 := by
    intro m
    induction m with
    | zero => intro i v hm hk; exact absurd hm (Nat.not_lt_zero _)
    | succ m ih =>
      intro i v hm hk
      refine v_iload_n C dX3_blocksInAll_4 rfl rfl ?_
      refine v_aload_n C dX3_blocksInAll_5 rfl rfl ?_
      refine v_get C inG3 rfl 0 (by decide) (tg1 66 rfl rfl) rfl cx_T rfl dX3_blocksInAll_6 ?_
      refine v_callVi (n := 0) (as := []) C (c_lsize _ Z 31 36 g cx_L1) (gv (tg1 97 rfl rfl) (tg1 98 rfl rfl) (tg1 99 rfl rfl) (tg1 4 rfl rfl) (tg1 100 rfl rfl)) (by decide +kernel) ⟨Nat.le_of_ble_eq_true rfl, Nat.le_of_ble_eq_true rfl⟩ rfl cx_L1 rfl rfl (Nat.le_of_ble_eq_true rfl) dX3_blocksInAll_9 ⟨Nat.le_of_ble_eq_true rfl, Nat.le_of_ble_eq_true rfl⟩ (fun r9 g9 hp9 => ?_)
      obtain ⟨rfl, hg9⟩ := hp9
      rw [hg9]
      refine v_topi (y := nI n) hn ?_
      refine v_icmp_ge (tgt := 54) C dX3_blocksInAll_12 (by decide) (fun h12 => ?_) (fun h12 => ?_)
      · have hkn : i = n := Nat.le_antisymm hk ((nI_leI (by omega) (by omega)).mp h12)
        subst hkn
        refine v_iload_n C dX3_blocksInAll_54 rfl rfl ?_
        exact ret _ _ _ _ dX3_blocksInAll_55 ⟨rfl, rfl⟩
      · have hkn : i < n := Nat.lt_of_not_le fun z => h12 ((nI_leI (by omega) (by omega)).mpr z)
        refine v_iconst (v := 0) C dX3_blocksInAll_15 (by decide) ?_
        refine v_topi (y := nI 0) rfl ?_
        refine v_istore_n (lo' := [some (.ref (Z.ad 30)), some (.int (sumI (fun i => sumI (g (40 + 10 * i + 1)) 10) i)), some (.int (nI i)), some (.int (nI 0))]) C dX3_blocksInAll_16 rfl (Nat.le_of_ble_eq_true rfl) rfl rfl ?_
        refine v_lo (lo' := [some (.ref (Z.ad 30)), some (.int (sumI (fun i => sumI (g (40 + 10 * i + 1)) 10) i + sumI (g (40 + 10 * i + 1)) 0)), some (.int (nI i)), some (.int (nI 0))]) (by rw [sumI, Int32.add_zero]) ?_
        exact loopC 11 0 i (by omega) (by omega) hkn (fun v => ih (i + 1) v (by omega) (by omega))
  refine v_iconst (v := 0) C dX3_blocksInAll_0 (by decide) ?_
  refine v_topi (y := sumI (fun i => sumI (g (40 + 10 * i + 1)) 10) 0) rfl ?_
  refine v_istore_n (lo' := [some (.ref (Z.ad 30)), some (.int (sumI (fun i => sumI (g (40 + 10 * i + 1)) 10) 0)), none, none]) C dX3_blocksInAll_1 rfl (Nat.le_of_ble_eq_true rfl) rfl rfl ?_
  refine v_iconst (v := 0) C dX3_blocksInAll_2 (by decide) ?_
  refine v_topi (y := nI 0) rfl ?_
  refine v_istore_n (lo' := [some (.ref (Z.ad 30)), some (.int (sumI (fun i => sumI (g (40 + 10 * i + 1)) 10) 0)), some (.int (nI 0)), none]) C dX3_blocksInAll_3 rfl (Nat.le_of_ble_eq_true rfl) rfl rfl ?_
  exact loop (n + 1) 0 none (by omega) (by omega)
set_option maxRecDepth 100000 in
theorem c_cfreeInAll (l : Launch) (Z : Zc) (n : Nat) (g : MG) (hn : g 31 2 = nI n) (h5 : n ≤ 5) : MI l yX3_freeInAll cX3_freeInAll 4 (some .int) (rmz 3 70 0 0) Z [.ref (Z.ad 30)] g (fun r g' => r = sumI (fun i => sumI (g (40 + 10 * i + 2)) 10) n ∧ g' = g) := by
  refine ent_i (own := RX3) (lo := [some (.ref (Z.ad 30)), none, none, none]) (by decide) rfl (by simp [lg_sl, Value.category]) rfl (fun P hl C ret => ?_)
  have loopC : ∀ (m : Nat) (c i : Nat), 10 - c < m → c ≤ 10 → i < n → (∀ v, V P (rmz 3 70 0 0) Z [some (.ref (Z.ad 30)), some (.int (sumI (fun i => sumI (g (40 + 10 * i + 2)) 10) (i + 1))), some (.int (nI (i + 1))), v] 4 [] g 0 0) → V P (rmz 3 70 0 0) Z [some (.ref (Z.ad 30)), some (.int (sumI (fun i => sumI (g (40 + 10 * i + 2)) 10) i + sumI (g (40 + 10 * i + 2)) c)), some (.int (nI i)), some (.int (nI c))] 17 [] g 0 0 := by
    intro m
    induction m with
    | zero => intro c i hm hc hkn K; exact absurd hm (Nat.not_lt_zero _)
    | succ m ih =>
      intro c i hm hc hkn K
      have hF := FnP.mk hn hkn h5
      refine v_iload_n C dX3_freeInAll_17 rfl rfl ?_
      refine v_bipush (v := 10) C dX3_freeInAll_18 (by decide) ?_
      refine v_icmp_ge (tgt := 48) C dX3_freeInAll_20 (by decide) (fun h20 => ?_) (fun h20 => ?_)
      · have hcn : c = 10 := Nat.le_antisymm hc ((nI_leI (a := 10) (by decide) (by omega)).mp h20)
        subst hcn
        refine v_iinc (lo' := [some (.ref (Z.ad 30)), some (.int (sumI (fun i => sumI (g (40 + 10 * i + 2)) 10) i + sumI (g (40 + 10 * i + 2)) 10)), some (.int ((nI i) + 1)), some (.int (nI 10))]) C dX3_freeInAll_48 rfl rfl rfl rfl ?_
        refine v_lo (lo' := [some (.ref (Z.ad 30)), some (.int (sumI (fun i => sumI (g (40 + 10 * i + 2)) 10) (i + 1))), some (.int ((nI i) + 1)), some (.int (nI 10))]) rfl ?_
        refine v_lo (lo' := [some (.ref (Z.ad 30)), some (.int (sumI (fun i => sumI (g (40 + 10 * i + 2)) 10) (i + 1))), some (.int (nI (i + 1))), some (.int (nI 10))]) (by rw [← nI_1 i]) ?_
        refine v_goto (tgt := 4) C dX3_freeInAll_51 (by decide) ?_
        exact K _
      · have hcn : c < 10 := Nat.lt_of_not_le fun z => h20 ((nI_leI (a := 10) (by decide) (by omega)).mpr z)
        refine v_iload_n C dX3_freeInAll_23 rfl rfl ?_
        refine v_aload_n C dX3_freeInAll_24 rfl rfl ?_
        refine v_get C inG3 rfl 0 (by decide) (tg1 66 rfl rfl) rfl cx_T rfl dX3_freeInAll_25 ?_
        refine v_iload_n C dX3_freeInAll_28 rfl rfl ?_
        refine v_callVq (n := 1) (as := [.int (nI i)]) C (c_lget _ Z 31 36 n i g cx_L1 hn hkn (by omega) (fun j => Z.ad (40 + 10 * j)) (cxE1 hn)) (gv (tg1 169 rfl rfl) (tg1 170 rfl rfl) (tg1 171 rfl rfl) (tg1 4 rfl rfl) (tg1 172 rfl rfl)) (by decide +kernel) ⟨Nat.le_of_ble_eq_true rfl, Nat.le_of_ble_eq_true rfl⟩ rfl cx_L1 rfl rfl (Nat.le_of_ble_eq_true rfl) dX3_freeInAll_29 ⟨Nat.le_of_ble_eq_true rfl, Nat.le_of_ble_eq_true rfl⟩ (fun r29 g29 hp29 => ?_)
        obtain ⟨rfl, hg29⟩ := hp29
        rw [hg29]
        refine v_st (st' := [.ref (Z.ad (40 + 10 * i)), .int (sumI (fun i => sumI (g (40 + 10 * i + 2)) 10) i + sumI (g (40 + 10 * i + 2)) c)]) rfl ?_
        refine v_cast C rfl (tg1 200 rfl rfl) (cxF hF) dX3_freeInAll_32 ?_
        refine v_get C inG0 rfl 3 (by decide) (tg5 51 rfl rfl) rfl (cxF hF) rfl dX3_freeInAll_35 ?_
        refine v_iload_n C dX3_freeInAll_38 rfl rfl ?_
        refine v_ialdN (a := c) C (cxFa 2 hF (by decide)) (by omega) dX3_freeInAll_39 ?_
        refine v_iadd C dX3_freeInAll_40 ?_
        refine v_topi (y := sumI (fun i => sumI (g (40 + 10 * i + 2)) 10) i + sumI (g (40 + 10 * i + 2)) (c + 1)) (by rw [sumI, Int32.add_assoc]) ?_
        refine v_istore_n (lo' := [some (.ref (Z.ad 30)), some (.int (sumI (fun i => sumI (g (40 + 10 * i + 2)) 10) i + sumI (g (40 + 10 * i + 2)) (c + 1))), some (.int (nI i)), some (.int (nI c))]) C dX3_freeInAll_41 rfl (Nat.le_of_ble_eq_true rfl) rfl rfl ?_
        refine v_iinc (lo' := [some (.ref (Z.ad 30)), some (.int (sumI (fun i => sumI (g (40 + 10 * i + 2)) 10) i + sumI (g (40 + 10 * i + 2)) (c + 1))), some (.int (nI i)), some (.int ((nI c) + 1))]) C dX3_freeInAll_42 rfl rfl rfl rfl ?_
        refine v_lo (lo' := [some (.ref (Z.ad 30)), some (.int (sumI (fun i => sumI (g (40 + 10 * i + 2)) 10) i + sumI (g (40 + 10 * i + 2)) (c + 1))), some (.int (nI i)), some (.int (nI (c + 1)))]) (by rw [← nI_1 c]) ?_
        refine v_goto (tgt := 17) C dX3_freeInAll_45 (by decide) ?_
        exact ih (c + 1) i (by omega) (by omega) hkn K
  have loop : ∀ (m : Nat) (i : Nat) (v : Option Value), n - i < m → i ≤ n → V P (rmz 3 70 0 0) Z [some (.ref (Z.ad 30)), some (.int (sumI (fun i => sumI (g (40 + 10 * i + 2)) 10) i)), some (.int (nI i)), v] 4 [] g 0 0 := by
    intro m
    induction m with
    | zero => intro i v hm hk; exact absurd hm (Nat.not_lt_zero _)
    | succ m ih =>
      intro i v hm hk
      refine v_iload_n C dX3_freeInAll_4 rfl rfl ?_
      refine v_aload_n C dX3_freeInAll_5 rfl rfl ?_
      refine v_get C inG3 rfl 0 (by decide) (tg1 66 rfl rfl) rfl cx_T rfl dX3_freeInAll_6 ?_
      refine v_callVi (n := 0) (as := []) C (c_lsize _ Z 31 36 g cx_L1) (gv (tg1 97 rfl rfl) (tg1 98 rfl rfl) (tg1 99 rfl rfl) (tg1 4 rfl rfl) (tg1 100 rfl rfl)) (by decide +kernel) ⟨Nat.le_of_ble_eq_true rfl, Nat.le_of_ble_eq_true rfl⟩ rfl cx_L1 rfl rfl (Nat.le_of_ble_eq_true rfl) dX3_freeInAll_9 ⟨Nat.le_of_ble_eq_true rfl, Nat.le_of_ble_eq_true rfl⟩ (fun r9 g9 hp9 => ?_)
      obtain ⟨rfl, hg9⟩ := hp9
      rw [hg9]
      refine v_topi (y := nI n) hn ?_
      refine v_icmp_ge (tgt := 54) C dX3_freeInAll_12 (by decide) (fun h12 => ?_) (fun h12 => ?_)
      · have hkn : i = n := Nat.le_antisymm hk ((nI_leI (by omega) (by omega)).mp h12)
        subst hkn
        refine v_iload_n C dX3_freeInAll_54 rfl rfl ?_
        exact ret _ _ _ _ dX3_freeInAll_55 ⟨rfl, rfl⟩
      · have hkn : i < n := Nat.lt_of_not_le fun z => h12 ((nI_leI (by omega) (by omega)).mpr z)
        refine v_iconst (v := 0) C dX3_freeInAll_15 (by decide) ?_
        refine v_topi (y := nI 0) rfl ?_
        refine v_istore_n (lo' := [some (.ref (Z.ad 30)), some (.int (sumI (fun i => sumI (g (40 + 10 * i + 2)) 10) i)), some (.int (nI i)), some (.int (nI 0))]) C dX3_freeInAll_16 rfl (Nat.le_of_ble_eq_true rfl) rfl rfl ?_
        refine v_lo (lo' := [some (.ref (Z.ad 30)), some (.int (sumI (fun i => sumI (g (40 + 10 * i + 2)) 10) i + sumI (g (40 + 10 * i + 2)) 0)), some (.int (nI i)), some (.int (nI 0))]) (by rw [sumI, Int32.add_zero]) ?_
        exact loopC 11 0 i (by omega) (by omega) hkn (fun v => ih (i + 1) v (by omega) (by omega))
  refine v_iconst (v := 0) C dX3_freeInAll_0 (by decide) ?_
  refine v_topi (y := sumI (fun i => sumI (g (40 + 10 * i + 2)) 10) 0) rfl ?_
  refine v_istore_n (lo' := [some (.ref (Z.ad 30)), some (.int (sumI (fun i => sumI (g (40 + 10 * i + 2)) 10) 0)), none, none]) C dX3_freeInAll_1 rfl (Nat.le_of_ble_eq_true rfl) rfl rfl ?_
  refine v_iconst (v := 0) C dX3_freeInAll_2 (by decide) ?_
  refine v_topi (y := nI 0) rfl ?_
  refine v_istore_n (lo' := [some (.ref (Z.ad 30)), some (.int (sumI (fun i => sumI (g (40 + 10 * i + 2)) 10) 0)), some (.int (nI 0)), none]) C dX3_freeInAll_3 rfl (Nat.le_of_ble_eq_true rfl) rfl rfl ?_
  exact loop (n + 1) 0 none (by omega) (by omega)
def lfG (g : MG) (n : Nat) : MG := fun k => if 40 ≤ k ∧ k < 40 + 10 * n ∧ k % 10 = 4 then (fun j => if j < 10 then g (k - 2) j else g k j) else g k
theorem lfG_0 (g : MG) : lfG g 0 = g := by funext k; unfold lfG; rw [if_neg (by omega)]
theorem va_cpy_10 (a b : Nat → Int32) : va_cpy a b 0 0 10 = fun j => if j < 10 then a j else b j := by
  funext j
  unfold va_cpy
  by_cases h : j < 10
  · simp [h]
  · simp [h]
theorem lfG_s (g : MG) (i : Nat) : rwr (lfG g i) (40 + 10 * i + 4) (va_cpy (lfG g i (40 + 10 * i + 2)) (lfG g i (40 + 10 * i + 4)) 0 0 10) = lfG g (i + 1) := by
  funext k
  rw [va_cpy_10]
  unfold rwr
  by_cases h : k = 40 + 10 * i + 4
  · rw [if_pos h]
    unfold lfG
    rw [if_neg (by omega), if_neg (by omega), if_pos (by omega), h]
    rfl
  · rw [if_neg h]
    unfold lfG
    by_cases h2 : 40 ≤ k ∧ k < 40 + 10 * i ∧ k % 10 = 4
    · rw [if_pos h2, if_pos (by omega)]
    · rw [if_neg h2, if_neg (by omega)]
theorem lfG_r {g : MG} {n k : Nat} (h : k % 10 ≠ 4 ∨ k < 40 ∨ 40 + 10 * n ≤ k) : lfG g n k = g k := by unfold lfG; rw [if_neg (by omega)]
set_option maxRecDepth 100000 in
theorem c_leaveAllFree (l : Launch) (Z : Zc) (n : Nat) (g : MG) (hn : g 31 2 = nI n) (h5 : n ≤ 5) : MV l yX3_leaveAllFree cX3_leaveAllFree 2 (rmz 3 70 0 0) Z [.ref (Z.ad 30)] g (fun g' => g' = lfG g n) := by
  refine ent_v (own := RX3) (lo := [some (.ref (Z.ad 30)), none]) (by decide) rfl (by simp [lg_sl, Value.category]) rfl (fun P hl C ret => ?_)
  have loop : ∀ (m : Nat) (i : Nat), n - i < m → i ≤ n → V P (rmz 3 70 0 0) Z [some (.ref (Z.ad 30)), some (.int (nI i))] 2 [] (lfG g i) 0 0 := by
    intro m
    induction m with
    | zero => intro i hm hk; exact absurd hm (Nat.not_lt_zero _)
    | succ m ih =>
      intro i hm hk
      have hn1 : lfG g i 31 2 = nI n := by rw [lfG_r (by omega)]; exact hn
      refine v_iload_n C dX3_leaveAllFree_2 rfl rfl ?_
      refine v_aload_n C dX3_leaveAllFree_3 rfl rfl ?_
      refine v_get C inG3 rfl 0 (by decide) (tg1 66 rfl rfl) rfl cx_T rfl dX3_leaveAllFree_4 ?_
      refine v_callVi (n := 0) (as := []) C (c_lsize _ Z 31 36 (lfG g i) cx_L1) (gv (tg1 97 rfl rfl) (tg1 98 rfl rfl) (tg1 99 rfl rfl) (tg1 4 rfl rfl) (tg1 100 rfl rfl)) (by decide +kernel) ⟨Nat.le_of_ble_eq_true rfl, Nat.le_of_ble_eq_true rfl⟩ rfl cx_L1 rfl rfl (Nat.le_of_ble_eq_true rfl) dX3_leaveAllFree_7 ⟨Nat.le_of_ble_eq_true rfl, Nat.le_of_ble_eq_true rfl⟩ (fun r7 g7 hp7 => ?_)
      obtain ⟨rfl, hg7⟩ := hp7
      rw [hg7]
      refine v_topi (y := nI n) hn1 ?_
      refine v_icmp_ge (tgt := 33) C dX3_leaveAllFree_10 (by decide) (fun h10 => ?_) (fun h10 => ?_)
      · have hkn : i = n := Nat.le_antisymm hk ((nI_leI (by omega) (by omega)).mp h10)
        subst hkn
        exact ret _ _ _ dX3_leaveAllFree_33 rfl
      · have hkn : i < n := Nat.lt_of_not_le fun z => h10 ((nI_leI (by omega) (by omega)).mpr z)
        have hF := FnP.mk hn1 hkn h5
        refine v_aload_n C dX3_leaveAllFree_13 rfl rfl ?_
        refine v_get C inG3 rfl 0 (by decide) (tg1 66 rfl rfl) rfl cx_T rfl dX3_leaveAllFree_14 ?_
        refine v_iload_n C dX3_leaveAllFree_17 rfl rfl ?_
        refine v_callVq (n := 1) (as := [.int (nI i)]) C (c_lget _ Z 31 36 n i (lfG g i) cx_L1 hn1 hkn (by omega) (fun j => Z.ad (40 + 10 * j)) (cxE1 hn1)) (gv (tg1 169 rfl rfl) (tg1 170 rfl rfl) (tg1 171 rfl rfl) (tg1 4 rfl rfl) (tg1 172 rfl rfl)) (by decide +kernel) ⟨Nat.le_of_ble_eq_true rfl, Nat.le_of_ble_eq_true rfl⟩ rfl cx_L1 rfl rfl (Nat.le_of_ble_eq_true rfl) dX3_leaveAllFree_18 ⟨Nat.le_of_ble_eq_true rfl, Nat.le_of_ble_eq_true rfl⟩ (fun r18 g18 hp18 => ?_)
        obtain ⟨rfl, hg18⟩ := hp18
        rw [hg18]
        refine v_st (st' := [.ref (Z.ad (40 + 10 * i))]) rfl ?_
        refine v_cast C rfl (tg1 200 rfl rfl) (cxF hF) dX3_leaveAllFree_21 ?_
        refine v_callVv (n := 0) (as := []) C (c_leaveFree _ Z i (lfG g i) hF) (gv (tg1 201 rfl rfl) (tg1 202 rfl rfl) (tg1 203 rfl rfl) (tg1 12 rfl rfl) (tg1 204 rfl rfl)) (by decide +kernel) ⟨Nat.le_of_ble_eq_true rfl, Nat.le_of_ble_eq_true rfl⟩ rfl (cxF hF) rfl rfl (Nat.le_of_ble_eq_true rfl) dX3_leaveAllFree_24 ⟨Nat.le_of_ble_eq_true rfl, Nat.le_of_ble_eq_true rfl⟩ (fun g24 hp24 => ?_)
        have hg24 := hp24.trans (lfG_s g i)
        rw [hg24]
        refine v_iinc (lo' := [some (.ref (Z.ad 30)), some (.int ((nI i) + 1))]) C dX3_leaveAllFree_27 rfl rfl rfl rfl ?_
        refine v_lo (lo' := [some (.ref (Z.ad 30)), some (.int (nI (i + 1)))]) (by rw [← nI_1 i]) ?_
        refine v_goto (tgt := 2) C dX3_leaveAllFree_30 (by decide) ?_
        exact ih (i + 1) (by omega) (by omega)
  refine v_iconst (v := 0) C dX3_leaveAllFree_0 (by decide) ?_
  refine v_topi (y := nI 0) rfl ?_
  refine v_istore_n (lo' := [some (.ref (Z.ad 30)), some (.int (nI 0))]) C dX3_leaveAllFree_1 rfl (Nat.le_of_ble_eq_true rfl) rfl rfl ?_
  refine v_g (lfG_0 g).symm ?_
  exact loop (n + 1) 0 (by omega) (by omega)
def cuW (b w : Int32) : Int32 := if b ≤ 0 then 400 else if 400 - w ≤ 0 then 0 else (400 - w + b - 1) / b
theorem not_le0 {b : Int32} (h : 0 < b) : ¬ b ≤ 0 := by rw [i_lt] at h; rw [i_le]; omega
theorem le0 {b : Int32} (h : ¬ 0 < b) : b ≤ 0 := by rw [i_lt] at h; rw [i_le]; omega
theorem ne0 {b : Int32} (h : 0 < b) : ¬ b = 0 := by rintro rfl; exact absurd h (by decide)
set_option maxRecDepth 100000 in
theorem c_copiesUntilWorn (l : Launch) (Z : Zc) (p m i c : Nat) (g : MG) (hP : PsP g p) (hm : g (100 + 10 * p + 1) 2 = nI m) (h4 : m ≤ 4) (hF : FnP g i) (hc : c < 10) (hfo : ∀ q, q < m → ∃ i, FnP g i ∧ g (200 + 10 * (4 * p + q)) 3 = nI i) : MI l yX3_copiesUntilWorn cX3_copiesUntilWorn 5 (some .int) (rmz 4 100 0 0) Z [.ref (Z.ad (100 + 10 * p)), .ref (Z.ad (40 + 10 * i)), .int (nI c)] g (fun r g' => r = cuW (sumI (fun q => if g (200 + 10 * (4 * p + q)) 3 = nI i then g (200 + 10 * (4 * p + q) + 2) c else 0) m) (g (40 + 10 * i + 3) c) ∧ g' = g) := by
  refine ent_i (own := RX3) (lo := [some (.ref (Z.ad (100 + 10 * p))), some (.ref (Z.ad (40 + 10 * i))), some (.int (nI c)), none, none]) (by decide) rfl (by simp [lg_sl, Value.category]) rfl (fun P hl C ret => ?_)
  obtain ⟨b, hb⟩ : ∃ b, b = sumI (fun q => if g (200 + 10 * (4 * p + q)) 3 = nI i then g (200 + 10 * (4 * p + q) + 2) c else 0) m := ⟨_, rfl⟩
  refine v_aload_n C dX3_copiesUntilWorn_0 rfl rfl ?_
  refine v_aload_n C dX3_copiesUntilWorn_1 rfl rfl ?_
  refine v_iload_n C dX3_copiesUntilWorn_2 rfl rfl ?_
  refine v_callVi (n := 2) (as := [.ref (Z.ad (40 + 10 * i)), .int (nI c)]) C (c_blocksLaid _ Z p m i c g hP hm h4 hF hc hfo) (gv (tg2 125 rfl rfl) (tg2 126 rfl rfl) (tg2 127 rfl rfl) (tg1 20 rfl rfl) (tg2 128 rfl rfl)) (by decide +kernel) ⟨Nat.le_of_ble_eq_true rfl, Nat.le_of_ble_eq_true rfl⟩ rfl (cxP hP) rfl rfl (Nat.le_of_ble_eq_true rfl) dX3_copiesUntilWorn_3 ⟨Nat.le_of_ble_eq_true rfl, Nat.le_of_ble_eq_true rfl⟩ (fun r3 g3 hp3 => ?_)
  obtain ⟨rfl, hg3⟩ := hp3
  rw [hg3]
  refine v_topi (y := b) hb.symm ?_
  refine v_istore_n (lo' := [some (.ref (Z.ad (100 + 10 * p))), some (.ref (Z.ad (40 + 10 * i))), some (.int (nI c)), some (.int b), none]) C dX3_copiesUntilWorn_6 rfl (Nat.le_of_ble_eq_true rfl) rfl rfl ?_
  refine v_iload_n C dX3_copiesUntilWorn_7 rfl rfl ?_
  refine v_if_gt (tgt := 15) C dX3_copiesUntilWorn_8 (by decide) (fun h8 => ?_) (fun h8 => ?_)
  · refine v_sipush (v := 400) C dX3_copiesUntilWorn_15 (by decide) ?_
    refine v_aload_n C dX3_copiesUntilWorn_18 rfl rfl ?_
    refine v_get C inG0 rfl 4 (by decide) (tg5 54 rfl rfl) rfl (cxF hF) rfl dX3_copiesUntilWorn_19 ?_
    refine v_iload_n C dX3_copiesUntilWorn_22 rfl rfl ?_
    refine v_ialdN (a := c) C (cxFa 3 hF (by decide)) ⟨hc, by decide⟩ dX3_copiesUntilWorn_23 ?_
    refine v_isub C dX3_copiesUntilWorn_24 ?_
    refine v_istore (lo' := [some (.ref (Z.ad (100 + 10 * p))), some (.ref (Z.ad (40 + 10 * i))), some (.int (nI c)), some (.int b), some (.int (400 - (g (40 + 10 * i + 3) c)))]) C dX3_copiesUntilWorn_25 (Nat.le_of_ble_eq_true rfl) rfl rfl ?_
    refine v_iload C dX3_copiesUntilWorn_27 rfl ?_
    refine v_if_gt (tgt := 36) C dX3_copiesUntilWorn_29 (by decide) (fun h29 => ?_) (fun h29 => ?_)
    · refine v_iload C dX3_copiesUntilWorn_36 rfl ?_
      refine v_iload_n C dX3_copiesUntilWorn_38 rfl rfl ?_
      refine v_iadd C dX3_copiesUntilWorn_39 ?_
      refine v_iconst (v := 1) C dX3_copiesUntilWorn_40 (by decide) ?_
      refine v_isub C dX3_copiesUntilWorn_41 ?_
      refine v_iload_n C dX3_copiesUntilWorn_42 rfl rfl ?_
      refine v_idiv C dX3_copiesUntilWorn_43 (ne0 h8) ?_
      exact ret _ _ _ _ dX3_copiesUntilWorn_44 ⟨by rw [← hb]; unfold cuW; rw [if_neg (not_le0 h8), if_neg (not_le0 h29)], rfl⟩
    · refine v_iconst (v := 0) C dX3_copiesUntilWorn_32 (by decide) ?_
      refine v_goto (tgt := 44) C dX3_copiesUntilWorn_33 (by decide) ?_
      exact ret _ _ _ _ dX3_copiesUntilWorn_44 ⟨by rw [← hb]; unfold cuW; rw [if_neg (not_le0 h8), if_pos (le0 h29)], rfl⟩
  · refine v_sipush (v := 400) C dX3_copiesUntilWorn_11 (by decide) ?_
    exact ret _ _ _ _ dX3_copiesUntilWorn_14 ⟨by rw [← hb]; unfold cuW; rw [if_pos (le0 h8)], rfl⟩
def paL (g : MG) (p m t : Nat) : Int32 := mx0 (sumI (fun q => g (40 + 10 * iz (g (200 + 10 * (4 * p + q)) 3)) 1 * g (200 + 10 * (4 * p + q)) 1) m * g 34 t - sumI (fun q => g (200 + 10 * (4 * p + q)) 4) m * g 35 t)
set_option maxRecDepth 100000 in
theorem c_proofAsLaid (l : Launch) (Z : Zc) (p m t : Nat) (g : MG) (hP : PsP g p) (hm : g (100 + 10 * p + 1) 2 = nI m) (h4 : m ≤ 4) (hfo : ∀ q, q < m → ∃ i, FnP g i ∧ g (200 + 10 * (4 * p + q)) 3 = nI i) (ht : t < 4) (het : g (100 + 10 * p) 0 = nI t) : MI l yX3_proofAsLaid cX3_proofAsLaid 3 (some .int) (rmz 4 100 0 0) Z [.ref (Z.ad 30), .ref (Z.ad (100 + 10 * p))] g (fun r g' => r = paL g p m t ∧ g' = g) := by
  refine ent_i (own := RX3) (lo := [some (.ref (Z.ad 30)), some (.ref (Z.ad (100 + 10 * p))), none]) (by decide) rfl (by simp [lg_sl, Value.category]) rfl (fun P hl C ret => ?_)
  refine v_aload_n C dX3_proofAsLaid_0 rfl rfl ?_
  refine v_callVi (n := 0) (as := []) C (c_csize _ Z p m g hP hm h4 hfo) (gv (tg2 66 rfl rfl) (tg2 67 rfl rfl) (tg2 68 rfl rfl) (tg1 20 rfl rfl) (tg2 69 rfl rfl)) (by decide +kernel) ⟨Nat.le_of_ble_eq_true rfl, Nat.le_of_ble_eq_true rfl⟩ rfl (cxP hP) rfl rfl (Nat.le_of_ble_eq_true rfl) dX3_proofAsLaid_1 ⟨Nat.le_of_ble_eq_true rfl, Nat.le_of_ble_eq_true rfl⟩ (fun r1 g1 hp1 => ?_)
  obtain ⟨rfl, hg1⟩ := hp1
  rw [hg1]
  refine v_aload_n C dX3_proofAsLaid_4 rfl rfl ?_
  refine v_get C inG3 rfl 3 (by decide) (tg1 69 rfl rfl) rfl cx_T rfl dX3_proofAsLaid_5 ?_
  refine v_aload_n C dX3_proofAsLaid_8 rfl rfl ?_
  refine v_get C inG2 rfl 0 (by decide) (tg3 90 rfl rfl) rfl (cxP hP) rfl dX3_proofAsLaid_9 ?_
  refine v_topi (y := nI t) het ?_
  refine v_ialdN (a := t) C cx_Pa ⟨ht, by decide⟩ dX3_proofAsLaid_12 ?_
  refine v_imul C dX3_proofAsLaid_13 ?_
  refine v_aload_n C dX3_proofAsLaid_14 rfl rfl ?_
  refine v_callVi (n := 0) (as := []) C (c_cflaws _ Z p m g hP hm h4) (gv (tg2 58 rfl rfl) (tg2 59 rfl rfl) (tg2 60 rfl rfl) (tg1 20 rfl rfl) (tg2 61 rfl rfl)) (by decide +kernel) ⟨Nat.le_of_ble_eq_true rfl, Nat.le_of_ble_eq_true rfl⟩ rfl (cxP hP) rfl rfl (Nat.le_of_ble_eq_true rfl) dX3_proofAsLaid_15 ⟨Nat.le_of_ble_eq_true rfl, Nat.le_of_ble_eq_true rfl⟩ (fun r15 g15 hp15 => ?_)
  obtain ⟨rfl, hg15⟩ := hp15
  rw [hg15]
  refine v_aload_n C dX3_proofAsLaid_18 rfl rfl ?_
  refine v_get C inG3 rfl 4 (by decide) (tg1 70 rfl rfl) rfl cx_T rfl dX3_proofAsLaid_19 ?_
  refine v_aload_n C dX3_proofAsLaid_22 rfl rfl ?_
  refine v_get C inG2 rfl 0 (by decide) (tg3 90 rfl rfl) rfl (cxP hP) rfl dX3_proofAsLaid_23 ?_
  refine v_topi (y := nI t) het ?_
  refine v_ialdN (a := t) C cx_Sr ⟨ht, by decide⟩ dX3_proofAsLaid_26 ?_
  refine v_imul C dX3_proofAsLaid_27 ?_
  refine v_isub C dX3_proofAsLaid_28 ?_
  refine v_istore_n (lo' := [some (.ref (Z.ad 30)), some (.ref (Z.ad (100 + 10 * p))), some (.int (((sumI (fun q => g (40 + 10 * iz (g (200 + 10 * (4 * p + q)) 3)) 1 * g (200 + 10 * (4 * p + q)) 1) m) * (g 34 t)) - ((sumI (fun q => g (200 + 10 * (4 * p + q)) 4) m) * (g 35 t))))]) C dX3_proofAsLaid_29 rfl (Nat.le_of_ble_eq_true rfl) rfl rfl ?_
  refine v_iload_n C dX3_proofAsLaid_30 rfl rfl ?_
  refine v_iconst (v := 0) C dX3_proofAsLaid_31 (by decide) ?_
  refine v_mmax C (tg2 74 rfl rfl) (tg2 75 rfl rfl) (tg1 14 rfl rfl) (tg2 76 rfl rfl) (Nat.le_of_ble_eq_true rfl) (Nat.le_of_ble_eq_true rfl) (Nat.le_of_ble_eq_true rfl) (Nat.le_of_ble_eq_true rfl) dX3_proofAsLaid_32 ?_
  exact ret _ _ _ _ dX3_proofAsLaid_35 ⟨mx0_r _, rfl⟩
