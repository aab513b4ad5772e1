/-! THE JDK: a list's reads, fill -/
set_option maxRecDepth 100000 in
theorem c_check3 (l : Launch) (Z : Zc) (i n : Nat) (g : MG) (hi : i < n) (hn : n < 1000) : MI l yJ3_checkIndex_8e157 cJ3_checkIndex_8e157 3 (some .int) (rmz 0 0 0 0) Z [.int (nI i), .int (nI n), .null] g (fun r g' => r = nI i ∧ g' = g) := by
  refine ent_i (own := RJ3) (lo := [some (.int (nI i)), some (.int (nI n)), some (.null)]) (by decide) rfl (by simp [lg_sl, Value.category]) rfl (fun P hl C ret => ?_)
  refine v_iload_n C dJ3_checkIndex_8e157_0 rfl rfl ?_
  refine v_if_lt (tgt := 9) C dJ3_checkIndex_8e157_1 (by decide) (fun h1 => ?_) (fun h1 => ?_)
  · exact absurd h1 (nI_pos (by omega))
  · refine v_iload_n C dJ3_checkIndex_8e157_4 rfl rfl ?_
    refine v_iload_n C dJ3_checkIndex_8e157_5 rfl rfl ?_
    refine v_icmp_lt (tgt := 16) C dJ3_checkIndex_8e157_6 (by decide) (fun h6 => ?_) (fun h6 => ?_)
    · refine v_iload_n C dJ3_checkIndex_8e157_16 rfl rfl ?_
      exact ret _ _ _ _ dJ3_checkIndex_8e157_17 ⟨rfl, rfl⟩
    · exact absurd (nI_lt hi (by omega)) h6
set_option maxRecDepth 100000 in
theorem c_check2 (l : Launch) (Z : Zc) (i n : Nat) (g : MG) (hi : i < n) (hn : n < 1000) : MI l yJ15_checkIndex_7cf53 cJ15_checkIndex_7cf53 2 (some .int) (rmz 1 22 0 0) Z [.int (nI i), .int (nI n)] g (fun r g' => r = nI i ∧ g' = g) := by
  refine ent_i (own := RJ15) (lo := [some (.int (nI i)), some (.int (nI n))]) (by decide) rfl (by simp [lg_sl, Value.category]) rfl (fun P hl C ret => ?_)
  refine v_iload_n C dJ15_checkIndex_7cf53_0 rfl rfl ?_
  refine v_iload_n C dJ15_checkIndex_7cf53_1 rfl rfl ?_
  refine v_null C dJ15_checkIndex_7cf53_2 ?_
  refine v_callSxi (n := 3) (as := [.int (nI i), .int (nI n), .null]) C (c_check3 _ Z i n g hi hn) (gs2 (tg1 176 rfl rfl) (tg1 177 rfl rfl) (tg1 18 rfl rfl) (tg1 178 rfl rfl)) (by decide +kernel) ⟨Nat.le_of_ble_eq_true rfl, Nat.le_of_ble_eq_true rfl⟩ rfl rfl (Nat.le_of_ble_eq_true rfl) dJ15_checkIndex_7cf53_3 ⟨Nat.le_of_ble_eq_true rfl, Nat.le_of_ble_eq_true rfl⟩ (fun r3 g3 hp3 => ?_)
  obtain ⟨rfl, hg3⟩ := hp3
  rw [hg3]
  exact ret _ _ _ _ dJ15_checkIndex_7cf53_6 ⟨rfl, rfl⟩
set_option maxRecDepth 100000 in
theorem c_lsize (l : Launch) (Z : Zc) (k e : Nat) (g : MG) (hk : cx Z.Y Z.ad Z.df g k = some (cLi Z.ad Z.df (g k) e)) : MI l yJx4a65c_size_8abf5 cJx4a65c_size_8abf5 1 (some .int) (rmz 0 0 0 0) Z [.ref (Z.ad k)] g (fun r g' => r = g k 2 ∧ g' = g) := by
  refine ent_i (own := RJx4a65c) (lo := [some (.ref (Z.ad k))]) (by decide) rfl (by simp [lg_sl, Value.category]) rfl (fun P hl C ret => ?_)
  refine v_aload_n C dJx4a65c_size_8abf5_0 rfl rfl ?_
  refine v_get C inGL rfl 2 (by decide) (tg1 52 rfl rfl) rfl hk rfl dJx4a65c_size_8abf5_1 ?_
  exact ret _ _ _ _ dJx4a65c_size_8abf5_4 ⟨rfl, rfl⟩
set_option maxRecDepth 100000 in
theorem c_lempty (l : Launch) (Z : Zc) (k e : Nat) (g : MG) (hk : cx Z.Y Z.ad Z.df g k = some (cLi Z.ad Z.df (g k) e)) : MI l yJx4a65c_isEmpty_aae02 cJx4a65c_isEmpty_aae02 1 (some .boolean) (rmz 0 0 0 0) Z [.ref (Z.ad k)] g (fun r g' => r = bI (decide (g k 2 = 0)) ∧ g' = g) := by
  refine ent_z (own := RJx4a65c) (lo := [some (.ref (Z.ad k))]) (by decide) rfl (by simp [lg_sl, Value.category]) rfl (fun P hl C ret => ?_)
  refine v_aload_n C dJx4a65c_isEmpty_aae02_0 rfl rfl ?_
  refine v_get C inGL rfl 2 (by decide) (tg1 52 rfl rfl) rfl hk rfl dJx4a65c_isEmpty_aae02_1 ?_
  refine v_if_ne (tgt := 11) C dJx4a65c_isEmpty_aae02_4 (by decide) (fun h4 => ?_) (fun h4 => ?_)
  · refine v_iconst (v := 0) C dJx4a65c_isEmpty_aae02_11 (by decide) ?_
    exact ret _ _ _ _ dJx4a65c_isEmpty_aae02_12 (by decide) ⟨by simp [bI, h4], rfl⟩
  · refine v_iconst (v := 1) C dJx4a65c_isEmpty_aae02_7 (by decide) ?_
    refine v_goto (tgt := 12) C dJx4a65c_isEmpty_aae02_8 (by decide) ?_
    exact ret _ _ _ _ dJx4a65c_isEmpty_aae02_12 (by decide) ⟨by simp [bI, h4], rfl⟩
theorem cEd_at {Y : Yc} {n i : Nat} {fa : Nat → Nat} (hi : i < n) (h10 : n ≤ 10) : cEd Y (nI n) fa = some (.inl (Y.2.1, 10, .inr (.inr (.inr (.inr (fun j => if j < n then some (fa j) else none)))))) := by
  unfold cEd
  rw [if_neg (nI_ne0 (by omega) (by omega)), iz_nI (by omega)]
set_option maxRecDepth 100000 in
theorem c_ledata (l : Launch) (Z : Zc) (k e n i : Nat) (g : MG) (hk : cx Z.Y Z.ad Z.df g k = some (cLi Z.ad Z.df (g k) e)) (hn : g k 2 = nI n) (hi : i < n) (h10 : n ≤ 10) (fa : Nat → Nat) (he : cx Z.Y Z.ad Z.df g e = cEd Z.Y (nI n) fa) : MR l yJx4a65c_elementData_915e3 cJx4a65c_elementData_915e3 2 (some (.object "java/lang/Object")) (rmz 0 0 0 0) Z [.ref (Z.ad k), .int (nI i)] g (fun r g' => r = some (fa i) ∧ g' = g) := by
  refine ent_q (own := RJx4a65c) (lo := [some (.ref (Z.ad k)), some (.int (nI i))]) (by decide) rfl (by simp [lg_sl, Value.category]) rfl (fun P hl C ret => ?_)
  refine v_aload_n C dJx4a65c_elementData_915e3_0 rfl rfl ?_
  refine v_get C inGL rfl 1 (by decide) (tg1 51 rfl rfl) rfl hk rfl dJx4a65c_elementData_915e3_1 ?_
  refine v_st (st' := [.ref (Z.ad e)]) (by rw [hn, if_neg (nI_ne0 (by omega) (by omega))]) ?_
  refine v_iload_n C dJx4a65c_elementData_915e3_4 rfl rfl ?_
  refine v_aald (a := i) C (he.trans (cEd_at hi h10)) (by omega) dJx4a65c_elementData_915e3_5 ?_
  exact ret _ _ (((fun j => if j < n then some (fa j) else none) i)) _ dJx4a65c_elementData_915e3_6 ⟨if_pos hi, rfl⟩
set_option maxRecDepth 100000 in
theorem c_lget (l : Launch) (Z : Zc) (k e n i : Nat) (g : MG) (hk : cx Z.Y Z.ad Z.df g k = some (cLi Z.ad Z.df (g k) e)) (hn : g k 2 = nI n) (hi : i < n) (h10 : n ≤ 10) (fa : Nat → Nat) (he : cx Z.Y Z.ad Z.df g e = cEd Z.Y (nI n) fa) : MR l yJx4a65c_get_915e3 cJx4a65c_get_915e3 2 (some (.object "java/lang/Object")) (rmz 2 43 0 0) Z [.ref (Z.ad k), .int (nI i)] g (fun r g' => r = some (fa i) ∧ g' = g) := by
  refine ent_q (own := RJx4a65c) (lo := [some (.ref (Z.ad k)), some (.int (nI i))]) (by decide) rfl (by simp [lg_sl, Value.category]) rfl (fun P hl C ret => ?_)
  refine v_iload_n C dJx4a65c_get_915e3_0 rfl rfl ?_
  refine v_aload_n C dJx4a65c_get_915e3_1 rfl rfl ?_
  refine v_get C inGL rfl 2 (by decide) (tg1 52 rfl rfl) rfl hk rfl dJx4a65c_get_915e3_2 ?_
  refine v_topi (y := nI n) hn ?_
  refine v_callSxi (n := 2) (as := [.int (nI i), .int (nI n)]) C (c_check2 _ Z i n g hi (by omega)) (gs2 (tg1 173 rfl rfl) (tg1 174 rfl rfl) (tg1 17 rfl rfl) (tg1 175 rfl rfl)) (by decide +kernel) ⟨Nat.le_of_ble_eq_true rfl, Nat.le_of_ble_eq_true rfl⟩ rfl rfl (Nat.le_of_ble_eq_true rfl) dJx4a65c_get_915e3_5 ⟨Nat.le_of_ble_eq_true rfl, Nat.le_of_ble_eq_true rfl⟩ (fun r5 g5 hp5 => ?_)
  obtain ⟨rfl, hg5⟩ := hp5
  rw [hg5]
  refine v_pop C dJx4a65c_get_915e3_8 rfl ?_
  refine v_aload_n C dJx4a65c_get_915e3_9 rfl rfl ?_
  refine v_iload_n C dJx4a65c_get_915e3_10 rfl rfl ?_
  refine v_callVq (n := 1) (as := [.int (nI i)]) C (c_ledata _ Z k e n i g hk hn hi h10 fa he) (gv (tg1 179 rfl rfl) (tg1 180 rfl rfl) (tg1 181 rfl rfl) (tg1 4 rfl rfl) (tg1 182 rfl rfl)) (by decide +kernel) ⟨Nat.le_of_ble_eq_true rfl, Nat.le_of_ble_eq_true rfl⟩ rfl hk rfl rfl (Nat.le_of_ble_eq_true rfl) dJx4a65c_get_915e3_11 ⟨Nat.le_of_ble_eq_true rfl, Nat.le_of_ble_eq_true rfl⟩ (fun r11 g11 hp11 => ?_)
  obtain ⟨rfl, hg11⟩ := hp11
  rw [hg11]
  exact ret _ _ ((some (fa i))) _ dJx4a65c_get_915e3_14 ⟨rfl, rfl⟩
set_option maxRecDepth 100000 in
theorem c_fill (l : Launch) (Z : Zc) (k n : Nat) (v : Int32) (g : MG) (hk : ∀ g' : MG, (∀ q, q ≠ k → g' q = g q) → cx Z.Y Z.ad Z.df g' k = some (.inl (Z.Y.1, n, .inl (g' k)))) (hlk : lk k = false) (hx : ∀ i, i < 24 → k ≠ 200 + 10 * i) (hn : n < 1000) : MV l yJ7_fill_53178 cJ7_fill_53178 4 (rmz 0 0 0 0) Z [.ref (Z.ad k), .int v] g (fun g' => g' = rwr g k (fun j => if j < n then v else g k j)) := by
  refine ent_v (own := RJ7) (lo := [some (.ref (Z.ad k)), some (.int v), none, none]) (by decide) rfl (by simp [lg_sl, Value.category]) rfl (fun P hl C ret => ?_)
  have loop : ∀ (m c : Nat) (g1 : MG), n - c < m → c ≤ n → (∀ q, q ≠ k → g1 q = g q) → (∀ j, g1 k j = if j < c then v else g k j) → V P (rmz 0 0 0 0) Z [some (.ref (Z.ad k)), some (.int v), some (.int (nI c)), some (.int (nI n))] 5 [] g1 0 0 := by
    intro m
    induction m with
    | zero => intro c g1 hm; exact absurd hm (Nat.not_lt_zero _)
    | succ m ih =>
      intro c g1 hm hc hr h1
      refine v_iload_n C dJ7_fill_53178_5 rfl rfl ?_
      refine v_iload_n C dJ7_fill_53178_6 rfl rfl ?_
      refine v_icmp_ge (tgt := 20) C dJ7_fill_53178_7 (by decide) (fun h7 => ?_) (fun h7 => ?_)
      · have hkn : c = n := Nat.le_antisymm hc ((nI_leI (by omega) (by omega)).mp h7)
        subst hkn
        exact ret _ _ _ dJ7_fill_53178_20 (funext fun q => by unfold rwr; by_cases hq : q = k; (· rw [if_pos hq, hq]; exact funext h1); (· rw [if_neg hq]; exact hr q hq))
      · have hkn : c < n := Nat.lt_of_not_le fun q => h7 ((nI_leI (by omega) (by omega)).mpr q)
        refine v_aload_n C dJ7_fill_53178_10 rfl rfl ?_
        refine v_iload_n C dJ7_fill_53178_11 rfl rfl ?_
        refine v_iload_n C dJ7_fill_53178_12 rfl rfl ?_
        refine v_iastN (a := c) C (fun g2 h2 => hk g2 (fun q hq => (h2 q hq).trans (hr q hq))) hlk hx (by omega) dJ7_fill_53178_13 ?_
        refine v_iinc (lo' := [some (.ref (Z.ad k)), some (.int v), some (.int ((nI c) + 1)), some (.int (nI n))]) C dJ7_fill_53178_14 rfl rfl rfl rfl ?_
        refine v_lo (lo' := [some (.ref (Z.ad k)), some (.int v), some (.int (nI (c + 1))), some (.int (nI n))]) (by rw [← nI_1 c]) ?_
        refine v_goto (tgt := 5) C dJ7_fill_53178_17 (by decide) ?_
        exact ih (c + 1) _ (by omega) (by omega) (fun q hq => by rw [wr_row _ _ _ _ hq]; exact hr q hq) (fun j => by by_cases hj : j = c; (· rw [hj, wr_same, if_pos (Nat.lt_succ_self c)]); (· rw [wr_ne _ _ _ _ (Or.inr hj), h1]; by_cases hq : j < c; (· rw [if_pos hq, if_pos (by omega)]); (· rw [if_neg hq, if_neg (by omega)])))
  refine v_iconst (v := 0) C dJ7_fill_53178_0 (by decide) ?_
  refine v_topi (y := nI 0) rfl ?_
  refine v_istore_n (lo' := [some (.ref (Z.ad k)), some (.int v), some (.int (nI 0)), none]) C dJ7_fill_53178_1 rfl (Nat.le_of_ble_eq_true rfl) rfl rfl ?_
  refine v_aload_n C dJ7_fill_53178_2 rfl rfl ?_
  refine v_alen (v := nI n) C (hk g (fun _ _ => rfl)) rfl dJ7_fill_53178_3 ?_
  refine v_istore_n (lo' := [some (.ref (Z.ad k)), some (.int v), some (.int (nI 0)), some (.int (nI n))]) C dJ7_fill_53178_4 rfl (Nat.le_of_ble_eq_true rfl) rfl rfl ?_
  exact loop (n + 1) 0 g (by omega) (by omega) (fun _ _ => rfl) (fun j => by rw [if_neg (Nat.not_lt_zero j)])
