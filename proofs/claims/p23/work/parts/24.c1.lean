/-! THE CLASS: a fount's and a line's own methods -/
set_option maxRecDepth 100000 in
theorem c_addBlocks (l : Launch) (Z : Zc) (i c : Nat) (v : Int32) (g : MG) (hF : FnP g i) (hc : c < 10) : MV l yX0_addBlocks cX0_addBlocks 3 (rmz 0 0 0 0) Z [.ref (Z.ad (40 + 10 * i)), .int (nI c), .int v] g (fun g' => g' = wr (wr g (40 + 10 * i + 1) c (g (40 + 10 * i + 1) c + v)) (40 + 10 * i + 2) c (g (40 + 10 * i + 2) c + v)) := by
  refine ent_v (own := RX0) (lo := [some (.ref (Z.ad (40 + 10 * i))), some (.int (nI c)), some (.int v)]) (by decide) rfl (by simp [lg_sl, Value.category]) rfl (fun P hl C ret => ?_)
  have hi5 := hF.lt
  refine v_aload_n C dX0_addBlocks_0 rfl rfl ?_
  refine v_get C inG0 rfl 2 (by decide) (tg5 47 rfl rfl) rfl (cxF hF) rfl dX0_addBlocks_1 ?_
  refine v_iload_n C dX0_addBlocks_4 rfl rfl ?_
  refine v_dup2 C dX0_addBlocks_5 rfl rfl ?_
  refine v_ialdN (a := c) C (cxFa 1 hF (by decide)) (by omega) dX0_addBlocks_6 ?_
  refine v_iload_n C dX0_addBlocks_7 rfl rfl ?_
  refine v_iadd C dX0_addBlocks_8 ?_
  refine v_iastN (a := c) C (fun g9 h9 => cxFa 1 (FnP.e hF (h9 31 (by omega))) (by decide)) (lk_n (by omega) (by omega) (by omega)) (by omega) (by omega) dX0_addBlocks_9 ?_
  refine v_aload_n C dX0_addBlocks_10 rfl rfl ?_
  refine v_get C inG0 rfl 3 (by decide) (tg5 49 rfl rfl) rfl (cxF (FnP.w hF (lk_n (by omega) (by omega) (by omega)))) rfl dX0_addBlocks_11 ?_
  refine v_iload_n C dX0_addBlocks_14 rfl rfl ?_
  refine v_dup2 C dX0_addBlocks_15 rfl rfl ?_
  refine v_ialdN (a := c) C (cxFa 2 (FnP.w hF (lk_n (by omega) (by omega) (by omega))) (by decide)) (by omega) dX0_addBlocks_16 ?_
  refine v_topi (y := g (40 + 10 * i + 2) c) (by rw [wr_row _ _ _ _ (by omega)]) ?_
  refine v_iload_n C dX0_addBlocks_17 rfl rfl ?_
  refine v_iadd C dX0_addBlocks_18 ?_
  refine v_iastN (a := c) C (fun g9 h9 => cxFa 2 (FnP.e (FnP.w hF (lk_n (by omega) (by omega) (by omega))) (h9 31 (by omega))) (by decide)) (lk_n (by omega) (by omega) (by omega)) (by omega) (by omega) dX0_addBlocks_19 ?_
  exact ret _ _ _ dX0_addBlocks_20 rfl
set_option maxRecDepth 100000 in
theorem c_leaveFree (l : Launch) (Z : Zc) (i : Nat) (g : MG) (hF : FnP g i) : MV l yX0_leaveFree cX0_leaveFree 1 (rmz 1 40 0 0) Z [.ref (Z.ad (40 + 10 * i))] g (fun g' => g' = rwr g (40 + 10 * i + 4) (va_cpy (g (40 + 10 * i + 2)) (g (40 + 10 * i + 4)) 0 0 10)) := by
  refine ent_v (own := RX0) (lo := [some (.ref (Z.ad (40 + 10 * i)))]) (by decide) rfl (by simp [lg_sl, Value.category]) rfl (fun P hl C ret => ?_)
  have hi5 := hF.lt
  refine v_aload_n C dX0_leaveFree_0 rfl rfl ?_
  refine v_get C inG0 rfl 3 (by decide) (tg5 49 rfl rfl) rfl (cxF hF) rfl dX0_leaveFree_1 ?_
  refine v_iconst (v := 0) C dX0_leaveFree_4 (by decide) ?_
  refine v_aload_n C dX0_leaveFree_5 rfl rfl ?_
  refine v_get C inG0 rfl 5 (by decide) (tg5 55 rfl rfl) rfl (cxF hF) rfl dX0_leaveFree_6 ?_
  refine v_iconst (v := 0) C dX0_leaveFree_9 (by decide) ?_
  refine v_bipush (v := 10) C dX0_leaveFree_10 (by decide) ?_
  refine v_copy (ks := 40 + 10 * i + 2) (kd := 40 + 10 * i + 4) (a := 0) (b := 0) (n := 10) C (tg1 205 rfl rfl) (tg1 207 rfl rfl) (tg1 206 rfl rfl) (tg1 15 rfl rfl) (cxFa 2 hF (by decide)) (fun g9 h9 => cxFa 4 (FnP.e hF (h9 31 (by omega))) (by decide)) (lk_n (by omega) (by omega) (by omega)) (by omega) (by omega) (by omega) (by decide) (Nat.le_of_ble_eq_true rfl) (Nat.le_of_ble_eq_true rfl) dX0_leaveFree_12 ?_
  exact ret _ _ _ dX0_leaveFree_15 rfl
set_option maxRecDepth 100000 in
theorem c_spendOn (l : Launch) (Z : Zc) (i p q : Nat) (g : MG) (hF : FnP g i) (hL : LnP g p q) : MV l yX0_spendOn cX0_spendOn 3 (rmz 0 0 0 0) Z [.ref (Z.ad (40 + 10 * i)), .ref (Z.ad (200 + 10 * (4 * p + q)))] g (fun g' => g' = rwr g (40 + 10 * i + 4) (fun j => if j < 10 then g (40 + 10 * i + 4) j - g (200 + 10 * (4 * p + q) + 2) j else g (40 + 10 * i + 4) j)) := by
  refine ent_v (own := RX0) (lo := [some (.ref (Z.ad (40 + 10 * i))), some (.ref (Z.ad (200 + 10 * (4 * p + q)))), none]) (by decide) rfl (by simp [lg_sl, Value.category]) rfl (fun P hl C ret => ?_)
  have hi5 := hF.lt
  have hpq := hL.lt
  have loop : ∀ (n c : Nat) (g1 : MG), 10 - c < n → c ≤ 10 → (∀ q, q ≠ 40 + 10 * i + 4 → g1 q = g q) → (∀ j, g1 (40 + 10 * i + 4) j = if j < c then g (40 + 10 * i + 4) j - g (200 + 10 * (4 * p + q) + 2) j else g (40 + 10 * i + 4) j) → V P (rmz 0 0 0 0) Z [some (.ref (Z.ad (40 + 10 * i))), some (.ref (Z.ad (200 + 10 * (4 * p + q)))), some (.int (nI c))] 2 [] g1 0 0 := by
    intro n
    induction n with
    | zero => intro c g1 hn; exact absurd hn (Nat.not_lt_zero _)
    | succ n ih =>
      intro c g1 hn hc hr h1
      have hF1 : FnP g1 i := hF.e (hr 31 (by omega))
      have hL1 : LnP g1 p q := hL.e (hr 32 (by omega)) (hr (101 + 10 * p) (by omega))
      refine v_iload_n C dX0_spendOn_2 rfl rfl ?_
      refine v_bipush (v := 10) C dX0_spendOn_3 (by decide) ?_
      refine v_icmp_ge (tgt := 29) C dX0_spendOn_5 (by decide) (fun h5 => ?_) (fun h5 => ?_)
      · have hkn : c = 10 := Nat.le_antisymm hc ((nI_leI (a := 10) (by decide) (by omega)).mp h5)
        subst hkn
        exact ret _ _ _ dX0_spendOn_29 (funext fun z => by unfold rwr; by_cases hz : z = 40 + 10 * i + 4; (· rw [if_pos hz, hz]; exact funext h1); (· rw [if_neg hz]; exact hr z hz))
      · have hkn : c < 10 := Nat.lt_of_not_le fun q => h5 ((nI_leI (a := 10) (by decide) (by omega)).mpr q)
        refine v_aload_n C dX0_spendOn_8 rfl rfl ?_
        refine v_get C inG0 rfl 5 (by decide) (tg5 55 rfl rfl) rfl (cxF hF1) rfl dX0_spendOn_9 ?_
        refine v_iload_n C dX0_spendOn_12 rfl rfl ?_
        refine v_dup2 C dX0_spendOn_13 rfl rfl ?_
        refine v_ialdN (a := c) C (cxFa 4 hF1 (by decide)) (by omega) dX0_spendOn_14 ?_
        refine v_topi (y := g (40 + 10 * i + 4) c) (by rw [h1, if_neg (by omega)]) ?_
        refine v_aload_n C dX0_spendOn_15 rfl rfl ?_
        refine v_get C inG1 rfl 2 (by decide) (tg4 192 rfl rfl) rfl (cxLn hL1) rfl dX0_spendOn_16 ?_
        refine v_iload_n C dX0_spendOn_19 rfl rfl ?_
        refine v_ialdN (a := c) C (cxLt hL1) (by omega) dX0_spendOn_20 ?_
        refine v_topi (y := g (200 + 10 * (4 * p + q) + 2) c) (by rw [hr _ (by omega)]) ?_
        refine v_isub C dX0_spendOn_21 ?_
        refine v_iastN (a := c) C (fun g9 h9 => cxFa 4 (FnP.e hF1 (h9 31 (by omega))) (by decide)) (lk_n (by omega) (by omega) (by omega)) (by omega) (by omega) dX0_spendOn_22 ?_
        refine v_iinc (lo' := [some (.ref (Z.ad (40 + 10 * i))), some (.ref (Z.ad (200 + 10 * (4 * p + q)))), some (.int ((nI c) + 1))]) C dX0_spendOn_23 rfl rfl rfl rfl ?_
        refine v_lo (lo' := [some (.ref (Z.ad (40 + 10 * i))), some (.ref (Z.ad (200 + 10 * (4 * p + q)))), some (.int (nI (c + 1)))]) (by rw [← nI_1 c]) ?_
        refine v_goto (tgt := 2) C dX0_spendOn_26 (by decide) ?_
        exact ih (c + 1) _ (by omega) (by omega) (fun q hq => by rw [wr_row _ _ _ _ hq]; exact hr q hq) (fun j => by by_cases hj : j = c; (· rw [hj, wr_same, if_pos (Nat.lt_succ_self c)]); (· rw [wr_ne _ _ _ _ (Or.inr hj), h1]; by_cases hq : j < c; (· rw [if_pos hq, if_pos (by omega)]); (· rw [if_neg hq, if_neg (by omega)])))
  refine v_iconst (v := 0) C dX0_spendOn_0 (by decide) ?_
  refine v_topi (y := nI 0) rfl ?_
  refine v_istore_n (lo' := [some (.ref (Z.ad (40 + 10 * i))), some (.ref (Z.ad (200 + 10 * (4 * p + q)))), some (.int (nI 0))]) C dX0_spendOn_1 rfl (Nat.le_of_ble_eq_true rfl) rfl rfl ?_
  exact loop 11 0 g (by omega) (by omega) (fun _ _ => rfl) (fun j => by rw [if_neg (Nat.not_lt_zero j)])
set_option maxRecDepth 100000 in
theorem c_takeOut (l : Launch) (Z : Zc) (i p q : Nat) (g : MG) (hF : FnP g i) (hL : LnP g p q) (hfi : g (200 + 10 * (4 * p + q)) 3 = nI i) : MV l yX1_takeOut cX1_takeOut 2 (rmz 0 0 0 0) Z [.ref (Z.ad (200 + 10 * (4 * p + q)))] g (fun g' => g' = rwr g (40 + 10 * i + 2) (fun j => if j < 10 then g (40 + 10 * i + 2) j - g (200 + 10 * (4 * p + q) + 2) j else g (40 + 10 * i + 2) j)) := by
  refine ent_v (own := RX1) (lo := [some (.ref (Z.ad (200 + 10 * (4 * p + q)))), none]) (by decide) rfl (by simp [lg_sl, Value.category]) rfl (fun P hl C ret => ?_)
  have hi5 := hF.lt
  have hpq := hL.lt
  have loop : ∀ (n c : Nat) (g1 : MG), 10 - c < n → c ≤ 10 → (∀ q, q ≠ 40 + 10 * i + 2 → g1 q = g q) → (∀ j, g1 (40 + 10 * i + 2) j = if j < c then g (40 + 10 * i + 2) j - g (200 + 10 * (4 * p + q) + 2) j else g (40 + 10 * i + 2) j) → V P (rmz 0 0 0 0) Z [some (.ref (Z.ad (200 + 10 * (4 * p + q)))), some (.int (nI c))] 10 [] g1 0 0 := by
    intro n
    induction n with
    | zero => intro c g1 hn; exact absurd hn (Nat.not_lt_zero _)
    | succ n ih =>
      intro c g1 hn hc hr h1
      have hF1 : FnP g1 i := hF.e (hr 31 (by omega))
      have hL1 : LnP g1 p q := hL.e (hr 32 (by omega)) (hr (101 + 10 * p) (by omega))
      refine v_iload_n C dX1_takeOut_10 rfl rfl ?_
      refine v_bipush (v := 10) C dX1_takeOut_11 (by decide) ?_
      refine v_icmp_ge (tgt := 40) C dX1_takeOut_13 (by decide) (fun h13 => ?_) (fun h13 => ?_)
      · have hkn : c = 10 := Nat.le_antisymm hc ((nI_leI (a := 10) (by decide) (by omega)).mp h13)
        subst hkn
        exact ret _ _ _ dX1_takeOut_40 (funext fun z => by unfold rwr; by_cases hz : z = 40 + 10 * i + 2; (· rw [if_pos hz, hz]; exact funext h1); (· rw [if_neg hz]; exact hr z hz))
      · have hkn : c < 10 := Nat.lt_of_not_le fun q => h13 ((nI_leI (a := 10) (by decide) (by omega)).mpr q)
        refine v_aload_n C dX1_takeOut_16 rfl rfl ?_
        refine v_get C inG1 rfl 3 (by decide) (tg4 195 rfl rfl) rfl (cxLn hL1) rfl dX1_takeOut_17 ?_
        refine v_st (st' := [.ref (Z.ad (40 + 10 * i))]) (by rw [hr _ (by omega), hfi, fR_nI (by omega)]; rfl) ?_
        refine v_get C inG0 rfl 3 (by decide) (tg5 50 rfl rfl) rfl (cxF hF1) rfl dX1_takeOut_20 ?_
        refine v_iload_n C dX1_takeOut_23 rfl rfl ?_
        refine v_dup2 C dX1_takeOut_24 rfl rfl ?_
        refine v_ialdN (a := c) C (cxFa 2 hF1 (by decide)) (by omega) dX1_takeOut_25 ?_
        refine v_topi (y := g (40 + 10 * i + 2) c) (by rw [h1, if_neg (by omega)]) ?_
        refine v_aload_n C dX1_takeOut_26 rfl rfl ?_
        refine v_get C inG1 rfl 2 (by decide) (tg4 191 rfl rfl) rfl (cxLn hL1) rfl dX1_takeOut_27 ?_
        refine v_iload_n C dX1_takeOut_30 rfl rfl ?_
        refine v_ialdN (a := c) C (cxLt hL1) (by omega) dX1_takeOut_31 ?_
        refine v_topi (y := g (200 + 10 * (4 * p + q) + 2) c) (by rw [hr _ (by omega)]) ?_
        refine v_isub C dX1_takeOut_32 ?_
        refine v_iastN (a := c) C (fun g9 h9 => cxFa 2 (FnP.e hF1 (h9 31 (by omega))) (by decide)) (lk_n (by omega) (by omega) (by omega)) (by omega) (by omega) dX1_takeOut_33 ?_
        refine v_iinc (lo' := [some (.ref (Z.ad (200 + 10 * (4 * p + q)))), some (.int ((nI c) + 1))]) C dX1_takeOut_34 rfl rfl rfl rfl ?_
        refine v_lo (lo' := [some (.ref (Z.ad (200 + 10 * (4 * p + q)))), some (.int (nI (c + 1)))]) (by rw [← nI_1 c]) ?_
        refine v_goto (tgt := 10) C dX1_takeOut_37 (by decide) ?_
        exact ih (c + 1) _ (by omega) (by omega) (fun q hq => by rw [wr_row _ _ _ _ hq]; exact hr q hq) (fun j => by by_cases hj : j = c; (· rw [hj, wr_same, if_pos (Nat.lt_succ_self c)]); (· rw [wr_ne _ _ _ _ (Or.inr hj), h1]; by_cases hq : j < c; (· rw [if_pos hq, if_pos (by omega)]); (· rw [if_neg hq, if_neg (by omega)])))
  refine v_aload_n C dX1_takeOut_0 rfl rfl ?_
  refine v_get C inG1 rfl 3 (by decide) (tg4 195 rfl rfl) rfl (cxLn hL) rfl dX1_takeOut_1 ?_
  refine v_st (st' := [.ref (Z.ad (40 + 10 * i))]) (by rw [hfi, fR_nI (by omega)]; rfl) ?_
  refine v_ifnonnull (tgt := 8) C dX1_takeOut_4 (by decide) ?_
  refine v_iconst (v := 0) C dX1_takeOut_8 (by decide) ?_
  refine v_topi (y := nI 0) rfl ?_
  refine v_istore_n (lo' := [some (.ref (Z.ad (200 + 10 * (4 * p + q)))), some (.int (nI 0))]) C dX1_takeOut_9 rfl (Nat.le_of_ble_eq_true rfl) rfl rfl ?_
  exact loop 11 0 g (by omega) (by omega) (fun _ _ => rfl) (fun j => by rw [if_neg (Nat.not_lt_zero j)])
set_option maxRecDepth 100000 in
theorem c_putBack (l : Launch) (Z : Zc) (i p q : Nat) (g : MG) (hF : FnP g i) (hL : LnP g p q) (hfi : g (200 + 10 * (4 * p + q)) 3 = nI i) : MV l yX1_putBack cX1_putBack 2 (rmz 0 0 0 0) Z [.ref (Z.ad (200 + 10 * (4 * p + q)))] g (fun g' => g' = rwr g (40 + 10 * i + 2) (fun j => if j < 10 then g (40 + 10 * i + 2) j + g (200 + 10 * (4 * p + q) + 2) j else g (40 + 10 * i + 2) j)) := by
  refine ent_v (own := RX1) (lo := [some (.ref (Z.ad (200 + 10 * (4 * p + q)))), none]) (by decide) rfl (by simp [lg_sl, Value.category]) rfl (fun P hl C ret => ?_)
  have hi5 := hF.lt
  have hpq := hL.lt
  have loop : ∀ (n c : Nat) (g1 : MG), 10 - c < n → c ≤ 10 → (∀ q, q ≠ 40 + 10 * i + 2 → g1 q = g q) → (∀ j, g1 (40 + 10 * i + 2) j = if j < c then g (40 + 10 * i + 2) j + g (200 + 10 * (4 * p + q) + 2) j else g (40 + 10 * i + 2) j) → V P (rmz 0 0 0 0) Z [some (.ref (Z.ad (200 + 10 * (4 * p + q)))), some (.int (nI c))] 10 [] g1 0 0 := by
    intro n
    induction n with
    | zero => intro c g1 hn; exact absurd hn (Nat.not_lt_zero _)
    | succ n ih =>
      intro c g1 hn hc hr h1
      have hF1 : FnP g1 i := hF.e (hr 31 (by omega))
      have hL1 : LnP g1 p q := hL.e (hr 32 (by omega)) (hr (101 + 10 * p) (by omega))
      refine v_iload_n C dX1_putBack_10 rfl rfl ?_
      refine v_bipush (v := 10) C dX1_putBack_11 (by decide) ?_
      refine v_icmp_ge (tgt := 40) C dX1_putBack_13 (by decide) (fun h13 => ?_) (fun h13 => ?_)
      · have hkn : c = 10 := Nat.le_antisymm hc ((nI_leI (a := 10) (by decide) (by omega)).mp h13)
        subst hkn
        exact ret _ _ _ dX1_putBack_40 (funext fun z => by unfold rwr; by_cases hz : z = 40 + 10 * i + 2; (· rw [if_pos hz, hz]; exact funext h1); (· rw [if_neg hz]; exact hr z hz))
      · have hkn : c < 10 := Nat.lt_of_not_le fun q => h13 ((nI_leI (a := 10) (by decide) (by omega)).mpr q)
        refine v_aload_n C dX1_putBack_16 rfl rfl ?_
        refine v_get C inG1 rfl 3 (by decide) (tg4 195 rfl rfl) rfl (cxLn hL1) rfl dX1_putBack_17 ?_
        refine v_st (st' := [.ref (Z.ad (40 + 10 * i))]) (by rw [hr _ (by omega), hfi, fR_nI (by omega)]; rfl) ?_
        refine v_get C inG0 rfl 3 (by decide) (tg5 50 rfl rfl) rfl (cxF hF1) rfl dX1_putBack_20 ?_
        refine v_iload_n C dX1_putBack_23 rfl rfl ?_
        refine v_dup2 C dX1_putBack_24 rfl rfl ?_
        refine v_ialdN (a := c) C (cxFa 2 hF1 (by decide)) (by omega) dX1_putBack_25 ?_
        refine v_topi (y := g (40 + 10 * i + 2) c) (by rw [h1, if_neg (by omega)]) ?_
        refine v_aload_n C dX1_putBack_26 rfl rfl ?_
        refine v_get C inG1 rfl 2 (by decide) (tg4 191 rfl rfl) rfl (cxLn hL1) rfl dX1_putBack_27 ?_
        refine v_iload_n C dX1_putBack_30 rfl rfl ?_
        refine v_ialdN (a := c) C (cxLt hL1) (by omega) dX1_putBack_31 ?_
        refine v_topi (y := g (200 + 10 * (4 * p + q) + 2) c) (by rw [hr _ (by omega)]) ?_
        refine v_iadd C dX1_putBack_32 ?_
        refine v_iastN (a := c) C (fun g9 h9 => cxFa 2 (FnP.e hF1 (h9 31 (by omega))) (by decide)) (lk_n (by omega) (by omega) (by omega)) (by omega) (by omega) dX1_putBack_33 ?_
        refine v_iinc (lo' := [some (.ref (Z.ad (200 + 10 * (4 * p + q)))), some (.int ((nI c) + 1))]) C dX1_putBack_34 rfl rfl rfl rfl ?_
        refine v_lo (lo' := [some (.ref (Z.ad (200 + 10 * (4 * p + q)))), some (.int (nI (c + 1)))]) (by rw [← nI_1 c]) ?_
        refine v_goto (tgt := 10) C dX1_putBack_37 (by decide) ?_
        exact ih (c + 1) _ (by omega) (by omega) (fun q hq => by rw [wr_row _ _ _ _ hq]; exact hr q hq) (fun j => by by_cases hj : j = c; (· rw [hj, wr_same, if_pos (Nat.lt_succ_self c)]); (· rw [wr_ne _ _ _ _ (Or.inr hj), h1]; by_cases hq : j < c; (· rw [if_pos hq, if_pos (by omega)]); (· rw [if_neg hq, if_neg (by omega)])))
  refine v_aload_n C dX1_putBack_0 rfl rfl ?_
  refine v_get C inG1 rfl 3 (by decide) (tg4 195 rfl rfl) rfl (cxLn hL) rfl dX1_putBack_1 ?_
  refine v_st (st' := [.ref (Z.ad (40 + 10 * i))]) (by rw [hfi, fR_nI (by omega)]; rfl) ?_
  refine v_ifnonnull (tgt := 8) C dX1_putBack_4 (by decide) ?_
  refine v_iconst (v := 0) C dX1_putBack_8 (by decide) ?_
  refine v_topi (y := nI 0) rfl ?_
  refine v_istore_n (lo' := [some (.ref (Z.ad (200 + 10 * (4 * p + q)))), some (.int (nI 0))]) C dX1_putBack_9 rfl (Nat.le_of_ble_eq_true rfl) rfl rfl ?_
  exact loop 11 0 g (by omega) (by omega) (fun _ _ => rfl) (fun j => by rw [if_neg (Nat.not_lt_zero j)])
set_option maxRecDepth 100000 in
theorem c_wearBy (l : Launch) (Z : Zc) (i p q : Nat) (v : Int32) (g : MG) (hF : FnP g i) (hL : LnP g p q) (hfi : g (200 + 10 * (4 * p + q)) 3 = nI i) : MV l yX1_wearBy cX1_wearBy 3 (rmz 0 0 0 0) Z [.ref (Z.ad (200 + 10 * (4 * p + q))), .int v] g (fun g' => g' = rwr g (40 + 10 * i + 3) (fun j => if j < 10 then g (40 + 10 * i + 3) j + g (200 + 10 * (4 * p + q) + 2) j * v else g (40 + 10 * i + 3) j)) := by
  refine ent_v (own := RX1) (lo := [some (.ref (Z.ad (200 + 10 * (4 * p + q)))), some (.int v), none]) (by decide) rfl (by simp [lg_sl, Value.category]) rfl (fun P hl C ret => ?_)
  have hi5 := hF.lt
  have hpq := hL.lt
  have loop : ∀ (n c : Nat) (g1 : MG), 10 - c < n → c ≤ 10 → (∀ q, q ≠ 40 + 10 * i + 3 → g1 q = g q) → (∀ j, g1 (40 + 10 * i + 3) j = if j < c then g (40 + 10 * i + 3) j + g (200 + 10 * (4 * p + q) + 2) j * v else g (40 + 10 * i + 3) j) → V P (rmz 0 0 0 0) Z [some (.ref (Z.ad (200 + 10 * (4 * p + q)))), some (.int v), some (.int (nI c))] 10 [] g1 0 0 := by
    intro n
    induction n with
    | zero => intro c g1 hn; exact absurd hn (Nat.not_lt_zero _)
    | succ n ih =>
      intro c g1 hn hc hr h1
      have hF1 : FnP g1 i := hF.e (hr 31 (by omega))
      have hL1 : LnP g1 p q := hL.e (hr 32 (by omega)) (hr (101 + 10 * p) (by omega))
      refine v_iload_n C dX1_wearBy_10 rfl rfl ?_
      refine v_bipush (v := 10) C dX1_wearBy_11 (by decide) ?_
      refine v_icmp_ge (tgt := 42) C dX1_wearBy_13 (by decide) (fun h13 => ?_) (fun h13 => ?_)
      · have hkn : c = 10 := Nat.le_antisymm hc ((nI_leI (a := 10) (by decide) (by omega)).mp h13)
        subst hkn
        exact ret _ _ _ dX1_wearBy_42 (funext fun z => by unfold rwr; by_cases hz : z = 40 + 10 * i + 3; (· rw [if_pos hz, hz]; exact funext h1); (· rw [if_neg hz]; exact hr z hz))
      · have hkn : c < 10 := Nat.lt_of_not_le fun q => h13 ((nI_leI (a := 10) (by decide) (by omega)).mpr q)
        refine v_aload_n C dX1_wearBy_16 rfl rfl ?_
        refine v_get C inG1 rfl 3 (by decide) (tg4 195 rfl rfl) rfl (cxLn hL1) rfl dX1_wearBy_17 ?_
        refine v_st (st' := [.ref (Z.ad (40 + 10 * i))]) (by rw [hr _ (by omega), hfi, fR_nI (by omega)]; rfl) ?_
        refine v_get C inG0 rfl 4 (by decide) (tg5 53 rfl rfl) rfl (cxF hF1) rfl dX1_wearBy_20 ?_
        refine v_iload_n C dX1_wearBy_23 rfl rfl ?_
        refine v_dup2 C dX1_wearBy_24 rfl rfl ?_
        refine v_ialdN (a := c) C (cxFa 3 hF1 (by decide)) (by omega) dX1_wearBy_25 ?_
        refine v_topi (y := g (40 + 10 * i + 3) c) (by rw [h1, if_neg (by omega)]) ?_
        refine v_aload_n C dX1_wearBy_26 rfl rfl ?_
        refine v_get C inG1 rfl 2 (by decide) (tg4 191 rfl rfl) rfl (cxLn hL1) rfl dX1_wearBy_27 ?_
        refine v_iload_n C dX1_wearBy_30 rfl rfl ?_
        refine v_ialdN (a := c) C (cxLt hL1) (by omega) dX1_wearBy_31 ?_
        refine v_topi (y := g (200 + 10 * (4 * p + q) + 2) c) (by rw [hr _ (by omega)]) ?_
        refine v_iload_n C dX1_wearBy_32 rfl rfl ?_
        refine v_imul C dX1_wearBy_33 ?_
        refine v_iadd C dX1_wearBy_34 ?_
        refine v_iastN (a := c) C (fun g9 h9 => cxFa 3 (FnP.e hF1 (h9 31 (by omega))) (by decide)) (lk_n (by omega) (by omega) (by omega)) (by omega) (by omega) dX1_wearBy_35 ?_
        refine v_iinc (lo' := [some (.ref (Z.ad (200 + 10 * (4 * p + q)))), some (.int v), some (.int ((nI c) + 1))]) C dX1_wearBy_36 rfl rfl rfl rfl ?_
        refine v_lo (lo' := [some (.ref (Z.ad (200 + 10 * (4 * p + q)))), some (.int v), some (.int (nI (c + 1)))]) (by rw [← nI_1 c]) ?_
        refine v_goto (tgt := 10) C dX1_wearBy_39 (by decide) ?_
        exact ih (c + 1) _ (by omega) (by omega) (fun q hq => by rw [wr_row _ _ _ _ hq]; exact hr q hq) (fun j => by by_cases hj : j = c; (· rw [hj, wr_same, if_pos (Nat.lt_succ_self c)]); (· rw [wr_ne _ _ _ _ (Or.inr hj), h1]; by_cases hq : j < c; (· rw [if_pos hq, if_pos (by omega)]); (· rw [if_neg hq, if_neg (by omega)])))
  refine v_aload_n C dX1_wearBy_0 rfl rfl ?_
  refine v_get C inG1 rfl 3 (by decide) (tg4 195 rfl rfl) rfl (cxLn hL) rfl dX1_wearBy_1 ?_
  refine v_st (st' := [.ref (Z.ad (40 + 10 * i))]) (by rw [hfi, fR_nI (by omega)]; rfl) ?_
  refine v_ifnonnull (tgt := 8) C dX1_wearBy_4 (by decide) ?_
  refine v_iconst (v := 0) C dX1_wearBy_8 (by decide) ?_
  refine v_topi (y := nI 0) rfl ?_
  refine v_istore_n (lo' := [some (.ref (Z.ad (200 + 10 * (4 * p + q)))), some (.int v), some (.int (nI 0))]) C dX1_wearBy_9 rfl (Nat.le_of_ble_eq_true rfl) rfl rfl ?_
  exact loop 11 0 g (by omega) (by omega) (fun _ _ => rfl) (fun j => by rw [if_neg (Nat.not_lt_zero j)])
set_option maxRecDepth 100000 in
theorem c_fountNumber (l : Launch) (Z : Zc) (i p q : Nat) (g : MG) (hF : FnP g i) (hL : LnP g p q) (hfi : g (200 + 10 * (4 * p + q)) 3 = nI i) : MI l yX1_fountNumber cX1_fountNumber 1 (some .int) (rmz 0 0 0 0) Z [.ref (Z.ad (200 + 10 * (4 * p + q)))] g (fun r g' => r = g (40 + 10 * i) 0 ∧ g' = g) := by
  refine ent_i (own := RX1) (lo := [some (.ref (Z.ad (200 + 10 * (4 * p + q))))]) (by decide) rfl (by simp [lg_sl, Value.category]) rfl (fun P hl C ret => ?_)
  have hi5 := hF.lt
  have hpq := hL.lt
  refine v_aload_n C dX1_fountNumber_0 rfl rfl ?_
  refine v_get C inG1 rfl 3 (by decide) (tg4 195 rfl rfl) rfl (cxLn hL) rfl dX1_fountNumber_1 ?_
  refine v_st (st' := [.ref (Z.ad (40 + 10 * i))]) (by rw [hfi, fR_nI (by omega)]; rfl) ?_
  refine v_ifnonnull (tgt := 11) C dX1_fountNumber_4 (by decide) ?_
  refine v_aload_n C dX1_fountNumber_11 rfl rfl ?_
  refine v_get C inG1 rfl 3 (by decide) (tg4 195 rfl rfl) rfl (cxLn hL) rfl dX1_fountNumber_12 ?_
  refine v_st (st' := [.ref (Z.ad (40 + 10 * i))]) (by rw [hfi, fR_nI (by omega)]; rfl) ?_
  refine v_get C inG0 rfl 0 (by decide) (tg5 43 rfl rfl) rfl (cxF hF) rfl dX1_fountNumber_15 ?_
  exact ret _ _ _ _ dX1_fountNumber_18 ⟨rfl, rfl⟩
set_option maxRecDepth 100000 in
theorem c_sizeAsLaid (l : Launch) (Z : Zc) (i p q : Nat) (g : MG) (hF : FnP g i) (hL : LnP g p q) (hfi : g (200 + 10 * (4 * p + q)) 3 = nI i) : MI l yX1_sizeAsLaid cX1_sizeAsLaid 1 (some .int) (rmz 0 0 0 0) Z [.ref (Z.ad (200 + 10 * (4 * p + q)))] g (fun r g' => r = g (40 + 10 * i) 1 * g (200 + 10 * (4 * p + q)) 1 ∧ g' = g) := by
  refine ent_i (own := RX1) (lo := [some (.ref (Z.ad (200 + 10 * (4 * p + q))))]) (by decide) rfl (by simp [lg_sl, Value.category]) rfl (fun P hl C ret => ?_)
  have hi5 := hF.lt
  have hpq := hL.lt
  refine v_aload_n C dX1_sizeAsLaid_0 rfl rfl ?_
  refine v_get C inG1 rfl 3 (by decide) (tg4 195 rfl rfl) rfl (cxLn hL) rfl dX1_sizeAsLaid_1 ?_
  refine v_st (st' := [.ref (Z.ad (40 + 10 * i))]) (by rw [hfi, fR_nI (by omega)]; rfl) ?_
  refine v_ifnonnull (tgt := 11) C dX1_sizeAsLaid_4 (by decide) ?_
  refine v_aload_n C dX1_sizeAsLaid_11 rfl rfl ?_
  refine v_get C inG1 rfl 3 (by decide) (tg4 195 rfl rfl) rfl (cxLn hL) rfl dX1_sizeAsLaid_12 ?_
  refine v_st (st' := [.ref (Z.ad (40 + 10 * i))]) (by rw [hfi, fR_nI (by omega)]; rfl) ?_
  refine v_get C inG0 rfl 1 (by decide) (tg5 45 rfl rfl) rfl (cxF hF) rfl dX1_sizeAsLaid_15 ?_
  refine v_aload_n C dX1_sizeAsLaid_18 rfl rfl ?_
  refine v_get C inG1 rfl 1 (by decide) (tg4 188 rfl rfl) rfl (cxLn hL) rfl dX1_sizeAsLaid_19 ?_
  refine v_imul C dX1_sizeAsLaid_22 ?_
  exact ret _ _ _ _ dX1_sizeAsLaid_23 ⟨rfl, rfl⟩
set_option maxRecDepth 100000 in
theorem c_put (l : Launch) (Z : Zc) (p q b : Nat) (z : Int32) (g : MG) (hL : LnP g p q) (hb : b < 10) : MV l yX1_put cX1_put 3 (rmz 0 0 0 0) Z [.ref (Z.ad (200 + 10 * (4 * p + q))), .int (nI b), .int z] g (fun g' => g' = wr (wr (wr g (200 + 10 * (4 * p + q) + 2) b (g (200 + 10 * (4 * p + q) + 2) b + 1)) (200 + 10 * (4 * p + q)) 5 (g (200 + 10 * (4 * p + q)) 5 * 10 + nI b)) (200 + 10 * (4 * p + q)) 4 (g (200 + 10 * (4 * p + q)) 4 + if z = 0 then 0 else 1)) := by
  refine ent_v (own := RX1) (lo := [some (.ref (Z.ad (200 + 10 * (4 * p + q)))), some (.int (nI b)), some (.int z)]) (by decide) rfl (by simp [lg_sl, Value.category]) rfl (fun P hl C ret => ?_)
  have hpq := hL.lt
  refine v_aload_n C dX1_put_0 rfl rfl ?_
  refine v_get C inG1 rfl 2 (by decide) (tg4 191 rfl rfl) rfl (cxLn hL) rfl dX1_put_1 ?_
  refine v_iload_n C dX1_put_4 rfl rfl ?_
  refine v_dup2 C dX1_put_5 rfl rfl ?_
  refine v_ialdN (a := b) C (cxLt hL) (by omega) dX1_put_6 ?_
  refine v_iconst (v := 1) C dX1_put_7 (by decide) ?_
  refine v_iadd C dX1_put_8 ?_
  refine v_iastN (a := b) C (fun g9 h9 => cxLt (LnP.e hL (h9 32 (by omega)) (h9 (101 + 10 * p) (by omega)))) (lk_n (by omega) (by omega) (by omega)) (by omega) (by omega) dX1_put_9 ?_
  refine v_aload_n C dX1_put_10 rfl rfl ?_
  refine v_aload_n C dX1_put_11 rfl rfl ?_
  refine v_get C inG1 rfl 5 (by decide) (tg4 200 rfl rfl) rfl (cxLn (LnP.w hL (lk_n (by omega) (by omega) (by omega)))) rfl dX1_put_12 ?_
  refine v_topi (y := g (200 + 10 * (4 * p + q)) 5) (by rw [wr_row _ _ _ _ (by omega)]) ?_
  refine v_bipush (v := 10) C dX1_put_15 (by decide) ?_
  refine v_imul C dX1_put_17 ?_
  refine v_iload_n C dX1_put_18 rfl rfl ?_
  refine v_iadd C dX1_put_19 ?_
  refine v_put C inG1 rfl tyX1 tyX1_ok nmX1 5 (by decide) (tg4 200 rfl rfl) rfl rfl (ty := .int) rfl rfl rfl (cxLn (LnP.w hL (lk_n (by omega) (by omega) (by omega)))) (Nat.le_of_ble_eq_true rfl) (lk_n (by omega) (by omega) (by omega)) (by omega) (cxLn_w5 (LnP.w hL (lk_n (by omega) (by omega) (by omega))) _) dX1_put_20 ?_
  refine v_aload_n C dX1_put_23 rfl rfl ?_
  refine v_dup C dX1_put_24 rfl ?_
  refine v_get C inG1 rfl 4 (by decide) (tg4 197 rfl rfl) rfl (cxLn (LnP.w (LnP.w hL (lk_n (by omega) (by omega) (by omega))) (lk_n (by omega) (by omega) (by omega)))) rfl dX1_put_25 ?_
  refine v_topi (y := g (200 + 10 * (4 * p + q)) 4) (by rw [wr_ne _ _ _ _ (Or.inr (by decide)), wr_row _ _ _ _ (by omega)]) ?_
  refine v_iload_n C dX1_put_28 rfl rfl ?_
  refine v_if_eq (tgt := 36) C dX1_put_29 (by decide) (fun h29 => ?_) (fun h29 => ?_)
  · refine v_iconst (v := 0) C dX1_put_36 (by decide) ?_
    refine v_iadd C dX1_put_37 ?_
    refine v_put C inG1 rfl tyX1 tyX1_ok nmX1 4 (by decide) (tg4 197 rfl rfl) rfl rfl (ty := .int) rfl rfl rfl (cxLn (LnP.w (LnP.w hL (lk_n (by omega) (by omega) (by omega))) (lk_n (by omega) (by omega) (by omega)))) (Nat.le_of_ble_eq_true rfl) (lk_n (by omega) (by omega) (by omega)) (by omega) (cxLn_w4 (LnP.w (LnP.w hL (lk_n (by omega) (by omega) (by omega))) (lk_n (by omega) (by omega) (by omega))) _) dX1_put_38 ?_
    exact ret _ _ _ dX1_put_41 (by simp only [if_pos h29])
  · refine v_iconst (v := 1) C dX1_put_32 (by decide) ?_
    refine v_goto (tgt := 37) C dX1_put_33 (by decide) ?_
    refine v_iadd C dX1_put_37 ?_
    refine v_put C inG1 rfl tyX1 tyX1_ok nmX1 4 (by decide) (tg4 197 rfl rfl) rfl rfl (ty := .int) rfl rfl rfl (cxLn (LnP.w (LnP.w hL (lk_n (by omega) (by omega) (by omega))) (lk_n (by omega) (by omega) (by omega)))) (Nat.le_of_ble_eq_true rfl) (lk_n (by omega) (by omega) (by omega)) (by omega) (cxLn_w4 (LnP.w (LnP.w hL (lk_n (by omega) (by omega) (by omega))) (lk_n (by omega) (by omega) (by omega))) _) dX1_put_38 ?_
    exact ret _ _ _ dX1_put_41 (by simp only [if_neg h29])
set_option maxRecDepth 100000 in
theorem c_startIn (l : Launch) (Z : Zc) (i p q : Nat) (g : MG) (hF : FnP g i) (hL : LnP g p q) : MV l yX1_startIn cX1_startIn 2 (rmz 1 23 0 0) Z [.ref (Z.ad (200 + 10 * (4 * p + q))), .ref (Z.ad (40 + 10 * i))] g (fun g' => g' = wr (wr (wr (rwr g (200 + 10 * (4 * p + q) + 2) (fun j => if j < 10 then 0 else g (200 + 10 * (4 * p + q) + 2) j)) (200 + 10 * (4 * p + q)) 3 (nI i)) (200 + 10 * (4 * p + q)) 4 0) (200 + 10 * (4 * p + q)) 5 0) := by
  refine ent_v (own := RX1) (lo := [some (.ref (Z.ad (200 + 10 * (4 * p + q)))), some (.ref (Z.ad (40 + 10 * i)))]) (by decide) rfl (by simp [lg_sl, Value.category]) rfl (fun P hl C ret => ?_)
  have hi5 := hF.lt
  have hpq := hL.lt
  refine v_aload_n C dX1_startIn_0 rfl rfl ?_
  refine v_get C inG1 rfl 2 (by decide) (tg4 191 rfl rfl) rfl (cxLn hL) rfl dX1_startIn_1 ?_
  refine v_iconst (v := 0) C dX1_startIn_4 (by decide) ?_
  refine v_callSxv (n := 2) (as := [.ref (Z.ad (200 + 10 * (4 * p + q) + 2)), .int 0]) C (c_fill _ Z (200 + 10 * (4 * p + q) + 2) 10 0 g (fun g9 h9 => cxLt (LnP.e hL (h9 32 (by omega)) (h9 (101 + 10 * p) (by omega)))) (lk_n (by omega) (by omega) (by omega)) (by omega) (by decide)) (gs2 (tg1 225 rfl rfl) (tg1 64 rfl rfl) (tg1 5 rfl rfl) (tg1 65 rfl rfl)) (by decide +kernel) ⟨Nat.le_of_ble_eq_true rfl, Nat.le_of_ble_eq_true rfl⟩ rfl rfl (Nat.le_of_ble_eq_true rfl) dX1_startIn_5 ⟨Nat.le_of_ble_eq_true rfl, Nat.le_of_ble_eq_true rfl⟩ (fun g5 hp5 => ?_)
  have hg5 := hp5
  have hF5 : FnP g5 i := by rw [hg5]; exact hF.r (lk_n (by omega) (by omega) (by omega))
  have hL5 : LnP g5 p q := by rw [hg5]; exact hL.r (lk_n (by omega) (by omega) (by omega))
  refine v_aload_n C dX1_startIn_8 rfl rfl ?_
  refine v_aload_n C dX1_startIn_9 rfl rfl ?_
  refine v_put C inG1 rfl tyX1 tyX1_ok nmX1 3 (by decide) (tg4 195 rfl rfl) rfl rfl (ty := .object "PosterTypes$Fount") (x := nI i) (v := .ref (Z.ad (40 + 10 * i))) rfl rfl rfl (cxLn hL5) (Nat.le_of_ble_eq_true rfl) (lk_n (by omega) (by omega) (by omega)) (fun _ => Or.inr (Or.inr ⟨i, rfl, fun n h1 h2 => by obtain ⟨m, e1, e2, e3⟩ := hF5; rw [e1] at h1; have := nI_inj (by omega) (by omega) h1; omega, rfl⟩)) (cxLn_w3 hL5 hi5) dX1_startIn_10 ?_
  refine v_aload_n C dX1_startIn_13 rfl rfl ?_
  refine v_iconst (v := 0) C dX1_startIn_14 (by decide) ?_
  refine v_put C inG1 rfl tyX1 tyX1_ok nmX1 4 (by decide) (tg4 197 rfl rfl) rfl rfl (ty := .int) rfl rfl rfl (cxLn (LnP.w hL5 (lk_n (by omega) (by omega) (by omega)))) (Nat.le_of_ble_eq_true rfl) (lk_n (by omega) (by omega) (by omega)) (by omega) (cxLn_w4 (LnP.w hL5 (lk_n (by omega) (by omega) (by omega))) _) dX1_startIn_15 ?_
  refine v_aload_n C dX1_startIn_18 rfl rfl ?_
  refine v_iconst (v := 0) C dX1_startIn_19 (by decide) ?_
  refine v_put C inG1 rfl tyX1 tyX1_ok nmX1 5 (by decide) (tg4 200 rfl rfl) rfl rfl (ty := .int) rfl rfl rfl (cxLn (LnP.w (LnP.w hL5 (lk_n (by omega) (by omega) (by omega))) (lk_n (by omega) (by omega) (by omega)))) (Nat.le_of_ble_eq_true rfl) (lk_n (by omega) (by omega) (by omega)) (by omega) (cxLn_w5 (LnP.w (LnP.w hL5 (lk_n (by omega) (by omega) (by omega))) (lk_n (by omega) (by omega) (by omega))) _) dX1_startIn_20 ?_
  exact ret _ _ _ dX1_startIn_23 (by rw [hg5])
