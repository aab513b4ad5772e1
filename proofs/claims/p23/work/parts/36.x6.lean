/-! THE CLASS: next, lasts -/
theorem Rl_prP {N : Nat} {s g : MG} (hI : IvM s) (hB : IvB N s) (hR : Rl s g) {p : Nat} (hp : p < npO s) : prC g (s 5) p (nlO s p) (iz (s 12 p)) (wdO s) (plC g (s 9) (s 5) p (nlO s p) (nfO s) (wdO s)) = prP s p := plE_prC hI hR (plE_C hI hB hR hp) p _ (by have := (IvM_np hI).1; omega)
set_option maxRecDepth 100000 in
theorem m_next (l : Launch) (Z : Zc) (s g : MG) (hI : IvM s) (N : Nat) (hB : IvB N s) (hR : Rl s g) : MI l yX3_next cX3_next 5 (some .int) (rmz 8 240 0 0) Z [.ref (Z.ad 30)] g (fun r g' => r = (nxt (prP s) (npO s)).1 ∧ Rl s g' ∧ FrK g g') := by
  refine ent_i (own := RX3) (lo := [some (.ref (Z.ad 30)), none, none, none, none]) (by decide) rfl (by simp [lg_sl, Value.category]) rfl (fun P hl C ret => ?_)
  have hnf := (IvM_nf hI).2
  have hf5 := (IvM_nf hI).1
  have hnp := (IvM_np hI).2
  have hp6 := (IvM_np hI).1
  have loop : ∀ (n : Nat) (i : Nat) (g1 : MG) (v : Option Value), npO s - i < n → i ≤ npO s → Rl s g1 → FrK g g1 → V P (rmz 8 240 0 0) Z [some (.ref (Z.ad 30)), some (.int ((nxt (prP s) i).1)), some (.int ((nxt (prP s) i).2)), some (.int (nI i)), v] 6 [] g1 0 0 := by
    intro n
    induction n with
    | zero => intro i g1 v hm hk hR1 hf1; exact absurd hm (Nat.not_lt_zero _)
    | succ n ih =>
      intro i g1 v hm hk hR1 hf1
      have hn1 : g1 31 2 = nI (nfO s) := hR1.1.1.trans hnf
      have hn2 : g1 32 2 = nI (npO s) := hR1.1.2.1.trans hnp
      refine v_iload_n C dX3_next_6 rfl rfl ?_
      refine v_aload_n C dX3_next_7 rfl rfl ?_
      refine v_get C inG3 rfl 1 (by decide) (tg1 67 rfl rfl) rfl cx_T rfl dX3_next_8 ?_
      refine v_callVi (n := 0) (as := []) C (c_lsize _ Z 32 37 g1 cx_L2) (gv (tg1 97 rfl rfl) (tg1 98 rfl rfl) (tg1 99 rfl rfl) (tg1 4 rfl rfl) (tg1 100 rfl rfl)) (by decide +kernel) ⟨Nat.le_of_ble_eq_true rfl, Nat.le_of_ble_eq_true rfl⟩ rfl cx_L2 rfl rfl (Nat.le_of_ble_eq_true rfl) dX3_next_11 ⟨Nat.le_of_ble_eq_true rfl, Nat.le_of_ble_eq_true rfl⟩ (fun r11 g11 hp11 => ?_)
      obtain ⟨rfl, hg11⟩ := hp11
      rw [hg11]
      refine v_topi (y := nI (npO s)) hn2 ?_
      refine v_icmp_ge (tgt := 51) C dX3_next_14 (by decide) (fun h14 => ?_) (fun h14 => ?_)
      · have hkn : i = npO s := Nat.le_antisymm hk ((nI_leI (by omega) (by omega)).mp h14)
        refine v_iload_n C dX3_next_51 rfl rfl ?_
        exact ret _ _ _ _ dX3_next_52 ⟨by rw [hkn], hR1, hf1⟩
      · have hi : i < npO s := Nat.lt_of_not_le fun z => h14 ((nI_leI (by omega) (by omega)).mpr z)
        have hP := PsP.mk hn2 hi hp6
        obtain ⟨r12, r13, r15, r16, r14, rL⟩ := hR1.2.2 i hi
        have hm9 : g1 (100 + 10 * i + 1) 2 = nI (nlO s i) := r14.trans (IvM_nl hI (by omega)).1
        have hm4 := (IvM_nl hI (show i < 6 by omega)).2
        refine v_aload_n C dX3_next_17 rfl rfl ?_
        refine v_aload_n C dX3_next_18 rfl rfl ?_
        refine v_get C inG3 rfl 1 (by decide) (tg1 67 rfl rfl) rfl cx_T rfl dX3_next_19 ?_
        refine v_iload_n C dX3_next_22 rfl rfl ?_
        refine v_callVq (n := 1) (as := [.int (nI i)]) C (c_lget _ Z 32 37 (npO s) i g1 cx_L2 hn2 hi (by omega) (fun j => Z.ad (100 + 10 * j)) (cxE2 hn2)) (gv (tg1 169 rfl rfl) (tg1 170 rfl rfl) (tg1 171 rfl rfl) (tg1 4 rfl rfl) (tg1 172 rfl rfl)) (by decide +kernel) ⟨Nat.le_of_ble_eq_true rfl, Nat.le_of_ble_eq_true rfl⟩ rfl cx_L2 rfl rfl (Nat.le_of_ble_eq_true rfl) dX3_next_23 ⟨Nat.le_of_ble_eq_true rfl, Nat.le_of_ble_eq_true rfl⟩ (fun r23 g23 hp23 => ?_)
        obtain ⟨rfl, hg23⟩ := hp23
        rw [hg23]
        refine v_st (st' := [.ref (Z.ad (100 + 10 * i)), .ref (Z.ad 30)]) rfl ?_
        refine v_cast C rfl (tg1 183 rfl rfl) (cxP hP) dX3_next_26 ?_
        refine v_callVi (n := 1) (as := [.ref (Z.ad (100 + 10 * i))]) C (c_proofIfSet _ Z i (nlO s i) (nfO s) (iz (s 12 i)) g1 hP hm9 hm4 hn1 hf5 (s 9) hI.2.2.1 hR1.1.2.2.2.2.1 (s 5) (fun i9 hi9 => (hR1.2.1 i9 hi9).2.1) (wdO s) (fun q hq => (rL q hq).1) (IvM_t hI (by omega)).2 (r12.trans (IvM_t hI (by omega)).1)) (gv (tg2 110 rfl rfl) (tg2 112 rfl rfl) (tg0 13 rfl rfl) (tg1 1 rfl rfl) (tg2 113 rfl rfl)) (by decide +kernel) ⟨Nat.le_of_ble_eq_true rfl, Nat.le_of_ble_eq_true rfl⟩ rfl cx_T rfl rfl (Nat.le_of_ble_eq_true rfl) dX3_next_29 ⟨Nat.le_of_ble_eq_true rfl, Nat.le_of_ble_eq_true rfl⟩ (fun r29 g29 hp29 => ?_)
        obtain ⟨hf9, hs9, hr9⟩ := hp29
        refine v_topi (y := prP s i) (by rw [hr9]; exact Rl_prP hI hB hR1 hi) ?_
        have hR2 := Rl_frC hI hR1 hi hf9 hs9
        have hf2 := hf1.trans (hf9.K (by omega))
        refine v_istore (lo' := [some (.ref (Z.ad 30)), some (.int ((nxt (prP s) i).1)), some (.int ((nxt (prP s) i).2)), some (.int (nI i)), some (.int (prP s i))]) C dX3_next_32 (Nat.le_of_ble_eq_true rfl) rfl rfl ?_
        refine v_iload C dX3_next_34 rfl ?_
        refine v_iload_n C dX3_next_36 rfl rfl ?_
        refine v_icmp_le (tgt := 45) C dX3_next_37 (by decide) (fun h37 => ?_) (fun h37 => ?_)
        · refine v_lo (lo' := [some (.ref (Z.ad 30)), some (.int ((nxt (prP s) (i + 1)).1)), some (.int ((nxt (prP s) (i + 1)).2)), some (.int (nI i)), some (.int (prP s i))]) (by rw [nxt, if_neg (by rw [i_le] at h37; rw [i_lt]; omega)]) ?_
          refine v_iinc (lo' := [some (.ref (Z.ad 30)), some (.int ((nxt (prP s) (i + 1)).1)), some (.int ((nxt (prP s) (i + 1)).2)), some (.int ((nI i) + 1)), some (.int (prP s i))]) C dX3_next_45 rfl rfl rfl rfl ?_
          refine v_lo (lo' := [some (.ref (Z.ad 30)), some (.int ((nxt (prP s) (i + 1)).1)), some (.int ((nxt (prP s) (i + 1)).2)), some (.int (nI (i + 1))), some (.int (prP s i))]) (by rw [← nI_1 i]) ?_
          refine v_goto (tgt := 6) C dX3_next_48 (by decide) ?_
          exact ih (i + 1) _ _ (by omega) (by omega) hR2 hf2
        · refine v_iload_n C dX3_next_40 rfl rfl ?_
          refine v_istore_n (lo' := [some (.ref (Z.ad 30)), some (.int (nI i)), some (.int ((nxt (prP s) i).2)), some (.int (nI i)), some (.int (prP s i))]) C dX3_next_41 rfl (Nat.le_of_ble_eq_true rfl) rfl rfl ?_
          refine v_iload C dX3_next_42 rfl ?_
          refine v_istore_n (lo' := [some (.ref (Z.ad 30)), some (.int (nI i)), some (.int (prP s i)), some (.int (nI i)), some (.int (prP s i))]) C dX3_next_44 rfl (Nat.le_of_ble_eq_true rfl) rfl rfl ?_
          refine v_lo (lo' := [some (.ref (Z.ad 30)), some (.int ((nxt (prP s) (i + 1)).1)), some (.int ((nxt (prP s) (i + 1)).2)), some (.int (nI i)), some (.int (prP s i))]) (by rw [nxt, if_pos (by rw [i_le] at h37; rw [i_lt]; omega)]) ?_
          refine v_iinc (lo' := [some (.ref (Z.ad 30)), some (.int ((nxt (prP s) (i + 1)).1)), some (.int ((nxt (prP s) (i + 1)).2)), some (.int ((nI i) + 1)), some (.int (prP s i))]) C dX3_next_45 rfl rfl rfl rfl ?_
          refine v_lo (lo' := [some (.ref (Z.ad 30)), some (.int ((nxt (prP s) (i + 1)).1)), some (.int ((nxt (prP s) (i + 1)).2)), some (.int (nI (i + 1))), some (.int (prP s i))]) (by rw [← nI_1 i]) ?_
          refine v_goto (tgt := 6) C dX3_next_48 (by decide) ?_
          exact ih (i + 1) _ _ (by omega) (by omega) hR2 hf2
  refine v_iconst (v := (-1)) C dX3_next_0 (by decide) ?_
  refine v_istore_n (lo' := [some (.ref (Z.ad 30)), some (.int (-1)), none, none, none]) C dX3_next_1 rfl (Nat.le_of_ble_eq_true rfl) rfl rfl ?_
  refine v_iconst (v := (-1)) C dX3_next_2 (by decide) ?_
  refine v_istore_n (lo' := [some (.ref (Z.ad 30)), some (.int (-1)), some (.int (-1)), none, none]) C dX3_next_3 rfl (Nat.le_of_ble_eq_true rfl) rfl rfl ?_
  refine v_iconst (v := 0) C dX3_next_4 (by decide) ?_
  refine v_topi (y := nI 0) rfl ?_
  refine v_istore_n (lo' := [some (.ref (Z.ad 30)), some (.int (-1)), some (.int (-1)), some (.int (nI 0)), none]) C dX3_next_5 rfl (Nat.le_of_ble_eq_true rfl) rfl rfl ?_
  exact loop (npO s + 1) 0 g _ (by omega) (by omega) hR FrK.rf
/-- the blocks of a fount's letter that a poster has out -/
theorem outN_s {s g : MG} (hI : IvM s) (hF9 : IvF s) (hR : Rl s g) {p : Nat} (hp : p < npO s) (h1 : s 15 p = 1) {i c : Nat} (hi : i < 5) (hc : c < 10) : ∀ m, m ≤ nlO s p → sumI (fun q => if g (200 + 10 * (4 * p + q)) 3 = nI i then g (200 + 10 * (4 * p + q) + 2) c else 0) m = nI (outN (s 18) (tkO s) (wdO s) p i c m) := by
  intro m
  induction m with
  | zero => intro _; rfl
  | succ m ih =>
    intro hm
    have h5 := (IvM_nf hI).1
    obtain ⟨f, hf, hfe⟩ := hF9 p m hp h1 (by omega)
    have hl := ((hR.2.2 p hp).2.2.2.2.2 m (by omega)).2 h1
    rw [sumI, ih (by omega), hl.1, hl.2.2.2 c hc, outN]
    by_cases e : s 18 (4 * p + m) = nI i
    · rw [if_pos e, if_pos e, nI_add]
    · rw [if_neg e, if_neg e, Int32.add_zero, Nat.add_zero]
theorem ti_div {x y : Int32} (h : 0 < y.toInt) (hx : -1000000000 ≤ x.toInt ∧ x.toInt ≤ 1000000000) : (x / y).toInt = x.toInt.tdiv y.toInt := by
  have h1 := Int.natAbs_tdiv_le_natAbs x.toInt y.toInt
  rw [Int32.toInt_div, Int.bmod_eq_of_le] <;> omega
theorem cu_mx {w : Int32} {o : Nat} (ho : 0 < o) (ho2 : o ≤ 1000) (hw : 0 ≤ w.toInt) (hw2 : w.toInt ≤ 100000000) : cuW (nI o) w = mx0 ((400 - w + nI o - 1) / nI o) := by
  have z0 : (0 : Int32).toInt = 0 := rfl
  have z1 : (1 : Int32).toInt = 1 := rfl
  have z4 : (400 : Int32).toInt = 400 := rfl
  have to : (nI o).toInt = o := nI_toInt (by omega)
  have t1 : (400 - w).toInt = 400 - w.toInt := by rw [ti_sub (by omega) (by omega), z4]
  have t2 : (400 - w + nI o).toInt = 400 - w.toInt + o := by rw [ti_add (by omega) (by omega), t1, to]
  have t3 : (400 - w + nI o - 1).toInt = 400 - w.toInt + o - 1 := by rw [ti_sub (by omega) (by omega), t2, z1]
  have t4 : ((400 - w + nI o - 1) / nI o).toInt = (400 - w.toInt + o - 1).tdiv o := by rw [ti_div (by omega) (by omega), t3, to]
  unfold cuW
  rw [if_neg (by rw [i_le]; omega)]
  by_cases h : 400 - w ≤ 0
  · rw [if_pos h]
    rw [i_le] at h
    have hq : (400 - w.toInt + o - 1).tdiv o ≤ 0 := by
      rcases Int.lt_or_le (400 - w.toInt + o - 1) 0 with h2 | h2
      · rw [show (400 - w.toInt + o - 1) = -(-(400 - w.toInt + o - 1)) by omega, Int.neg_tdiv, Int.tdiv_eq_ediv_of_nonneg (by omega)]
        have := Int.ediv_nonneg (show 0 ≤ -(400 - w.toInt + o - 1) by omega) (show 0 ≤ (o : Int) by omega)
        omega
      · rw [Int.tdiv_eq_ediv_of_nonneg h2, Int.ediv_eq_zero_of_lt h2 (by omega)]; decide
    unfold mx0
    rw [if_neg (by rw [i_lt]; omega)]
  · rw [if_neg h]
    rw [i_le] at h
    have hq : 0 < (400 - w.toInt + o - 1).tdiv o := by
      rw [Int.tdiv_eq_ediv_of_nonneg (by omega)]
      have := (Int.le_ediv_iff_mul_le (show 0 < (o : Int) by omega) (a := 1) (b := 400 - w.toInt + o - 1)).mpr (by omega)
      omega
    unfold mx0
    rw [if_pos (by rw [i_lt]; omega)]
theorem laO_le {s : MG} {p : Nat} : ∀ k, (laO s p k).toInt ≤ 400 := by
  intro k
  induction k with
  | zero => exact Int.le_refl _
  | succ k ih =>
    unfold laO
    split
    · exact ih
    · unfold mn
      split
      · next h => rw [i_lt] at h; omega
      · exact ih
theorem la_step {N : Nat} {s : MG} (hB : IvB N s) {p k : Nat} (hk : k < 50) (h4 : nlO s p ≤ 4) : mn (laO s p k) (cuW (nI (outO s p (k / 10) (k % 10))) (s 8 k)) = laO s p (k + 1) := by
  have ho : outO s p (k / 10) (k % 10) ≤ 40 := Nat.le_trans (outN_le _ _ _ _ _ _ _) (by omega)
  obtain ⟨hN, hb⟩ := hB
  obtain ⟨-, -, -, b5, b6⟩ := hb k hk
  by_cases h : nI (outO s p (k / 10) (k % 10)) ≤ 0
  · rw [laO, if_pos h]
    unfold cuW
    rw [if_pos h]
    unfold mn
    rw [if_neg]
    have := @laO_le s p k
    have z4 : (400 : Int32).toInt = 400 := rfl
    rw [i_lt]
    omega
  · rw [laO, if_neg h, cu_mx (nI_p (by omega) h) (by omega) b5 (by omega)]
theorem outN_far {s : MG} (hF9 : IvF s) {p : Nat} (hp : p < npO s) (h1 : s 15 p = 1) (h5 : nfO s ≤ 5) {i c : Nat} (hi : nfO s ≤ i) (hi2 : i < 100) : ∀ m, m ≤ nlO s p → outN (s 18) (tkO s) (wdO s) p i c m = 0 := by
  intro m
  induction m with
  | zero => intro _; rfl
  | succ m ih =>
    intro hm
    obtain ⟨f, hf, hfe⟩ := hF9 p m hp h1 (by omega)
    rw [outN, ih (by omega), hfe, if_neg (fun z => by have := nI_inj (by omega) (by omega) z; omega)]
theorem laO_z {s : MG} (hZ : IvZ s) (hF9 : IvF s) {p : Nat} (hp : p < npO s) (h1 : s 15 p = 1) (h5 : nfO s ≤ 5) : laO s p 50 = laO s p (10 * nfO s) := by
  have h : ∀ d, 10 * nfO s + d ≤ 50 → laO s p (10 * nfO s + d) = laO s p (10 * nfO s) := by
    intro d
    induction d with
    | zero => intro _; rfl
    | succ d ih =>
      intro hd
      rw [← Nat.add_assoc, laO, if_pos, ih (by omega)]
      unfold outO
      rw [outN_far hF9 hp h1 h5 (by omega) (by omega) _ (Nat.le_refl _)]
      decide
  have := h (50 - 10 * nfO s) (by omega)
  rw [show 10 * nfO s + (50 - 10 * nfO s) = 50 by omega] at this
  exact this
set_option maxRecDepth 100000 in
theorem x_lasts (l : Launch) (hl9 : l.stackTraces = false) (Z : Zc) (p : Int32) (s g : MG) (hI : IvM s) (hF9 : IvF s) (N : Nat) (hB : IvB N s) (hZ : IvZ s) (hR : Rl s g) : XI l yX3_lasts cX3_lasts 6 (some .int) (rmz 8 240 1 6) Z [.ref (Z.ad 30), .int p] g (PX g (cdLasts s p) (laO s (iz p) 50) (s)) (PXx g (cdLasts s p) (nm3 0 2 2) (s)) := by
  refine ent_xi (lo := [some (.ref (Z.ad 30)), some (.int p), none, none, none, none]) hl9 (by decide) rfl (by simp [lg_sl, Value.category]) rfl (by decide) (fun P hl C ret thr => ?_)
  have hnf := (IvM_nf hI).2
  have hf5 := (IvM_nf hI).1
  have hnp := (IvM_np hI).2
  have hp6 := (IvM_np hI).1
  have hn1 : g 31 2 = nI (nfO s) := hR.1.1.trans hnf
  have hn2 : g 32 2 = nI (npO s) := hR.1.2.1.trans hnp
  refine v_aload_n C dX3_lasts_0 rfl rfl ?_
  refine v_iload_n C dX3_lasts_1 rfl rfl ?_
  refine v_callVi (n := 1) (as := [.int p]) C (c_cisPoster _ Z (npO s) p g hn2 hp6) (gv (tg1 93 rfl rfl) (tg1 95 rfl rfl) (tg0 0 rfl rfl) (tg1 1 rfl rfl) (tg1 96 rfl rfl)) (by decide +kernel) ⟨Nat.le_of_ble_eq_true rfl, Nat.le_of_ble_eq_true rfl⟩ rfl cx_T rfl rfl (Nat.le_of_ble_eq_true rfl) dX3_lasts_2 ⟨Nat.le_of_ble_eq_true rfl, Nat.le_of_ble_eq_true rfl⟩ (fun r2 g2 hp2 => ?_)
  obtain ⟨rfl, hg2⟩ := hp2
  rw [hg2]
  refine v_if_ne (tgt := 18) C dX3_lasts_5 (by decide) (fun h5 => ?_) (fun h5 => ?_)
  · have k5 := bI_1.mp h5
    obtain ⟨a, ha, ea⟩ : ∃ a, a < npO s ∧ p = nI a := ⟨iz p, (isN_nI k5).2, (isN_nI k5).1⟩
    subst ea
    have hP := PsP.mk hn2 ha hp6
    obtain ⟨r12, r13, r15, r16, r14, rL⟩ := hR.2.2 a ha
    have hm : g (100 + 10 * a + 1) 2 = nI (nlO s a) := r14.trans (IvM_nl hI (by omega)).1
    have hm4 := (IvM_nl hI (show a < 6 by omega)).2
    refine v_aload_n C dX3_lasts_18 rfl rfl ?_
    refine v_get C inG3 rfl 1 (by decide) (tg1 67 rfl rfl) rfl cx_T rfl dX3_lasts_19 ?_
    refine v_iload_n C dX3_lasts_22 rfl rfl ?_
    refine v_callVq (n := 1) (as := [.int (nI a)]) C (c_lget _ Z 32 37 (npO s) a g cx_L2 hn2 ha (by omega) (fun j => Z.ad (100 + 10 * j)) (cxE2 hn2)) (gv (tg1 169 rfl rfl) (tg1 170 rfl rfl) (tg1 171 rfl rfl) (tg1 4 rfl rfl) (tg1 172 rfl rfl)) (by decide +kernel) ⟨Nat.le_of_ble_eq_true rfl, Nat.le_of_ble_eq_true rfl⟩ rfl cx_L2 rfl rfl (Nat.le_of_ble_eq_true rfl) dX3_lasts_23 ⟨Nat.le_of_ble_eq_true rfl, Nat.le_of_ble_eq_true rfl⟩ (fun r23 g23 hp23 => ?_)
    obtain ⟨rfl, hg23⟩ := hp23
    rw [hg23]
    refine v_st (st' := [.ref (Z.ad (100 + 10 * a))]) rfl ?_
    refine v_cast C rfl (tg1 183 rfl rfl) (cxP hP) dX3_lasts_26 ?_
    refine v_astore_n (lo' := [some (.ref (Z.ad 30)), some (.int (nI a)), some (.ref (Z.ad (100 + 10 * a))), none, none, none]) C dX3_lasts_29 rfl (Nat.le_of_ble_eq_true rfl) rfl rfl ?_
    refine v_aload_n C dX3_lasts_30 rfl rfl ?_
    refine v_get C inG2 rfl 3 (by decide) (tg3 96 rfl rfl) rfl (cxP hP) rfl dX3_lasts_31 ?_
    refine v_if_ne (tgt := 47) C dX3_lasts_34 (by decide) (fun h34 => ?_) (fun h34 => ?_)
    · refine v_sipush (v := 400) C dX3_lasts_47 (by decide) ?_
      refine v_topi (y := laO s a (10 * 0)) rfl ?_
      refine v_istore_n (lo' := [some (.ref (Z.ad 30)), some (.int (nI a)), some (.ref (Z.ad (100 + 10 * a))), some (.int (laO s a (10 * 0))), none, none]) C dX3_lasts_50 rfl (Nat.le_of_ble_eq_true rfl) rfl rfl ?_
      refine v_iconst (v := 0) C dX3_lasts_51 (by decide) ?_
      refine v_topi (y := nI 0) rfl ?_
      refine v_istore (lo' := [some (.ref (Z.ad 30)), some (.int (nI a)), some (.ref (Z.ad (100 + 10 * a))), some (.int (laO s a (10 * 0))), some (.int (nI 0)), none]) C dX3_lasts_52 (Nat.le_of_ble_eq_true rfl) rfl rfl ?_
      have h1 : s 15 a = 1 := (IvM_01 hI (by omega)).resolve_left (fun z => h34 (r15.trans z))
      have hfo := RlP_fo hI hF9 hR ha h1
      have hcd9 : cdLasts s (nI a) = 0 := by unfold cdLasts; rw [if_neg (by simp [k5]), if_neg (by rw [iz_nI (by omega), h1]; decide)]
      have loopC : ∀ (n : Nat) (c i : Nat), 10 - c < n → c ≤ 10 → i < nfO s → (∀ v, V P (rmz 8 240 1 6) Z [some (.ref (Z.ad 30)), some (.int (nI a)), some (.ref (Z.ad (100 + 10 * a))), some (.int (laO s a (10 * (i + 1)))), some (.int (nI (i + 1))), v] 54 [] g 0 0) → V P (rmz 8 240 1 6) Z [some (.ref (Z.ad 30)), some (.int (nI a)), some (.ref (Z.ad (100 + 10 * a))), some (.int (laO s a (10 * i + c))), some (.int (nI i)), some (.int (nI c))] 69 [] g 0 0 := by
        intro n
        induction n with
        | zero => intro c i hm8 hc hi K; exact absurd hm8 (Nat.not_lt_zero _)
        | succ n ih =>
          intro c i hm8 hc hi K
          refine v_iload C dX3_lasts_69 rfl ?_
          refine v_bipush (v := 10) C dX3_lasts_71 (by decide) ?_
          refine v_icmp_ge (tgt := 105) C dX3_lasts_73 (by decide) (fun h73 => ?_) (fun h73 => ?_)
          · have hcn : c = 10 := Nat.le_antisymm hc ((nI_leI (a := 10) (by decide) (by omega)).mp h73)
            subst hcn
            refine v_iinc (lo' := [some (.ref (Z.ad 30)), some (.int (nI a)), some (.ref (Z.ad (100 + 10 * a))), some (.int (laO s a (10 * i + 10))), some (.int ((nI i) + 1)), some (.int (nI 10))]) C dX3_lasts_105 rfl rfl rfl rfl ?_
            refine v_lo (lo' := [some (.ref (Z.ad 30)), some (.int (nI a)), some (.ref (Z.ad (100 + 10 * a))), some (.int (laO s a (10 * (i + 1)))), some (.int ((nI i) + 1)), some (.int (nI 10))]) (by rw [show 10 * (i + 1) = 10 * i + 10 by omega]) ?_
            refine v_lo (lo' := [some (.ref (Z.ad 30)), some (.int (nI a)), some (.ref (Z.ad (100 + 10 * a))), some (.int (laO s a (10 * (i + 1)))), some (.int (nI (i + 1))), some (.int (nI 10))]) (by rw [← nI_1 i]) ?_
            refine v_goto (tgt := 54) C dX3_lasts_108 (by decide) ?_
            exact K _
          · have hcn : c < 10 := Nat.lt_of_not_le fun z => h73 ((nI_leI (a := 10) (by decide) (by omega)).mpr z)
            have hF := FnP.mk hn1 hi hf5
            refine v_iload_n C dX3_lasts_76 rfl rfl ?_
            refine v_aload_n C dX3_lasts_77 rfl rfl ?_
            refine v_aload_n C dX3_lasts_78 rfl rfl ?_
            refine v_get C inG3 rfl 0 (by decide) (tg1 66 rfl rfl) rfl cx_T rfl dX3_lasts_79 ?_
            refine v_iload C dX3_lasts_82 rfl ?_
            refine v_callVq (n := 1) (as := [.int (nI i)]) C (c_lget _ Z 31 36 (nfO s) i g cx_L1 hn1 hi (by omega) (fun j => Z.ad (40 + 10 * j)) (cxE1 hn1)) (gv (tg1 169 rfl rfl) (tg1 170 rfl rfl) (tg1 171 rfl rfl) (tg1 4 rfl rfl) (tg1 172 rfl rfl)) (by decide +kernel) ⟨Nat.le_of_ble_eq_true rfl, Nat.le_of_ble_eq_true rfl⟩ rfl cx_L1 rfl rfl (Nat.le_of_ble_eq_true rfl) dX3_lasts_84 ⟨Nat.le_of_ble_eq_true rfl, Nat.le_of_ble_eq_true rfl⟩ (fun r84 g84 hp84 => ?_)
            obtain ⟨rfl, hg84⟩ := hp84
            rw [hg84]
            refine v_st (st' := [.ref (Z.ad (40 + 10 * i)), .ref (Z.ad (100 + 10 * a)), .int (laO s a (10 * i + c))]) rfl ?_
            refine v_cast C rfl (tg1 200 rfl rfl) (cxF hF) dX3_lasts_87 ?_
            refine v_iload C dX3_lasts_90 rfl ?_
            refine v_callSi (n := 3) (as := [.ref (Z.ad (100 + 10 * a)), .ref (Z.ad (40 + 10 * i)), .int (nI c)]) C (c_copiesUntilWorn _ Z a (nlO s a) i c g hP hm hm4 hF hcn hfo) (gs (tg2 122 rfl rfl) (tg2 123 rfl rfl) (tg1 1 rfl rfl) (tg2 124 rfl rfl)) (by decide +kernel) ⟨Nat.le_of_ble_eq_true rfl, Nat.le_of_ble_eq_true rfl⟩ rfl rfl (Nat.le_of_ble_eq_true rfl) dX3_lasts_92 ⟨Nat.le_of_ble_eq_true rfl, Nat.le_of_ble_eq_true rfl⟩ (fun r92 g92 hp92 => ?_)
            obtain ⟨rfl, hg92⟩ := hp92
            rw [hg92]
            refine v_topi (y := cuW (nI (outO s a ((10 * i + c) / 10) ((10 * i + c) % 10))) (s 8 (10 * i + c))) (by rw [outN_s hI hF9 hR ha h1 (show i < 5 by omega) hcn (nlO s a) (Nat.le_refl _), ((hR.2.1 i hi).2.2 c hcn).2.2, show (10 * i + c) / 10 = i by omega, show (10 * i + c) % 10 = c by omega]; rfl) ?_
            refine v_mmin C (tg2 129 rfl rfl) (tg2 32 rfl rfl) (tg1 14 rfl rfl) (tg2 33 rfl rfl) (Nat.le_of_ble_eq_true rfl) (Nat.le_of_ble_eq_true rfl) (Nat.le_of_ble_eq_true rfl) (Nat.le_of_ble_eq_true rfl) dX3_lasts_95 ?_
            refine v_topi (y := laO s a (10 * i + c + 1)) (la_step hB (by omega) hm4) ?_
            refine v_istore_n (lo' := [some (.ref (Z.ad 30)), some (.int (nI a)), some (.ref (Z.ad (100 + 10 * a))), some (.int (laO s a (10 * i + c + 1))), some (.int (nI i)), some (.int (nI c))]) C dX3_lasts_98 rfl (Nat.le_of_ble_eq_true rfl) rfl rfl ?_
            refine v_iinc (lo' := [some (.ref (Z.ad 30)), some (.int (nI a)), some (.ref (Z.ad (100 + 10 * a))), some (.int (laO s a (10 * i + c + 1))), some (.int (nI i)), some (.int ((nI c) + 1))]) C dX3_lasts_99 rfl rfl rfl rfl ?_
            refine v_lo (lo' := [some (.ref (Z.ad 30)), some (.int (nI a)), some (.ref (Z.ad (100 + 10 * a))), some (.int (laO s a (10 * i + c + 1))), some (.int (nI i)), some (.int (nI (c + 1)))]) (by rw [← nI_1 c]) ?_
            refine v_goto (tgt := 69) C dX3_lasts_102 (by decide) ?_
            exact ih (c + 1) i (by omega) (by omega) hi K
      have loop : ∀ (n : Nat) (i : Nat) (v : Option Value), nfO s - i < n → i ≤ nfO s → V P (rmz 8 240 1 6) Z [some (.ref (Z.ad 30)), some (.int (nI a)), some (.ref (Z.ad (100 + 10 * a))), some (.int (laO s a (10 * i))), some (.int (nI i)), v] 54 [] g 0 0 := by
        intro n
        induction n with
        | zero => intro i v hm8 hk; exact absurd hm8 (Nat.not_lt_zero _)
        | succ n ih =>
          intro i v hm8 hk
          refine v_iload C dX3_lasts_54 rfl ?_
          refine v_aload_n C dX3_lasts_56 rfl rfl ?_
          refine v_get C inG3 rfl 0 (by decide) (tg1 66 rfl rfl) rfl cx_T rfl dX3_lasts_57 ?_
          refine v_callVi (n := 0) (as := []) C (c_lsize _ Z 31 36 g cx_L1) (gv (tg1 97 rfl rfl) (tg1 98 rfl rfl) (tg1 99 rfl rfl) (tg1 4 rfl rfl) (tg1 100 rfl rfl)) (by decide +kernel) ⟨Nat.le_of_ble_eq_true rfl, Nat.le_of_ble_eq_true rfl⟩ rfl cx_L1 rfl rfl (Nat.le_of_ble_eq_true rfl) dX3_lasts_60 ⟨Nat.le_of_ble_eq_true rfl, Nat.le_of_ble_eq_true rfl⟩ (fun r60 g60 hp60 => ?_)
          obtain ⟨rfl, hg60⟩ := hp60
          rw [hg60]
          refine v_topi (y := nI (nfO s)) hn1 ?_
          refine v_icmp_ge (tgt := 111) C dX3_lasts_63 (by decide) (fun h63 => ?_) (fun h63 => ?_)
          · have hkn : i = nfO s := Nat.le_antisymm hk ((nI_leI (by omega) (by omega)).mp h63)
            refine v_iload_n C dX3_lasts_111 rfl rfl ?_
            refine v_wide (k := 1) (n := 6) (Nat.le_of_ble_eq_true rfl) (Nat.le_of_ble_eq_true rfl) ?_
            exact ret _ _ _ _ dX3_lasts_112 ⟨hcd9, (show laO s a (10 * i) = laO s (iz (nI a)) 50 by rw [iz_nI (by omega), hkn]; exact (laO_z hZ hF9 ha h1 hf5).symm), hR, FrK.rf⟩
          · have hi : i < nfO s := Nat.lt_of_not_le fun z => h63 ((nI_leI (by omega) (by omega)).mpr z)
            refine v_iconst (v := 0) C dX3_lasts_66 (by decide) ?_
            refine v_topi (y := nI 0) rfl ?_
            refine v_istore (lo' := [some (.ref (Z.ad 30)), some (.int (nI a)), some (.ref (Z.ad (100 + 10 * a))), some (.int (laO s a (10 * i))), some (.int (nI i)), some (.int (nI 0))]) C dX3_lasts_67 (Nat.le_of_ble_eq_true rfl) rfl rfl ?_
            refine v_lo (lo' := [some (.ref (Z.ad 30)), some (.int (nI a)), some (.ref (Z.ad (100 + 10 * a))), some (.int (laO s a (10 * i + 0))), some (.int (nI i)), some (.int (nI 0))]) rfl ?_
            exact loopC 11 0 i (by omega) (by omega) hi (fun v => ih (i + 1) v (by omega) (by omega))
      exact loop (nfO s + 1) 0 none (by omega) (by omega)
    · exact thr _ _ _ _ _ 2 _ _ (List.mem_of_getElem? (i := 17) rfl) ⟨Nat.le_of_ble_eq_true rfl, Nat.le_of_ble_eq_true rfl⟩ dX3_lasts_37 dX3_lasts_40 dX3_lasts_41 dX3_lasts_43 dX3_lasts_46 (PXx.no (k := 2) (by unfold cdLasts; rw [if_neg (by simp [k5]), if_pos (by rw [iz_nI (by omega)]; exact r15.symm.trans h34)]) (by decide) rfl rfl hR FrK.rf)
  · have k5 := bI_0.mp h5
    exact thr _ _ _ _ _ 0 _ _ (List.mem_of_getElem? (i := 12) rfl) ⟨Nat.le_of_ble_eq_true rfl, Nat.le_of_ble_eq_true rfl⟩ dX3_lasts_8 dX3_lasts_11 dX3_lasts_12 dX3_lasts_14 dX3_lasts_17 (PXx.no (k := 1) (by unfold cdLasts; rw [if_pos k5]) (by decide) rfl rfl hR FrK.rf)
