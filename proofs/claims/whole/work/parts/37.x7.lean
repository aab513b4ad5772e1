/-! THE CLASS: advise -/
theorem okE_G {bl ou : Nat → Int32} {lf : Nat → Nat → Int32} {n : Nat} (hb : ∀ j, j < 50 → (-90000 ≤ (ou j).toInt ∧ (ou j).toInt ≤ 90000) ∧ -90000 ≤ (bl j).toInt ∧ (bl j).toInt ≤ 90000) (h5 : n ≤ 5) (hlf : ∀ i, i < n → ∀ j, j < 10 → lf i j = bl (10 * i + j) - ou (10 * i + j)) : okE (okA bl ou) (okC lf) n := by
  intro c mo mo' hc hR f k x hf hk hx
  obtain ⟨e1, a, ha, e2⟩ := hR (10 * f + k) (by omega)
  obtain ⟨⟨b1, b2⟩, b3, b4⟩ := hb (10 * f + k) (by omega)
  unfold okA okC
  rw [hlf f hf k hk, ← e1, e2]
  have t1 : (bl (10 * f + k) - ou (10 * f + k)).toInt = (bl (10 * f + k)).toInt - (ou (10 * f + k)).toInt := ti_sub (by omega) (by omega)
  have ta : (nI a).toInt = a := nI_toInt (by omega)
  have tx : (nI x).toInt = x := nI_toInt (by omega)
  have t2 : (bl (10 * f + k) - ou (10 * f + k) - nI a).toInt = (bl (10 * f + k)).toInt - (ou (10 * f + k)).toInt - a := by rw [ti_sub (by omega) (by omega), t1, ta]
  have t3 : (bl (10 * f + k) - ou (10 * f + k) - nI a - nI x).toInt = (bl (10 * f + k)).toInt - (ou (10 * f + k)).toInt - a - x := by rw [ti_sub (by omega) (by omega), t2, tx]
  have z0 : (0 : Int32).toInt = 0 := rfl
  refine decide_eq_decide.mpr ?_
  rw [i_lt, i_lt, t3, t2, tx, z0]
  omega
def adF (s : MG) (p k : Nat) : Int32 := if s 6 k = 9 then -1 else pfO s p k
def advS (s : MG) (p k : Nat) : Int32 × Int32 := adv (pfO s p) (s 6) (wdF (plO s p)) k
theorem advS_s (s : MG) (p k : Nat) : advS s p (k + 1) = if fwr (adF s p k) (advS s p k).2 = true then (nI k, adF s p k) else advS s p k := by
  unfold advS adF fwr
  rw [adv]
  by_cases h9 : s 6 k = 9
  · rw [if_pos h9, if_pos h9]; rfl
  · rw [if_neg h9, if_neg h9]
    by_cases h1 : pfO s p k = -1
    · rw [if_pos (Or.inl h1), if_neg (by simp [h1])]
    · by_cases h2 : (adv (pfO s p) (s 6) (wdF (plO s p)) k).2 = -1
      · rw [if_neg (by rintro (z | z); (· exact h1 z); (· exact z.1 h2)), if_pos (by simp [h1, h2])]
      · by_cases h3 : pfO s p k < (adv (pfO s p) (s 6) (wdF (plO s p)) k).2
        · rw [if_neg (by rintro (z | z); (· exact h1 z); (· exact z.2 h3)), if_pos (by simp [h1, h3])]
        · rw [if_pos (Or.inr ⟨h2, h3⟩), if_neg (by simp [h2, h3])]
/-- the flaws with one block more, of the class -/
theorem adF_C {N : Nat} {s g : MG} (hI : IvM s) (hB : IvB N s) (hR : Rl s g) {p i c : Nat} (hp : p < npO s) (hi : i < nfO s) (hc : c < 10) : wdF (plC1 g (s 9) (s 5) p (nlO s p) (nfO s) (wdO s) i c) = adF s p (10 * i + c) := by
  have h6 := (IvM_np hI).1
  have h5 := (IvM_nf hI).1
  have h4 := (IvM_nl hI (show p < 6 by omega)).2
  obtain ⟨r12, r13, r15, -, -, -⟩ := hR.2.2 p hp
  have hbl := ((hR.2.1 i hi).2.2 c hc).1
  have hN := hB.1
  have hb9 := (hB.2 (10 * i + c) (by omega)).2.2.1
  have z9 : (9 : Int32).toInt = 9 := rfl
  unfold plC1 adF
  rw [hbl, r15, r13]
  by_cases h9 : s 6 (10 * i + c) = 9
  · rw [if_pos h9, if_neg (by rw [h9]; exact fun z => absurd z.2 (by decide))]; rfl
  · rw [if_neg h9]
    have hlt : s 6 (10 * i + c) < 9 := by
      rw [i_lt]
      have : (s 6 (10 * i + c)).toInt ≠ 9 := fun z => h9 (by rw [i_eq, z9]; exact z)
      omega
    unfold pfO plO plM
    rw [show nlO (wr s 6 (10 * i + c) (s 6 (10 * i + c) + 1)) p = nlO s p from rfl, show nfO (wr s 6 (10 * i + c) (s 6 (10 * i + c) + 1)) = nfO s from rfl, show wdO (wr s 6 (10 * i + c) (s 6 (10 * i + c) + 1)) = wdO s from rfl]
    rw [wr_row s 6 (10 * i + c) (s 6 (10 * i + c) + 1) (show 15 ≠ 6 by decide), wr_row s 6 (10 * i + c) (s 6 (10 * i + c) + 1) (show 7 ≠ 6 by decide), wr_row s 6 (10 * i + c) (s 6 (10 * i + c) + 1) (show 9 ≠ 6 by decide), wr_row s 6 (10 * i + c) (s 6 (10 * i + c) + 1) (show 5 ≠ 6 by decide), wr_row s 6 (10 * i + c) (s 6 (10 * i + c) + 1) (show 13 ≠ 6 by decide)]
    rcases IvM_01 hI (show p < 6 by omega) with h | h
    · by_cases h0 : nlO s p = 0
      · rw [if_pos (Or.inr h0), if_neg (fun z => z.1.2 h0)]
      · have hno : ¬ (s 15 p = 1 ∨ nlO s p = 0) := by rintro (z | z); (· rw [h] at z; exact absurd z (by decide)); (· exact h0 z)
        rw [if_neg hno, if_pos ⟨⟨h, h0⟩, hlt⟩]
        refine plE_wd (plA_cong h5 hI.2.2.1 (okE_G (bl := wr s 6 (10 * i + c) (s 6 (10 * i + c) + 1) 6) (fun j hj => ?_) h5 (fun a ha j hj => ?_)) _ [] _ _ 0 (Rm_z _) (by rw [wds_len]; omega))
        · obtain ⟨⟨b1, b2⟩, b3, b4, -, -⟩ := hB.2 j hj
          refine ⟨⟨by omega, by omega⟩, ?_⟩
          by_cases e : j = 10 * i + c
          · rw [e, wr_same]
            rw [e] at b1 b2 b3 b4
            have z1 : (1 : Int32).toInt = 1 := rfl
            rw [ti_add (by omega) (by omega), z1]
            omega
          · rw [wr_ne _ _ _ _ (Or.inr e)]
            omega
        · have e2 := ((hR.2.1 a ha).2.2 j hj).2.1
          show (if a = i ∧ j = c then g (40 + 10 * a + 2) j + 1 else g (40 + 10 * a + 2) j) = wr s 6 (10 * i + c) (s 6 (10 * i + c) + 1) 6 (10 * a + j) - s 7 (10 * a + j)
          by_cases e : a = i ∧ j = c
          · obtain ⟨e3, e4⟩ := e
            subst e3
            subst e4
            rw [if_pos ⟨rfl, rfl⟩, wr_same, e2]
            grind
          · rw [if_neg e, wr_ne _ _ _ _ (Or.inr (by omega)), e2]
    · rw [if_pos (Or.inl h), if_neg (by rw [h]; exact fun z => absurd z.1.1 (by decide))]
theorem adv_no {s : MG} {p : Nat} (h : s 15 p = 1 ∨ nlO s p = 0) : ∀ k, advS s p k = (-1, -1) := by
  have h0 : plO s p = none := by unfold plO plM; rw [if_pos h]
  intro k
  induction k with
  | zero => show (-1, wdF (plO s p)) = _; rw [h0]; rfl
  | succ k ih =>
    rw [advS_s, if_neg]
    · exact ih
    · have : adF s p k = -1 := by
        unfold adF
        split
        · rfl
        · have h2 : plO (wr s 6 k (s 6 k + 1)) p = none := if_pos h
          unfold pfO
          rw [h2]
          rfl
      rw [this]
      simp [fwr]
set_option maxRecDepth 100000 in
theorem x_advise (l : Launch) (hl9 : l.stackTraces = false) (Z : Zc) (p : Int32) (s g : MG) (hI : IvM s) (N : Nat) (hB : IvB N s) (hR : Rl s g) : XI l yX3_advise cX3_advise 8 (some .int) (rmz 8 240 1 6) Z [.ref (Z.ad 30), .int p] g (PX g (cdAdvise s p) (anAdvise s (iz p)) (s)) (PXx g (cdAdvise s p) (nm3 0 0 0) (s)) := by
  refine ent_xi (lo := [some (.ref (Z.ad 30)), some (.int p), none, none, none, none, none, none]) hl9 (by decide) rfl (by simp [lg_sl, Value.category]) rfl (by decide) (fun P hl C ret thr => ?_)
  have hnf := (IvM_nf hI).2
  have hf5 := (IvM_nf hI).1
  have hnp := (IvM_np hI).2
  have hp6 := (IvM_np hI).1
  have hn1 : g 31 2 = nI (nfO s) := hR.1.1.trans hnf
  have hn2 : g 32 2 = nI (npO s) := hR.1.2.1.trans hnp
  refine v_aload_n C dX3_advise_0 rfl rfl ?_
  refine v_iload_n C dX3_advise_1 rfl rfl ?_
  refine v_callVi (n := 1) (as := [.int p]) C (c_cisPoster _ Z (npO s) p g hn2 hp6) (gv (tg2 70 rfl rfl) (tg2 72 rfl rfl) (tg0 15 rfl rfl) (tg1 1 rfl rfl) (tg2 73 rfl rfl)) (by decide +kernel) ⟨Nat.le_of_ble_eq_true rfl, Nat.le_of_ble_eq_true rfl⟩ rfl cx_T rfl rfl (Nat.le_of_ble_eq_true rfl) dX3_advise_2 ⟨Nat.le_of_ble_eq_true rfl, Nat.le_of_ble_eq_true rfl⟩ (fun r2 g2 hp2 => ?_)
  obtain ⟨rfl, hg2⟩ := hp2
  rw [hg2]
  refine v_if_ne (tgt := 18) C dX3_advise_5 (by decide) (fun h5 => ?_) (fun h5 => ?_)
  · have k5 := bI_1.mp h5
    obtain ⟨a, ha, ea⟩ : ∃ a, a < npO s ∧ p = nI a := ⟨iz p, (isN_nI k5).2, (isN_nI k5).1⟩
    subst ea
    have hP := PsP.mk hn2 ha hp6
    obtain ⟨r12, r13, r15, r16, r14, rL⟩ := hR.2.2 a ha
    have hm : g (100 + 10 * a + 1) 2 = nI (nlO s a) := r14.trans (IvM_nl hI (by omega)).1
    have hm4 := (IvM_nl hI (show a < 6 by omega)).2
    refine v_aload_n C dX3_advise_18 rfl rfl ?_
    refine v_get C inG3 rfl 1 (by decide) (tg1 59 rfl rfl) rfl cx_T rfl dX3_advise_19 ?_
    refine v_iload_n C dX3_advise_22 rfl rfl ?_
    refine v_callVq (n := 1) (as := [.int (nI a)]) C (c_lget _ Z 32 37 (npO s) a g cx_L2 hn2 ha (by omega) (fun j => Z.ad (100 + 10 * j)) (cxE2 hn2)) (gv (tg1 89 rfl rfl) (tg1 90 rfl rfl) (tg1 91 rfl rfl) (tg1 4 rfl rfl) (tg1 92 rfl rfl)) (by decide +kernel) ⟨Nat.le_of_ble_eq_true rfl, Nat.le_of_ble_eq_true rfl⟩ rfl cx_L2 rfl rfl (Nat.le_of_ble_eq_true rfl) dX3_advise_23 ⟨Nat.le_of_ble_eq_true rfl, Nat.le_of_ble_eq_true rfl⟩ (fun r23 g23 hp23 => ?_)
    obtain ⟨rfl, hg23⟩ := hp23
    rw [hg23]
    refine v_st (st' := [.ref (Z.ad (100 + 10 * a))]) rfl ?_
    refine v_cast C rfl (tg1 103 rfl rfl) (cxP hP) dX3_advise_26 ?_
    refine v_astore_n (lo' := [some (.ref (Z.ad 30)), some (.int (nI a)), some (.ref (Z.ad (100 + 10 * a))), none, none, none, none, none]) C dX3_advise_29 rfl (Nat.le_of_ble_eq_true rfl) rfl rfl ?_
    refine v_aload_n C dX3_advise_30 rfl rfl ?_
    refine v_callVi (n := 0) (as := []) C (c_isReady _ Z a g hP) (gv (tg1 112 rfl rfl) (tg1 113 rfl rfl) (tg1 114 rfl rfl) (tg1 19 rfl rfl) (tg1 115 rfl rfl)) (by decide +kernel) ⟨Nat.le_of_ble_eq_true rfl, Nat.le_of_ble_eq_true rfl⟩ rfl (cxP hP) rfl rfl (Nat.le_of_ble_eq_true rfl) dX3_advise_31 ⟨Nat.le_of_ble_eq_true rfl, Nat.le_of_ble_eq_true rfl⟩ (fun r31 g31 hp31 => ?_)
    obtain ⟨rfl, hg31⟩ := hp31
    rw [hg31]
    have hcd9 : cdAdvise s (nI a) = 0 := by unfold cdAdvise; rw [if_neg (by simp [k5])]
    refine v_if_ne (tgt := 39) C dX3_advise_34 (by decide) (fun h34 => ?_) (fun h34 => ?_)
    · refine v_iconst (v := (-1)) C dX3_advise_39 (by decide) ?_
      refine v_topi (y := (advS s a 0).1) rfl ?_
      refine v_istore_n (lo' := [some (.ref (Z.ad 30)), some (.int (nI a)), some (.ref (Z.ad (100 + 10 * a))), some (.int ((advS s a 0).1)), none, none, none, none]) C dX3_advise_40 rfl (Nat.le_of_ble_eq_true rfl) rfl rfl ?_
      refine v_aload_n C dX3_advise_41 rfl rfl ?_
      refine v_aload_n C dX3_advise_42 rfl rfl ?_
      refine v_callVi (n := 1) (as := [.ref (Z.ad (100 + 10 * a))]) C (c_plan _ Z a (nlO s a) (nfO s) g hP hm hm4  hn1 hf5 (s 9) hI.2.2.1 hR.1.2.2.2.2.1 (s 5) (fun i9 hi9 => (hR.2.1 i9 hi9).2.1) (wdO s) (fun q hq => (rL q hq).1)) (gv (tg1 108 rfl rfl) (tg1 110 rfl rfl) (tg0 1 rfl rfl) (tg1 1 rfl rfl) (tg1 111 rfl rfl)) (by decide +kernel) ⟨Nat.le_of_ble_eq_true rfl, Nat.le_of_ble_eq_true rfl⟩ rfl cx_T rfl rfl (Nat.le_of_ble_eq_true rfl) dX3_advise_43 ⟨Nat.le_of_ble_eq_true rfl, Nat.le_of_ble_eq_true rfl⟩ (fun r43 g43 hp43 => ?_)
      obtain ⟨hf9, hs9, hq9⟩ := hp43
      refine v_topi (y := (advS s a 0).2) (by rw [plQC_wd hq9]; exact plE_wd (plE_C hI hB hR ha)) ?_
      have hR2 := Rl_frC hI hR ha hf9 hs9
      have hf2 := hf9.K (show a < 6 by omega)
      refine v_istore (lo' := [some (.ref (Z.ad 30)), some (.int (nI a)), some (.ref (Z.ad (100 + 10 * a))), some (.int ((advS s a 0).1)), some (.int ((advS s a 0).2)), none, none, none]) C dX3_advise_46 (Nat.le_of_ble_eq_true rfl) rfl rfl ?_
      refine v_iconst (v := 0) C dX3_advise_48 (by decide) ?_
      refine v_topi (y := nI 0) rfl ?_
      refine v_istore (lo' := [some (.ref (Z.ad 30)), some (.int (nI a)), some (.ref (Z.ad (100 + 10 * a))), some (.int ((advS s a 0).1)), some (.int ((advS s a 0).2)), some (.int (nI 0)), none, none]) C dX3_advise_49 (Nat.le_of_ble_eq_true rfl) rfl rfl ?_
      have loopC : ∀ (n : Nat) (c i : Nat) (g1 : MG) (v2 : Option Value), 10 - c < n → c ≤ 10 → i < nfO s → Rl s g1 → FrK g g1 → (∀ (g1 : MG) (v v2 : Option Value), Rl s g1 → FrK g g1 → V P (rmz 8 240 1 6) Z [some (.ref (Z.ad 30)), some (.int (nI a)), some (.ref (Z.ad (100 + 10 * a))), some (.int ((advS s a (10 * (i + 1))).1)), some (.int ((advS s a (10 * (i + 1))).2)), some (.int (nI (i + 1))), v, v2] 51 [] g1 0 0) → V P (rmz 8 240 1 6) Z [some (.ref (Z.ad 30)), some (.int (nI a)), some (.ref (Z.ad (100 + 10 * a))), some (.int ((advS s a (10 * i + c)).1)), some (.int ((advS s a (10 * i + c)).2)), some (.int (nI i)), some (.int (nI c)), v2] 66 [] g1 0 0 := by
        intro n
        induction n with
        | zero => intro c i g1 v2 hm8 hc hi hR1 hf1 K; exact absurd hm8 (Nat.not_lt_zero _)
        | succ n ih =>
          intro c i g1 v2 hm8 hc hi hR1 hf1 K
          have hn3 : g1 31 2 = nI (nfO s) := hR1.1.1.trans hnf
          have hn4 : g1 32 2 = nI (npO s) := hR1.1.2.1.trans hnp
          have hP1 := PsP.mk hn4 ha hp6
          obtain ⟨q12, q13, q15, q16, q14, qL⟩ := hR1.2.2 a ha
          have hm1 : g1 (100 + 10 * a + 1) 2 = nI (nlO s a) := q14.trans (IvM_nl hI (by omega)).1
          refine v_iload C dX3_advise_66 rfl ?_
          refine v_bipush (v := 10) C dX3_advise_68 (by decide) ?_
          refine v_icmp_ge (tgt := 123) C dX3_advise_70 (by decide) (fun h70 => ?_) (fun h70 => ?_)
          · have hcn : c = 10 := Nat.le_antisymm hc ((nI_leI (a := 10) (by decide) (by omega)).mp h70)
            subst hcn
            refine v_iinc (lo' := [some (.ref (Z.ad 30)), some (.int (nI a)), some (.ref (Z.ad (100 + 10 * a))), some (.int ((advS s a (10 * i + 10)).1)), some (.int ((advS s a (10 * i + 10)).2)), some (.int ((nI i) + 1)), some (.int (nI 10)), v2]) C dX3_advise_123 rfl rfl rfl rfl ?_
            refine v_lo (lo' := [some (.ref (Z.ad 30)), some (.int (nI a)), some (.ref (Z.ad (100 + 10 * a))), some (.int ((advS s a (10 * (i + 1))).1)), some (.int ((advS s a (10 * (i + 1))).2)), some (.int (nI (i + 1))), some (.int (nI 10)), v2]) (by rw [show 10 * (i + 1) = 10 * i + 10 by omega, ← nI_1 i]) ?_
            refine v_goto (tgt := 51) C dX3_advise_126 (by decide) ?_
            exact K _ _ _ hR1 hf1
          · have hcn : c < 10 := Nat.lt_of_not_le fun z => h70 ((nI_leI (a := 10) (by decide) (by omega)).mpr z)
            have hF1 := FnP.mk hn3 hi hf5
            refine v_aload_n C dX3_advise_73 rfl rfl ?_
            refine v_aload_n C dX3_advise_74 rfl rfl ?_
            refine v_aload_n C dX3_advise_75 rfl rfl ?_
            refine v_get C inG3 rfl 0 (by decide) (tg1 58 rfl rfl) rfl cx_T rfl dX3_advise_76 ?_
            refine v_iload C dX3_advise_79 rfl ?_
            refine v_callVq (n := 1) (as := [.int (nI i)]) C (c_lget _ Z 31 36 (nfO s) i g1 cx_L1 hn3 hi (by omega) (fun j => Z.ad (40 + 10 * j)) (cxE1 hn3)) (gv (tg1 89 rfl rfl) (tg1 90 rfl rfl) (tg1 91 rfl rfl) (tg1 4 rfl rfl) (tg1 92 rfl rfl)) (by decide +kernel) ⟨Nat.le_of_ble_eq_true rfl, Nat.le_of_ble_eq_true rfl⟩ rfl cx_L1 rfl rfl (Nat.le_of_ble_eq_true rfl) dX3_advise_81 ⟨Nat.le_of_ble_eq_true rfl, Nat.le_of_ble_eq_true rfl⟩ (fun r81 g81 hp81 => ?_)
            obtain ⟨rfl, hg81⟩ := hp81
            rw [hg81]
            refine v_st (st' := [.ref (Z.ad (40 + 10 * i)), .ref (Z.ad (100 + 10 * a)), .ref (Z.ad 30)]) rfl ?_
            refine v_cast C rfl (tg1 124 rfl rfl) (cxF hF1) dX3_advise_84 ?_
            refine v_iload C dX3_advise_87 rfl ?_
            refine v_callVi (n := 3) (as := [.ref (Z.ad (100 + 10 * a)), .ref (Z.ad (40 + 10 * i)), .int (nI c)]) C (c_planWithOneMore _ Z a (nlO s a) (nfO s) i c g1 hi hcn hP1 hm1 hm4 hn3 hf5 (s 9) hI.2.2.1 hR1.1.2.2.2.2.1 (s 5) (fun i9 hi9 => (hR1.2.1 i9 hi9).2.1) (wdO s) (fun q hq => (qL q hq).1)) (gv (tg3 168 rfl rfl) (tg3 170 rfl rfl) (tg0 19 rfl rfl) (tg1 1 rfl rfl) (tg3 171 rfl rfl)) (by decide +kernel) ⟨Nat.le_of_ble_eq_true rfl, Nat.le_of_ble_eq_true rfl⟩ rfl cx_T rfl rfl (Nat.le_of_ble_eq_true rfl) dX3_advise_89 ⟨Nat.le_of_ble_eq_true rfl, Nat.le_of_ble_eq_true rfl⟩ (fun r89 g89 hp89 => ?_)
            obtain ⟨hf8, hs8, hq8⟩ := hp89
            refine v_topi (y := adF s a (10 * i + c)) (by rw [plQC_wd hq8]; exact adF_C hI hB hR1 ha hi hcn) ?_
            have hR3 := Rl_frC hI hR1 ha hf8 hs8
            have hf3 := hf1.trans (hf8.K (show a < 6 by omega))
            refine v_istore (lo' := [some (.ref (Z.ad 30)), some (.int (nI a)), some (.ref (Z.ad (100 + 10 * a))), some (.int ((advS s a (10 * i + c)).1)), some (.int ((advS s a (10 * i + c)).2)), some (.int (nI i)), some (.int (nI c)), some (.int (adF s a (10 * i + c)))]) C dX3_advise_92 (Nat.le_of_ble_eq_true rfl) rfl rfl ?_
            refine v_iload C dX3_advise_94 rfl ?_
            refine v_iload C dX3_advise_96 rfl ?_
            refine v_callSi (n := 2) (as := [.int (adF s a (10 * i + c)), .int ((advS s a (10 * i + c)).2)]) C (c_isFewer _ Z (adF s a (10 * i + c)) (advS s a (10 * i + c)).2 g89) (gs (tg3 172 rfl rfl) (tg3 173 rfl rfl) (tg1 1 rfl rfl) (tg3 174 rfl rfl)) (by decide +kernel) ⟨Nat.le_of_ble_eq_true rfl, Nat.le_of_ble_eq_true rfl⟩ rfl rfl (Nat.le_of_ble_eq_true rfl) dX3_advise_98 ⟨Nat.le_of_ble_eq_true rfl, Nat.le_of_ble_eq_true rfl⟩ (fun r98 g98 hp98 => ?_)
            obtain ⟨rfl, hg98⟩ := hp98
            rw [hg98]
            refine v_if_eq (tgt := 117) C dX3_advise_101 (by decide) (fun h101 => ?_) (fun h101 => ?_)
            · have k101 := bI_0.mp h101
              refine v_lo (lo' := [some (.ref (Z.ad 30)), some (.int (nI a)), some (.ref (Z.ad (100 + 10 * a))), some (.int ((advS s a (10 * i + c + 1)).1)), some (.int ((advS s a (10 * i + c + 1)).2)), some (.int (nI i)), some (.int (nI c)), some (.int (adF s a (10 * i + c)))]) (by rw [advS_s, if_neg (by rw [k101]; decide)]) ?_
              refine v_iinc (lo' := [some (.ref (Z.ad 30)), some (.int (nI a)), some (.ref (Z.ad (100 + 10 * a))), some (.int ((advS s a (10 * i + c + 1)).1)), some (.int ((advS s a (10 * i + c + 1)).2)), some (.int (nI i)), some (.int ((nI c) + 1)), some (.int (adF s a (10 * i + c)))]) C dX3_advise_117 rfl rfl rfl rfl ?_
              refine v_lo (lo' := [some (.ref (Z.ad 30)), some (.int (nI a)), some (.ref (Z.ad (100 + 10 * a))), some (.int ((advS s a (10 * i + c + 1)).1)), some (.int ((advS s a (10 * i + c + 1)).2)), some (.int (nI i)), some (.int (nI (c + 1))), some (.int (adF s a (10 * i + c)))]) (by rw [← nI_1 c]) ?_
              refine v_goto (tgt := 66) C dX3_advise_120 (by decide) ?_
              exact ih (c + 1) i _ _ (by omega) (by omega) hi hR3 hf3 K
            · have k101 := bI_1.mp h101
              refine v_bipush (v := 10) C dX3_advise_104 (by decide) ?_
              refine v_iload C dX3_advise_106 rfl ?_
              refine v_imul C dX3_advise_108 ?_
              refine v_iload C dX3_advise_109 rfl ?_
              refine v_iadd C dX3_advise_111 ?_
              refine v_topi (y := nI (10 * i + c)) (nI_10 i c) ?_
              refine v_istore_n (lo' := [some (.ref (Z.ad 30)), some (.int (nI a)), some (.ref (Z.ad (100 + 10 * a))), some (.int (nI (10 * i + c))), some (.int ((advS s a (10 * i + c)).2)), some (.int (nI i)), some (.int (nI c)), some (.int (adF s a (10 * i + c)))]) C dX3_advise_112 rfl (Nat.le_of_ble_eq_true rfl) rfl rfl ?_
              refine v_iload C dX3_advise_113 rfl ?_
              refine v_istore (lo' := [some (.ref (Z.ad 30)), some (.int (nI a)), some (.ref (Z.ad (100 + 10 * a))), some (.int (nI (10 * i + c))), some (.int (adF s a (10 * i + c))), some (.int (nI i)), some (.int (nI c)), some (.int (adF s a (10 * i + c)))]) C dX3_advise_115 (Nat.le_of_ble_eq_true rfl) rfl rfl ?_
              refine v_lo (lo' := [some (.ref (Z.ad 30)), some (.int (nI a)), some (.ref (Z.ad (100 + 10 * a))), some (.int ((advS s a (10 * i + c + 1)).1)), some (.int ((advS s a (10 * i + c + 1)).2)), some (.int (nI i)), some (.int (nI c)), some (.int (adF s a (10 * i + c)))]) (by rw [advS_s, if_pos k101]) ?_
              refine v_iinc (lo' := [some (.ref (Z.ad 30)), some (.int (nI a)), some (.ref (Z.ad (100 + 10 * a))), some (.int ((advS s a (10 * i + c + 1)).1)), some (.int ((advS s a (10 * i + c + 1)).2)), some (.int (nI i)), some (.int ((nI c) + 1)), some (.int (adF s a (10 * i + c)))]) C dX3_advise_117 rfl rfl rfl rfl ?_
              refine v_lo (lo' := [some (.ref (Z.ad 30)), some (.int (nI a)), some (.ref (Z.ad (100 + 10 * a))), some (.int ((advS s a (10 * i + c + 1)).1)), some (.int ((advS s a (10 * i + c + 1)).2)), some (.int (nI i)), some (.int (nI (c + 1))), some (.int (adF s a (10 * i + c)))]) (by rw [← nI_1 c]) ?_
              refine v_goto (tgt := 66) C dX3_advise_120 (by decide) ?_
              exact ih (c + 1) i _ _ (by omega) (by omega) hi hR3 hf3 K
      have loop : ∀ (n : Nat) (i : Nat) (g1 : MG) (v v2 : Option Value), nfO s - i < n → i ≤ nfO s → Rl s g1 → FrK g g1 → V P (rmz 8 240 1 6) Z [some (.ref (Z.ad 30)), some (.int (nI a)), some (.ref (Z.ad (100 + 10 * a))), some (.int ((advS s a (10 * i)).1)), some (.int ((advS s a (10 * i)).2)), some (.int (nI i)), v, v2] 51 [] g1 0 0 := by
        intro n
        induction n with
        | zero => intro i g1 v v2 hm8 hk hR1 hf1; exact absurd hm8 (Nat.not_lt_zero _)
        | succ n ih =>
          intro i g1 v v2 hm8 hk hR1 hf1
          have hn3 : g1 31 2 = nI (nfO s) := hR1.1.1.trans hnf
          refine v_iload C dX3_advise_51 rfl ?_
          refine v_aload_n C dX3_advise_53 rfl rfl ?_
          refine v_get C inG3 rfl 0 (by decide) (tg1 58 rfl rfl) rfl cx_T rfl dX3_advise_54 ?_
          refine v_callVi (n := 0) (as := []) C (c_lsize _ Z 31 36 g1 cx_L1) (gv (tg1 85 rfl rfl) (tg1 86 rfl rfl) (tg1 87 rfl rfl) (tg1 4 rfl rfl) (tg1 88 rfl rfl)) (by decide +kernel) ⟨Nat.le_of_ble_eq_true rfl, Nat.le_of_ble_eq_true rfl⟩ rfl cx_L1 rfl rfl (Nat.le_of_ble_eq_true rfl) dX3_advise_57 ⟨Nat.le_of_ble_eq_true rfl, Nat.le_of_ble_eq_true rfl⟩ (fun r57 g57 hp57 => ?_)
          obtain ⟨rfl, hg57⟩ := hp57
          rw [hg57]
          refine v_topi (y := nI (nfO s)) hn3 ?_
          refine v_icmp_ge (tgt := 129) C dX3_advise_60 (by decide) (fun h60 => ?_) (fun h60 => ?_)
          · have hkn : i = nfO s := Nat.le_antisymm hk ((nI_leI (by omega) (by omega)).mp h60)
            refine v_iload_n C dX3_advise_129 rfl rfl ?_
            refine v_wide (k := 1) (n := 6) (Nat.le_of_ble_eq_true rfl) (Nat.le_of_ble_eq_true rfl) ?_
            exact ret _ _ _ _ dX3_advise_130 ⟨hcd9, (show (advS s a (10 * i)).1 = anAdvise s (iz (nI a)) by rw [iz_nI (by omega), hkn]; rfl), hR1, hf1⟩
          · have hi : i < nfO s := Nat.lt_of_not_le fun z => h60 ((nI_leI (by omega) (by omega)).mpr z)
            refine v_iconst (v := 0) C dX3_advise_63 (by decide) ?_
            refine v_topi (y := nI 0) rfl ?_
            refine v_istore (lo' := [some (.ref (Z.ad 30)), some (.int (nI a)), some (.ref (Z.ad (100 + 10 * a))), some (.int ((advS s a (10 * i)).1)), some (.int ((advS s a (10 * i)).2)), some (.int (nI i)), some (.int (nI 0)), v2]) C dX3_advise_64 (Nat.le_of_ble_eq_true rfl) rfl rfl ?_
            refine v_lo (lo' := [some (.ref (Z.ad 30)), some (.int (nI a)), some (.ref (Z.ad (100 + 10 * a))), some (.int ((advS s a (10 * i + 0)).1)), some (.int ((advS s a (10 * i + 0)).2)), some (.int (nI i)), some (.int (nI 0)), v2]) rfl ?_
            exact loopC 11 0 i g1 v2 (by omega) (by omega) hi hR1 hf1 (fun g9 v v2 h1 h2 => ih (i + 1) g9 v v2 (by omega) (by omega) h1 h2)
      exact loop (nfO s + 1) 0 g43 none none (by omega) (by omega) hR2 hf2
    · have hno : s 15 a = 1 ∨ nlO s a = 0 := by
        have hr := mt (rdy hm hm4).mpr (ne_true_of_eq_false (bI_0.mp h34))
        rcases IvM_01 hI (show a < 6 by omega) with z | z
        · exact Or.inr (Classical.not_not.mp fun z2 => hr ⟨r15.trans z, z2⟩)
        · exact Or.inl z
      refine v_iconst (v := (-1)) C dX3_advise_37 (by decide) ?_
      refine v_wide (k := 1) (n := 6) (Nat.le_of_ble_eq_true rfl) (Nat.le_of_ble_eq_true rfl) ?_
      exact ret _ _ _ _ dX3_advise_38 ⟨hcd9, (show (-1 : Int32) = anAdvise s (iz (nI a)) by rw [iz_nI (by omega)]; show _ = (advS s a (10 * nfO s)).1; rw [adv_no hno]), hR, FrK.rf⟩
  · have k5 := bI_0.mp h5
    exact thr _ _ _ _ _ 0 _ _ (List.mem_of_getElem? (i := 12) rfl) ⟨Nat.le_of_ble_eq_true rfl, Nat.le_of_ble_eq_true rfl⟩ dX3_advise_8 dX3_advise_11 dX3_advise_12 dX3_advise_14 dX3_advise_17 (PXx.no (k := 1) (by unfold cdAdvise; rw [if_pos k5]) (by decide) rfl rfl hR FrK.rf)
