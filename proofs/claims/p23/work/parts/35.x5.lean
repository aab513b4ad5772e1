/-! THE CLASS: plans said of the reference's rows; would, next -/
/-- bounds that grow with the number N of calls -/
def IvB (N : Nat) (s : MG) : Prop := N ≤ 2048 ∧ ∀ j, j < 50 → (-(40 * (N : Int)) ≤ (s 7 j).toInt ∧ (s 7 j).toInt ≤ 40 * N) ∧ (s 7 j).toInt ≤ (s 6 j).toInt ∧ (s 6 j).toInt ≤ 9 ∧ 0 ≤ (s 8 j).toInt ∧ (s 8 j).toInt ≤ 16000 * N
theorem okE_C {N : Nat} {s : MG} (hB : IvB N s) {lf : Nat → Nat → Int32} {n : Nat} (h5 : n ≤ 5) (hlf : ∀ i, i < n → ∀ j, j < 10 → lf i j = s 6 (10 * i + j) - s 7 (10 * i + j)) : okE (okA (s 6) (s 7)) (okC lf) n := by
  intro c mo mo' hc hR f k x hf hk hx
  obtain ⟨e1, a, ha, e2⟩ := hR (10 * f + k) (by omega)
  obtain ⟨hN, hb⟩ := hB
  obtain ⟨⟨b1, b2⟩, b3, b4, -, -⟩ := hb (10 * f + k) (by omega)
  unfold okA okC
  rw [hlf f hf k hk, ← e1, e2]
  have t1 : (s 6 (10 * f + k) - s 7 (10 * f + k)).toInt = (s 6 (10 * f + k)).toInt - (s 7 (10 * f + k)).toInt := ti_sub (by omega) (by omega)
  have ta : (nI a).toInt = a := nI_toInt (by omega)
  have tx : (nI x).toInt = x := nI_toInt (by omega)
  have t2 : (s 6 (10 * f + k) - s 7 (10 * f + k) - nI a).toInt = (s 6 (10 * f + k)).toInt - (s 7 (10 * f + k)).toInt - a := by rw [ti_sub (by omega) (by omega), t1, ta]
  have t3 : (s 6 (10 * f + k) - s 7 (10 * f + k) - nI a - nI x).toInt = (s 6 (10 * f + k)).toInt - (s 7 (10 * f + k)).toInt - a - x := by rw [ti_sub (by omega) (by omega), t2, tx]
  have z0 : (0 : Int32).toInt = 0 := rfl
  refine decide_eq_decide.mpr ?_
  rw [i_lt, i_lt, t3, t2, tx, z0]
  omega
theorem Rm_z (s : MG) : Rm 0 (moZ s) (fun _ => 0) := fun j hj => by unfold moZ; rw [if_pos hj]; exact ⟨rfl, 0, Nat.le_refl 0, rfl⟩
/-- the class' plan of a poster is the reference's -/
theorem plE_C {N : Nat} {s g : MG} (hI : IvM s) (hB : IvB N s) (hR : Rl s g) {p : Nat} (hp : p < npO s) : plE (plO s p) (plC g (s 9) (s 5) p (nlO s p) (nfO s) (wdO s)) := by
  have h6 := (IvM_np hI).1
  have h4 := (IvM_nl hI (show p < 6 by omega)).2
  obtain ⟨r12, r13, r15, -, -, -⟩ := hR.2.2 p hp
  unfold plO plM plC
  rw [r15, r13]
  rcases IvM_01 hI (show p < 6 by omega) with h | h
  · by_cases h0 : nlO s p = 0
    · rw [if_pos (Or.inr h0), if_neg (fun z => z.2 h0)]; exact trivial
    · rw [if_neg (by rintro (z | z); (· rw [h] at z; exact absurd z (by decide)); (· exact h0 z)), if_pos ⟨h, h0⟩]
      exact plA_cong (IvM_nf hI).1 hI.2.2.1 (okE_C hB (IvM_nf hI).1 (fun i hi j hj => ((hR.2.1 i hi).2.2 j hj).2.1)) _ [] _ _ 0 (Rm_z s) (by rw [wds_len]; omega)
  · rw [if_pos (Or.inl h), if_neg (by rw [h]; exact fun z => absurd z.1 (by decide))]; exact trivial
theorem plQC_wd {o : Option (List (Nat × TS) × (Nat → Int32))} {r : Int32} {g' : MG} {p : Nat} (h : plQC o r g' p) : r = wdF o := by
  cases o with
  | none => exact h
  | some a => exact h.1
theorem plE_prC {s g : MG} (hI : IvM s) (hR : Rl s g) {o o' : Option (List (Nat × TS) × (Nat → Int32))} (h : plE o o') (p m : Nat) (hp : p < 6) : prC g (s 5) p m (iz (s 12 p)) (wdO s) o' = prT s (wdO s) p m (iz (s 12 p)) o := by
  have ht := (IvM_t hI hp).2
  cases o with
  | none => cases o' with
    | none => rfl
    | some b => exact absurd h id
  | some a => cases o' with
    | none => exact absurd h id
    | some b =>
      unfold prC prT
      show mx0 (sumI (fun k => s 5 (lfn b.1 k) * nI (szw (wdO s (4 * p + k)))) m * g 34 (iz (s 12 p)) - flS b.1 * g 35 (iz (s 12 p))) = mx0 (sumI (fun k => s 5 (lfn a.1 k) * nI (szw (wdO s (4 * p + k)))) m * s 10 (iz (s 12 p)) - flS a.1 * s 11 (iz (s 12 p)))
      rw [h.1, hR.1.2.2.2.2.2.1 _ ht, hR.1.2.2.2.2.2.2 _ ht]
/-- a plan leaves the class as the reference's rows say -/
theorem Rl_frC {s g g' : MG} (hI : IvM s) (hR : Rl s g) {p : Nat} (hp : p < npO s) (hf : frC g g' p) (hs : ¬ g (100 + 10 * p) 3 = 0 → g' = g) : Rl s g' := by
  by_cases h0 : g (100 + 10 * p) 3 = 0
  · have h6 := (IvM_np hI).1
    obtain ⟨⟨a1, a2, a3, a4, a5, a6, a7⟩, hF, hP⟩ := hR
    have h15 : ¬ s 15 p = 1 := fun z => absurd (z.symm.trans ((hP p hp).2.2.1.symm.trans h0)) (by decide)
    refine ⟨⟨by rw [hf.1 31 (by omega) (by omega)]; exact a1, by rw [hf.1 32 (by omega) (by omega)]; exact a2, by rw [hf.1 30 (by omega) (by omega)]; exact a3, by rw [hf.1 30 (by omega) (by omega)]; exact a4, by rw [hf.1 33 (by omega) (by omega)]; exact a5, by rw [hf.1 34 (by omega) (by omega)]; exact a6, by rw [hf.1 35 (by omega) (by omega)]; exact a7⟩, hF.c rfl (fun _ _ _ => rfl) (fun k k1 k2 k3 => hf.1 k (by omega) (by omega)) (IvM_nf hI).1, fun a ha => ?_⟩
    obtain ⟨e1, e2, e3, e4, e5, e6⟩ := hP a ha
    rw [hf.1 (100 + 10 * a) (by omega) (by omega), hf.1 (100 + 10 * a + 1) (by omega) (by omega)]
    refine ⟨e1, e2, e3, e4, e5, fun q hq => ?_⟩
    have h4 := (IvM_nl hI (show a < 6 by omega)).2
    by_cases hap : a = p
    · subst hap
      exact (e6 q hq).c rfl rfl (fun z => absurd z h15) (hf.2 q 1 (by omega) (by decide) (by decide) (by decide)) (hf.1 _ (by omega) (by omega)) (fun z => absurd z h15)
    · exact (e6 q hq).c rfl rfl (fun _ => ⟨rfl, rfl, rfl⟩) (by rw [hf.1 _ (by omega) (by omega)]) (hf.1 _ (by omega) (by omega)) (fun _ => ⟨hf.1 _ (by omega) (by omega), hf.1 _ (by omega) (by omega)⟩)
  · rw [hs h0]; exact hR
set_option maxRecDepth 100000 in
theorem x_would (l : Launch) (hl9 : l.stackTraces = false) (Z : Zc) (p v : Int32) (s g : MG) (hI : IvM s) (N : Nat) (hB : IvB N s) (hR : Rl s g) : XI l yX3_would cX3_would 4 (some .int) (rmz 8 240 1 6) Z [.ref (Z.ad 30), .int p, .int v] g (PX g (cdWould s p v) (anWould s p v) (s)) (PXx g (cdWould s p v) (nm3 0 0 0) (s)) := by
  refine ent_xi (lo := [some (.ref (Z.ad 30)), some (.int p), some (.int v), none]) hl9 (by decide) rfl (by simp [lg_sl, Value.category]) rfl (by decide) (fun P hl C ret thr => ?_)
  have hnf := (IvM_nf hI).2
  have hf5 := (IvM_nf hI).1
  have hnp := (IvM_np hI).2
  have hp6 := (IvM_np hI).1
  have hn1 : g 31 2 = nI (nfO s) := hR.1.1.trans hnf
  have hn2 : g 32 2 = nI (npO s) := hR.1.2.1.trans hnp
  refine v_aload_n C dX3_would_0 rfl rfl ?_
  refine v_iload_n C dX3_would_1 rfl rfl ?_
  refine v_callVi (n := 1) (as := [.int p]) C (c_cisPoster _ Z (npO s) p g hn2 hp6) (gv (tg1 93 rfl rfl) (tg1 95 rfl rfl) (tg0 0 rfl rfl) (tg1 1 rfl rfl) (tg1 96 rfl rfl)) (by decide +kernel) ⟨Nat.le_of_ble_eq_true rfl, Nat.le_of_ble_eq_true rfl⟩ rfl cx_T rfl rfl (Nat.le_of_ble_eq_true rfl) dX3_would_2 ⟨Nat.le_of_ble_eq_true rfl, Nat.le_of_ble_eq_true rfl⟩ (fun r2 g2 hp2 => ?_)
  obtain ⟨rfl, hg2⟩ := hp2
  rw [hg2]
  refine v_if_eq (tgt := 17) C dX3_would_5 (by decide) (fun h5 => ?_) (fun h5 => ?_)
  · have k5 := bI_0.mp h5
    exact thr _ _ _ _ _ 0 _ _ (List.mem_of_getElem? (i := 23) rfl) ⟨Nat.le_of_ble_eq_true rfl, Nat.le_of_ble_eq_true rfl⟩ dX3_would_17 dX3_would_20 dX3_would_21 dX3_would_23 dX3_would_26 (PXx.no (k := 1) (by unfold cdWould; rw [if_pos (Or.inl k5)]) (by decide) rfl rfl hR FrK.rf)
  · have k5 := bI_1.mp h5
    obtain ⟨i, hi, ei⟩ : ∃ i, i < npO s ∧ p = nI i := ⟨iz p, (isN_nI k5).2, (isN_nI k5).1⟩
    subst ei
    have hP := PsP.mk hn2 hi hp6
    obtain ⟨r12, r13, r15, r16, r14, rL⟩ := hR.2.2 i hi
    have hm : g (100 + 10 * i + 1) 2 = nI (nlO s i) := r14.trans (IvM_nl hI (by omega)).1
    have hm4 := (IvM_nl hI (show i < 6 by omega)).2
    refine v_iload_n C dX3_would_8 rfl rfl ?_
    refine v_if_lt (tgt := 17) C dX3_would_9 (by decide) (fun h9 => ?_) (fun h9 => ?_)
    · exact thr _ _ _ _ _ 0 _ _ (List.mem_of_getElem? (i := 23) rfl) ⟨Nat.le_of_ble_eq_true rfl, Nat.le_of_ble_eq_true rfl⟩ dX3_would_17 dX3_would_20 dX3_would_21 dX3_would_23 dX3_would_26 (PXx.no (k := 1) (by unfold cdWould; rw [if_pos (Or.inr (inB_f.mpr (by have z0 : (0 : Int32).toInt = 0 := rfl; have z1 : (1 : Int32).toInt = 1 := rfl; simp only [i_lt, i_le] at h9; omega)))]) (by decide) rfl rfl hR FrK.rf)
    · refine v_iload_n C dX3_would_12 rfl rfl ?_
      refine v_iconst (v := 1) C dX3_would_13 (by decide) ?_
      refine v_icmp_le (tgt := 27) C dX3_would_14 (by decide) (fun h14 => ?_) (fun h14 => ?_)
      · refine v_aload_n C dX3_would_27 rfl rfl ?_
        refine v_get C inG3 rfl 1 (by decide) (tg1 67 rfl rfl) rfl cx_T rfl dX3_would_28 ?_
        refine v_iload_n C dX3_would_31 rfl rfl ?_
        refine v_callVq (n := 1) (as := [.int (nI i)]) C (c_lget _ Z 32 37 (npO s) i g cx_L2 hn2 hi (by omega) (fun j => Z.ad (100 + 10 * j)) (cxE2 hn2)) (gv (tg1 169 rfl rfl) (tg1 170 rfl rfl) (tg1 171 rfl rfl) (tg1 4 rfl rfl) (tg1 172 rfl rfl)) (by decide +kernel) ⟨Nat.le_of_ble_eq_true rfl, Nat.le_of_ble_eq_true rfl⟩ rfl cx_L2 rfl rfl (Nat.le_of_ble_eq_true rfl) dX3_would_32 ⟨Nat.le_of_ble_eq_true rfl, Nat.le_of_ble_eq_true rfl⟩ (fun r32 g32 hp32 => ?_)
        obtain ⟨rfl, hg32⟩ := hp32
        rw [hg32]
        refine v_st (st' := [.ref (Z.ad (100 + 10 * i))]) rfl ?_
        refine v_cast C rfl (tg1 183 rfl rfl) (cxP hP) dX3_would_35 ?_
        refine v_astore_n (lo' := [some (.ref (Z.ad 30)), some (.int (nI i)), some (.int v), some (.ref (Z.ad (100 + 10 * i)))]) C dX3_would_38 rfl (Nat.le_of_ble_eq_true rfl) rfl rfl ?_
        refine v_iload_n C dX3_would_39 rfl rfl ?_
        refine v_if_ne (tgt := 51) C dX3_would_40 (by decide) (fun h40 => ?_) (fun h40 => ?_)
        · refine v_aload_n C dX3_would_51 rfl rfl ?_
          refine v_aload_n C dX3_would_52 rfl rfl ?_
          refine v_callVi (n := 1) (as := [.ref (Z.ad (100 + 10 * i))]) C (c_plan _ Z i (nlO s i) (nfO s) g hP hm hm4  hn1 hf5 (s 9) hI.2.2.1 hR.1.2.2.2.2.1 (s 5) (fun i9 hi9 => (hR.2.1 i9 hi9).2.1) (wdO s) (fun q hq => (rL q hq).1)) (gv (tg1 184 rfl rfl) (tg1 186 rfl rfl) (tg0 2 rfl rfl) (tg1 1 rfl rfl) (tg1 187 rfl rfl)) (by decide +kernel) ⟨Nat.le_of_ble_eq_true rfl, Nat.le_of_ble_eq_true rfl⟩ rfl cx_T rfl rfl (Nat.le_of_ble_eq_true rfl) dX3_would_53 ⟨Nat.le_of_ble_eq_true rfl, Nat.le_of_ble_eq_true rfl⟩ (fun r53 g53 hp53 => ?_)
          obtain ⟨hf9, hs9, hq9⟩ := hp53
          refine v_wide (k := 1) (n := 6) (Nat.le_of_ble_eq_true rfl) (Nat.le_of_ble_eq_true rfl) ?_
          exact ret _ _ _ _ dX3_would_56 ⟨by unfold cdWould; rw [if_neg (by rintro (z | z); (· rw [k5] at z; cases z); (· exact inB_f.mp z (by have z0 : (0 : Int32).toInt = 0 := rfl; have z1 : (1 : Int32).toInt = 1 := rfl; simp only [i_lt, i_le] at h9 h14; omega)))], (show r53 = anWould s (nI i) v by unfold anWould; rw [if_neg h40, iz_nI (by omega), plQC_wd hq9]; exact plE_wd (plE_C hI hB hR hi)), Rl_frC hI hR hi hf9 hs9, hf9.K (by omega)⟩
        · refine v_aload_n C dX3_would_43 rfl rfl ?_
          refine v_aload_n C dX3_would_44 rfl rfl ?_
          refine v_callVi (n := 1) (as := [.ref (Z.ad (100 + 10 * i))]) C (c_proofIfSet _ Z i (nlO s i) (nfO s) (iz (s 12 i)) g hP hm hm4  hn1 hf5 (s 9) hI.2.2.1 hR.1.2.2.2.2.1 (s 5) (fun i9 hi9 => (hR.2.1 i9 hi9).2.1) (wdO s) (fun q hq => (rL q hq).1) (IvM_t hI (by omega)).2 (r12.trans (IvM_t hI (by omega)).1)) (gv (tg2 110 rfl rfl) (tg2 112 rfl rfl) (tg0 13 rfl rfl) (tg1 1 rfl rfl) (tg2 113 rfl rfl)) (by decide +kernel) ⟨Nat.le_of_ble_eq_true rfl, Nat.le_of_ble_eq_true rfl⟩ rfl cx_T rfl rfl (Nat.le_of_ble_eq_true rfl) dX3_would_45 ⟨Nat.le_of_ble_eq_true rfl, Nat.le_of_ble_eq_true rfl⟩ (fun r45 g45 hp45 => ?_)
          obtain ⟨hf9, hs9, hr9⟩ := hp45
          refine v_goto (tgt := 56) C dX3_would_48 (by decide) ?_
          refine v_wide (k := 1) (n := 6) (Nat.le_of_ble_eq_true rfl) (Nat.le_of_ble_eq_true rfl) ?_
          exact ret _ _ _ _ dX3_would_56 ⟨by unfold cdWould; rw [if_neg (by rintro (z | z); (· rw [k5] at z; cases z); (· exact inB_f.mp z (by have z0 : (0 : Int32).toInt = 0 := rfl; have z1 : (1 : Int32).toInt = 1 := rfl; simp only [i_lt, i_le] at h9 h14; omega)))], (show r45 = anWould s (nI i) v by unfold anWould; rw [if_pos h40, iz_nI (by omega), hr9]; exact plE_prC hI hR (plE_C hI hB hR hi) i _ (by omega)), Rl_frC hI hR hi hf9 hs9, hf9.K (by omega)⟩
      · exact thr _ _ _ _ _ 0 _ _ (List.mem_of_getElem? (i := 23) rfl) ⟨Nat.le_of_ble_eq_true rfl, Nat.le_of_ble_eq_true rfl⟩ dX3_would_17 dX3_would_20 dX3_would_21 dX3_would_23 dX3_would_26 (PXx.no (k := 1) (by unfold cdWould; rw [if_pos (Or.inr (inB_f.mpr (by have z0 : (0 : Int32).toInt = 0 := rfl; have z1 : (1 : Int32).toInt = 1 := rfl; simp only [i_lt, i_le] at h9 h14; omega)))]) (by decide) rfl rfl hR FrK.rf)
