/-! THE CLASS: about, count -/
/-- rows of founts that are not there are empty -/
def IvZ (s : MG) : Prop := ∀ j, 10 * nfO s ≤ j → j < 50 → s 6 j = 0 ∧ s 7 j = 0 ∧ s 8 j = 0
theorem sumI_add (f : Nat → Int32) (a : Nat) : ∀ b, sumI f (a + b) = sumI f a + sumI (fun j => f (a + j)) b := by
  intro b
  induction b with
  | zero => rw [Nat.add_zero, sumI, Int32.add_zero]
  | succ b ih => rw [← Nat.add_assoc, sumI, sumI, ih, Int32.add_assoc]
theorem sumI_0 {f : Nat → Int32} : ∀ n, (∀ j, j < n → f j = 0) → sumI f n = 0 := by
  intro n
  induction n with
  | zero => intro _; rfl
  | succ n ih => intro h; rw [sumI, ih (fun j hj => h j (by omega)), h n (by omega)]; rfl
theorem sumI_sub (f h : Nat → Int32) : ∀ n, sumI (fun j => f j - h j) n = sumI f n - sumI h n := by
  intro n
  induction n with
  | zero => rw [sumI, sumI, sumI]; decide
  | succ n ih => rw [sumI, sumI, sumI, ih]; grind
theorem sumI_10 (f : Nat → Int32) : ∀ n, sumI (fun i => sumI (fun j => f (10 * i + j)) 10) n = sumI f (10 * n) := by
  intro n
  induction n with
  | zero => rfl
  | succ n ih => rw [sumI, ih, show 10 * (n + 1) = 10 * n + 10 by omega, sumI_add]
theorem sumI_50 {f : Nat → Int32} {n : Nat} (h5 : n ≤ 5) (h : ∀ j, 10 * n ≤ j → j < 50 → f j = 0) : sumI f 50 = sumI f (10 * n) := by
  rw [show (50 : Nat) = 10 * n + (50 - 10 * n) by omega, sumI_add, sumI_0 (f := fun j => f (10 * n + j)) (50 - 10 * n) (fun j hj => h _ (by omega) (by omega)), Int32.add_zero]
theorem Rl_blocks {s g : MG} (hI : IvM s) (hZ : IvZ s) (hR : Rl s g) : sumI (fun i => sumI (g (40 + 10 * i + 1)) 10) (nfO s) = sumI (s 6) 50 := by
  rw [sumI_50 (IvM_nf hI).1 (fun j h1 h2 => (hZ j h1 h2).1), ← sumI_10]
  exact sumI_cong _ (fun i hi => sumI_cong _ (fun j hj => ((hR.2.1 i hi).2.2 j hj).1))
theorem Rl_free {s g : MG} (hI : IvM s) (hZ : IvZ s) (hR : Rl s g) : sumI (fun i => sumI (g (40 + 10 * i + 1)) 10) (nfO s) - sumI (fun i => sumI (g (40 + 10 * i + 2)) 10) (nfO s) = sumI (s 7) 50 := by
  have e : sumI (fun i => sumI (g (40 + 10 * i + 2)) 10) (nfO s) = sumI (s 6) 50 - sumI (s 7) 50 := by
    rw [← sumI_sub, sumI_50 (f := fun j => s 6 j - s 7 j) (IvM_nf hI).1 (fun j h1 h2 => by obtain ⟨e1, e2, -⟩ := hZ j h1 h2; show s 6 j - s 7 j = 0; rw [e1, e2]; rfl), ← sumI_10]
    exact sumI_cong _ (fun i hi => sumI_cong _ (fun j hj => ((hR.2.1 i hi).2.2 j hj).2.1))
  rw [Rl_blocks hI hZ hR, e]
  grind
theorem Rl_pset {s g : MG} (hI : IvM s) (hR : Rl s g) : sumI (fun p => if g (100 + 10 * p) 3 = 0 then 0 else 1) (npO s) = sumI (s 15) (npO s) := by
  have h6 := (IvM_np hI).1
  refine sumI_cong _ (fun p hp => ?_)
  show (if g (100 + 10 * p) 3 = 0 then 0 else 1) = s 15 p
  rw [(hR.2.2 p hp).2.2.1]
  rcases IvM_01 hI (show p < 6 by omega) with h | h
  · rw [h]; rfl
  · rw [h]; rfl
set_option maxRecDepth 100000 in
theorem x_about (l : Launch) (hl9 : l.stackTraces = false) (Z : Zc) (p k v : Int32) (s g : MG) (hI : IvM s) (hF9 : IvF s) (hR : Rl s g) : XI l yX3_about cX3_about 6 (some .int) (rmz 8 240 1 6) Z [.ref (Z.ad 30), .int p, .int k, .int v] g (PX g (cdAbout s p k v) (ltoO s (iz p) (iz k) v) (s)) (PXx g (cdAbout s p k v) (nm3 0 0 0) (s)) := by
  refine ent_xi (lo := [some (.ref (Z.ad 30)), some (.int p), some (.int k), some (.int v), none, none]) hl9 (by decide) rfl (by simp [lg_sl, Value.category]) rfl (by decide) (fun P hl C ret thr => ?_)
  have hnf := (IvM_nf hI).2
  have hf5 := (IvM_nf hI).1
  have hnp := (IvM_np hI).2
  have hp6 := (IvM_np hI).1
  have hn1 : g 31 2 = nI (nfO s) := hR.1.1.trans hnf
  have hn2 : g 32 2 = nI (npO s) := hR.1.2.1.trans hnp
  refine v_aload_n C dX3_about_0 rfl rfl ?_
  refine v_iload_n C dX3_about_1 rfl rfl ?_
  refine v_callVi (n := 1) (as := [.int p]) C (c_cisPoster _ Z (npO s) p g hn2 hp6) (gv (tg1 93 rfl rfl) (tg1 95 rfl rfl) (tg0 0 rfl rfl) (tg1 1 rfl rfl) (tg1 96 rfl rfl)) (by decide +kernel) ⟨Nat.le_of_ble_eq_true rfl, Nat.le_of_ble_eq_true rfl⟩ rfl cx_T rfl rfl (Nat.le_of_ble_eq_true rfl) dX3_about_2 ⟨Nat.le_of_ble_eq_true rfl, Nat.le_of_ble_eq_true rfl⟩ (fun r2 g2 hp2 => ?_)
  obtain ⟨rfl, hg2⟩ := hp2
  rw [hg2]
  refine v_if_ne (tgt := 18) C dX3_about_5 (by decide) (fun h5 => ?_) (fun h5 => ?_)
  · have k5 := bI_1.mp h5
    obtain ⟨i, hi, ei⟩ : ∃ i, i < npO s ∧ p = nI i := ⟨iz p, (isN_nI k5).2, (isN_nI k5).1⟩
    subst ei
    have hP := PsP.mk hn2 hi hp6
    obtain ⟨r12, r13, r15, r16, r14, rL⟩ := hR.2.2 i hi
    have hm : g (100 + 10 * i + 1) 2 = nI (nlO s i) := r14.trans (IvM_nl hI (by omega)).1
    have hm4 := (IvM_nl hI (show i < 6 by omega)).2
    refine v_aload_n C dX3_about_18 rfl rfl ?_
    refine v_get C inG3 rfl 1 (by decide) (tg1 67 rfl rfl) rfl cx_T rfl dX3_about_19 ?_
    refine v_iload_n C dX3_about_22 rfl rfl ?_
    refine v_callVq (n := 1) (as := [.int (nI i)]) C (c_lget _ Z 32 37 (npO s) i g cx_L2 hn2 hi (by omega) (fun j => Z.ad (100 + 10 * j)) (cxE2 hn2)) (gv (tg1 169 rfl rfl) (tg1 170 rfl rfl) (tg1 171 rfl rfl) (tg1 4 rfl rfl) (tg1 172 rfl rfl)) (by decide +kernel) ⟨Nat.le_of_ble_eq_true rfl, Nat.le_of_ble_eq_true rfl⟩ rfl cx_L2 rfl rfl (Nat.le_of_ble_eq_true rfl) dX3_about_23 ⟨Nat.le_of_ble_eq_true rfl, Nat.le_of_ble_eq_true rfl⟩ (fun r23 g23 hp23 => ?_)
    obtain ⟨rfl, hg23⟩ := hp23
    rw [hg23]
    refine v_st (st' := [.ref (Z.ad (100 + 10 * i))]) rfl ?_
    refine v_cast C rfl (tg1 183 rfl rfl) (cxP hP) dX3_about_26 ?_
    refine v_astore (lo' := [some (.ref (Z.ad 30)), some (.int (nI i)), some (.int k), some (.int v), some (.ref (Z.ad (100 + 10 * i))), none]) C dX3_about_29 (Nat.le_of_ble_eq_true rfl) rfl rfl ?_
    refine v_iload_n C dX3_about_31 rfl rfl ?_
    refine v_if_lt (tgt := 47) C dX3_about_32 (by decide) (fun h32 => ?_) (fun h32 => ?_)
    · exact thr _ _ _ _ _ 0 _ _ (List.mem_of_getElem? (i := 20) rfl) ⟨Nat.le_of_ble_eq_true rfl, Nat.le_of_ble_eq_true rfl⟩ dX3_about_47 dX3_about_50 dX3_about_51 dX3_about_53 dX3_about_56 (PXx.no (k := 1) (by unfold cdAbout; rw [if_pos (Or.inr (Or.inl (by rw [iz_nI (show i < 2 ^ 31 by omega)]; exact isN_f1 h32)))]) (by decide) rfl rfl hR FrK.rf)
    · refine v_iload_n C dX3_about_35 rfl rfl ?_
      refine v_aload C dX3_about_36 rfl ?_
      refine v_get C inG2 rfl 2 (by decide) (tg3 94 rfl rfl) rfl (cxP hP) rfl dX3_about_38 ?_
      refine v_callVi (n := 0) (as := []) C (c_lsize _ Z (100 + 10 * i + 1) (100 + 10 * i + 1 + 1) g (cxPL hP)) (gv (tg1 97 rfl rfl) (tg1 98 rfl rfl) (tg1 99 rfl rfl) (tg1 4 rfl rfl) (tg1 100 rfl rfl)) (by decide +kernel) ⟨Nat.le_of_ble_eq_true rfl, Nat.le_of_ble_eq_true rfl⟩ rfl (cxPL hP) rfl rfl (Nat.le_of_ble_eq_true rfl) dX3_about_41 ⟨Nat.le_of_ble_eq_true rfl, Nat.le_of_ble_eq_true rfl⟩ (fun r41 g41 hp41 => ?_)
      obtain ⟨rfl, hg41⟩ := hp41
      rw [hg41]
      refine v_topi (y := nI (nlO s i)) hm ?_
      refine v_icmp_lt (tgt := 57) C dX3_about_44 (by decide) (fun h44 => ?_) (fun h44 => ?_)
      · have k44 : isN (nlO s i) k = true := isN_tt (by omega) h32 (lt_le.mpr h44)
        obtain ⟨q, hq, eq9⟩ : ∃ q, q < nlO s i ∧ k = nI q := ⟨iz k, (isN_nI k44).2, (isN_nI k44).1⟩
        subst eq9
        have hL : LnP g i q := LnP.mk hP hm hq hm4
        obtain ⟨w1, w2⟩ := rL q hq
        refine v_aload C dX3_about_57 rfl ?_
        refine v_get C inG2 rfl 2 (by decide) (tg3 94 rfl rfl) rfl (cxP hP) rfl dX3_about_59 ?_
        refine v_iload_n C dX3_about_62 rfl rfl ?_
        refine v_callVq (n := 1) (as := [.int (nI q)]) C (c_lget _ Z (100 + 10 * i + 1) (100 + 10 * i + 1 + 1) (nlO s i) q g (cxPL hP) hm hq (by omega) (fun j => Z.ad (200 + 10 * (4 * i + j))) (cxPE' hP hm)) (gv (tg1 169 rfl rfl) (tg1 170 rfl rfl) (tg1 171 rfl rfl) (tg1 4 rfl rfl) (tg1 172 rfl rfl)) (by decide +kernel) ⟨Nat.le_of_ble_eq_true rfl, Nat.le_of_ble_eq_true rfl⟩ rfl (cxPL hP) rfl rfl (Nat.le_of_ble_eq_true rfl) dX3_about_63 ⟨Nat.le_of_ble_eq_true rfl, Nat.le_of_ble_eq_true rfl⟩ (fun r63 g63 hp63 => ?_)
        obtain ⟨rfl, hg63⟩ := hp63
        rw [hg63]
        refine v_st (st' := [.ref (Z.ad (200 + 10 * (4 * i + q)))]) rfl ?_
        refine v_cast C rfl (tg1 212 rfl rfl) (cxLn hL) dX3_about_66 ?_
        refine v_astore (lo' := [some (.ref (Z.ad 30)), some (.int (nI i)), some (.int (nI q)), some (.int v), some (.ref (Z.ad (100 + 10 * i))), some (.ref (Z.ad (200 + 10 * (4 * i + q))))]) C dX3_about_69 (Nat.le_of_ble_eq_true rfl) rfl rfl ?_
        refine v_iload_n C dX3_about_71 rfl rfl ?_
        obtain ⟨b, hb, hvb⟩ | hnb : (∃ b, b < 4 ∧ v = nI b) ∨ inB v 0 3 = false := by cases hc : inB v 0 3; (· exact Or.inr rfl); (· exact Or.inl (inB_ex (n := 3) (by decide) hc))
        · subst hvb
          obtain rfl | rfl | rfl | rfl := (show b = 0 ∨ b = 1 ∨ b = 2 ∨ b = 3 by omega)
          · refine v_tabIn (off := 32) (tgt := 104) C dX3_about_72 (by decide) (by decide) rfl (by decide) ?_
            refine v_aload C dX3_about_104 rfl ?_
            refine v_get C inG1 rfl 1 (by decide) (tg4 190 rfl rfl) rfl (cxLn hL) rfl dX3_about_106 ?_
            refine v_wide (k := 1) (n := 6) (Nat.le_of_ble_eq_true rfl) (Nat.le_of_ble_eq_true rfl) ?_
            exact ret _ _ _ _ dX3_about_109 ⟨by unfold cdAbout; rw [if_neg (by rw [iz_nI (show i < 2 ^ 31 by omega)]; simp [k5, k44, show inB (nI 0) 0 3 = true by decide])], (show g (200 + 10 * (4 * i + q)) 1 = ltoO s (iz (nI i)) (iz (nI q)) (nI 0) by rw [iz_nI (show i < 2 ^ 31 by omega), iz_nI (show q < 2 ^ 31 by omega)]; unfold ltoO; rw [if_pos (by decide)]; exact w1.1), hR, FrK.rf⟩
          · refine v_tabIn (off := 38) (tgt := 110) C dX3_about_72 (by decide) (by decide) rfl (by decide) ?_
            refine v_aload C dX3_about_110 rfl ?_
            refine v_get C inG2 rfl 3 (by decide) (tg3 96 rfl rfl) rfl (cxP hP) rfl dX3_about_112 ?_
            refine v_if_eq (tgt := 126) C dX3_about_115 (by decide) (fun h115 => ?_) (fun h115 => ?_)
            · refine v_iconst (v := (-1)) C dX3_about_126 (by decide) ?_
              refine v_wide (k := 1) (n := 6) (Nat.le_of_ble_eq_true rfl) (Nat.le_of_ble_eq_true rfl) ?_
              exact ret _ _ _ _ dX3_about_127 ⟨by unfold cdAbout; rw [if_neg (by rw [iz_nI (show i < 2 ^ 31 by omega)]; simp [k5, k44, show inB (nI 1) 0 3 = true by decide])], (show (-1) = ltoO s (iz (nI i)) (iz (nI q)) (nI 1) by rw [iz_nI (show i < 2 ^ 31 by omega), iz_nI (show q < 2 ^ 31 by omega)]; unfold ltoO; rw [if_neg (by decide), if_pos (r15.symm.trans h115)]), hR, FrK.rf⟩
            · refine v_aload C dX3_about_118 rfl ?_
              have h1 := (IvM_01 hI (by omega)).resolve_left (fun z => h115 (r15.trans z))
              obtain ⟨f, hf, hfe⟩ := hF9 i q hi h1 hq
              refine v_callVi (n := 0) (as := []) C (c_fountNumber _ Z f i q g (FnP.mk hn1 hf hf5) hL ((w2 h1).1.trans hfe)) (gv (tg2 83 rfl rfl) (tg2 84 rfl rfl) (tg2 85 rfl rfl) (tg1 28 rfl rfl) (tg2 86 rfl rfl)) (by decide +kernel) ⟨Nat.le_of_ble_eq_true rfl, Nat.le_of_ble_eq_true rfl⟩ rfl (cxLn hL) rfl rfl (Nat.le_of_ble_eq_true rfl) dX3_about_120 ⟨Nat.le_of_ble_eq_true rfl, Nat.le_of_ble_eq_true rfl⟩ (fun r120 g120 hp120 => ?_)
              obtain ⟨rfl, hg120⟩ := hp120
              rw [hg120]
              refine v_goto (tgt := 127) C dX3_about_123 (by decide) ?_
              refine v_wide (k := 1) (n := 6) (Nat.le_of_ble_eq_true rfl) (Nat.le_of_ble_eq_true rfl) ?_
              exact ret _ _ _ _ dX3_about_127 ⟨by unfold cdAbout; rw [if_neg (by rw [iz_nI (show i < 2 ^ 31 by omega)]; simp [k5, k44, show inB (nI 1) 0 3 = true by decide])], (show g (40 + 10 * f) 0 = ltoO s (iz (nI i)) (iz (nI q)) (nI 1) by rw [iz_nI (show i < 2 ^ 31 by omega), iz_nI (show q < 2 ^ 31 by omega)]; unfold ltoO; rw [if_neg (by decide), if_neg (fun z => h115 (r15.trans z)), if_pos (by decide)]; exact ((hR.2.1 f hf).1.trans hfe.symm)), hR, FrK.rf⟩
          · refine v_tabIn (off := 56) (tgt := 128) C dX3_about_72 (by decide) (by decide) rfl (by decide) ?_
            refine v_aload C dX3_about_128 rfl ?_
            refine v_get C inG2 rfl 3 (by decide) (tg3 96 rfl rfl) rfl (cxP hP) rfl dX3_about_130 ?_
            refine v_if_eq (tgt := 144) C dX3_about_133 (by decide) (fun h133 => ?_) (fun h133 => ?_)
            · refine v_iconst (v := (-1)) C dX3_about_144 (by decide) ?_
              refine v_wide (k := 1) (n := 6) (Nat.le_of_ble_eq_true rfl) (Nat.le_of_ble_eq_true rfl) ?_
              exact ret _ _ _ _ dX3_about_145 ⟨by unfold cdAbout; rw [if_neg (by rw [iz_nI (show i < 2 ^ 31 by omega)]; simp [k5, k44, show inB (nI 2) 0 3 = true by decide])], (show (-1) = ltoO s (iz (nI i)) (iz (nI q)) (nI 2) by rw [iz_nI (show i < 2 ^ 31 by omega), iz_nI (show q < 2 ^ 31 by omega)]; unfold ltoO; rw [if_neg (by decide), if_pos (r15.symm.trans h133)]), hR, FrK.rf⟩
            · refine v_aload C dX3_about_136 rfl ?_
              refine v_get C inG1 rfl 4 (by decide) (tg4 199 rfl rfl) rfl (cxLn hL) rfl dX3_about_138 ?_
              refine v_goto (tgt := 145) C dX3_about_141 (by decide) ?_
              refine v_wide (k := 1) (n := 6) (Nat.le_of_ble_eq_true rfl) (Nat.le_of_ble_eq_true rfl) ?_
              exact ret _ _ _ _ dX3_about_145 ⟨by unfold cdAbout; rw [if_neg (by rw [iz_nI (show i < 2 ^ 31 by omega)]; simp [k5, k44, show inB (nI 2) 0 3 = true by decide])], (show g (200 + 10 * (4 * i + q)) 4 = ltoO s (iz (nI i)) (iz (nI q)) (nI 2) by rw [iz_nI (show i < 2 ^ 31 by omega), iz_nI (show q < 2 ^ 31 by omega)]; unfold ltoO; rw [if_neg (by decide), if_neg (fun z => h133 (r15.trans z)), if_neg (by decide), if_pos (by decide)]; exact (w2 ((IvM_01 hI (by omega)).resolve_left (fun z => h133 (r15.trans z)))).2.1), hR, FrK.rf⟩
          · refine v_tabIn (off := 74) (tgt := 146) C dX3_about_72 (by decide) (by decide) rfl (by decide) ?_
            refine v_aload C dX3_about_146 rfl ?_
            refine v_get C inG2 rfl 3 (by decide) (tg3 96 rfl rfl) rfl (cxP hP) rfl dX3_about_148 ?_
            refine v_if_eq (tgt := 162) C dX3_about_151 (by decide) (fun h151 => ?_) (fun h151 => ?_)
            · refine v_iconst (v := (-1)) C dX3_about_162 (by decide) ?_
              refine v_wide (k := 1) (n := 6) (Nat.le_of_ble_eq_true rfl) (Nat.le_of_ble_eq_true rfl) ?_
              exact ret _ _ _ _ dX3_about_163 ⟨by unfold cdAbout; rw [if_neg (by rw [iz_nI (show i < 2 ^ 31 by omega)]; simp [k5, k44, show inB (nI 3) 0 3 = true by decide])], (show (-1) = ltoO s (iz (nI i)) (iz (nI q)) (nI 3) by rw [iz_nI (show i < 2 ^ 31 by omega), iz_nI (show q < 2 ^ 31 by omega)]; unfold ltoO; rw [if_neg (by decide), if_pos (r15.symm.trans h151)]), hR, FrK.rf⟩
            · refine v_aload C dX3_about_154 rfl ?_
              refine v_get C inG1 rfl 5 (by decide) (tg4 201 rfl rfl) rfl (cxLn hL) rfl dX3_about_156 ?_
              refine v_goto (tgt := 163) C dX3_about_159 (by decide) ?_
              refine v_wide (k := 1) (n := 6) (Nat.le_of_ble_eq_true rfl) (Nat.le_of_ble_eq_true rfl) ?_
              exact ret _ _ _ _ dX3_about_163 ⟨by unfold cdAbout; rw [if_neg (by rw [iz_nI (show i < 2 ^ 31 by omega)]; simp [k5, k44, show inB (nI 3) 0 3 = true by decide])], (show g (200 + 10 * (4 * i + q)) 5 = ltoO s (iz (nI i)) (iz (nI q)) (nI 3) by rw [iz_nI (show i < 2 ^ 31 by omega), iz_nI (show q < 2 ^ 31 by omega)]; unfold ltoO; rw [if_neg (by decide), if_neg (fun z => h151 (r15.trans z)), if_neg (by decide), if_neg (by decide)]; exact (w2 ((IvM_01 hI (by omega)).resolve_left (fun z => h151 (r15.trans z)))).2.2.1), hR, FrK.rf⟩
        · refine v_tabOut (tgt := 164) C dX3_about_72 ?_ (by decide) ?_
          · have z0 : (0 : Int32).toInt = 0 := rfl
            have zn : (3 : Int32).toInt = 3 := rfl
            have := inB_f.mp hnb
            omega
          exact thr _ _ _ _ _ 0 _ _ (List.mem_of_getElem? (i := 21) rfl) ⟨Nat.le_of_ble_eq_true rfl, Nat.le_of_ble_eq_true rfl⟩ dX3_about_164 dX3_about_167 dX3_about_168 dX3_about_170 dX3_about_173 (PXx.no (k := 1) (by unfold cdAbout; rw [if_pos (Or.inr (Or.inr hnb))]) (by decide) rfl rfl hR FrK.rf)
      · exact thr _ _ _ _ _ 0 _ _ (List.mem_of_getElem? (i := 20) rfl) ⟨Nat.le_of_ble_eq_true rfl, Nat.le_of_ble_eq_true rfl⟩ dX3_about_47 dX3_about_50 dX3_about_51 dX3_about_53 dX3_about_56 (PXx.no (k := 1) (by unfold cdAbout; rw [if_pos (Or.inr (Or.inl (by rw [iz_nI (show i < 2 ^ 31 by omega)]; exact isN_f2 (by omega) (Classical.not_not.mp (fun z => h44 (lt_le.mp z))))))]) (by decide) rfl rfl hR FrK.rf)
  · have k5 := bI_0.mp h5
    exact thr _ _ _ _ _ 0 _ _ (List.mem_of_getElem? (i := 12) rfl) ⟨Nat.le_of_ble_eq_true rfl, Nat.le_of_ble_eq_true rfl⟩ dX3_about_8 dX3_about_11 dX3_about_12 dX3_about_14 dX3_about_17 (PXx.no (k := 1) (by unfold cdAbout; rw [if_pos (Or.inl k5)]) (by decide) rfl rfl hR FrK.rf)
set_option maxRecDepth 100000 in
theorem m_about (l : Launch) (Z : Zc) (p k v : Int32) (s g : MG) (hI : IvM s) (hF9 : IvF s) (hR : Rl s g) (hcd : cdAbout s p k v = 0) : MI l yX3_about cX3_about 6 (some .int) (rmz 8 240 0 0) Z [.ref (Z.ad 30), .int p, .int k, .int v] g (fun r g' => r = ltoO s (iz p) (iz k) v ∧ g' = g) := by
  refine ent_i (own := RX3) (lo := [some (.ref (Z.ad 30)), some (.int p), some (.int k), some (.int v), none, none]) (by decide) rfl (by simp [lg_sl, Value.category]) rfl (fun P hl C ret => ?_)
  have hnf := (IvM_nf hI).2
  have hf5 := (IvM_nf hI).1
  have hnp := (IvM_np hI).2
  have hp6 := (IvM_np hI).1
  have hn1 : g 31 2 = nI (nfO s) := hR.1.1.trans hnf
  have hn2 : g 32 2 = nI (npO s) := hR.1.2.1.trans hnp
  refine v_aload_n C dX3_about_0 rfl rfl ?_
  refine v_iload_n C dX3_about_1 rfl rfl ?_
  refine v_callVi (n := 1) (as := [.int p]) C (c_cisPoster _ Z (npO s) p g hn2 hp6) (gv (tg1 93 rfl rfl) (tg1 95 rfl rfl) (tg0 0 rfl rfl) (tg1 1 rfl rfl) (tg1 96 rfl rfl)) (by decide +kernel) ⟨Nat.le_of_ble_eq_true rfl, Nat.le_of_ble_eq_true rfl⟩ rfl cx_T rfl rfl (Nat.le_of_ble_eq_true rfl) dX3_about_2 ⟨Nat.le_of_ble_eq_true rfl, Nat.le_of_ble_eq_true rfl⟩ (fun r2 g2 hp2 => ?_)
  obtain ⟨rfl, hg2⟩ := hp2
  rw [hg2]
  refine v_if_ne (tgt := 18) C dX3_about_5 (by decide) (fun h5 => ?_) (fun h5 => ?_)
  · have k5 := bI_1.mp h5
    obtain ⟨i, hi, ei⟩ : ∃ i, i < npO s ∧ p = nI i := ⟨iz p, (isN_nI k5).2, (isN_nI k5).1⟩
    subst ei
    have hP := PsP.mk hn2 hi hp6
    obtain ⟨r12, r13, r15, r16, r14, rL⟩ := hR.2.2 i hi
    have hm : g (100 + 10 * i + 1) 2 = nI (nlO s i) := r14.trans (IvM_nl hI (by omega)).1
    have hm4 := (IvM_nl hI (show i < 6 by omega)).2
    refine v_aload_n C dX3_about_18 rfl rfl ?_
    refine v_get C inG3 rfl 1 (by decide) (tg1 67 rfl rfl) rfl cx_T rfl dX3_about_19 ?_
    refine v_iload_n C dX3_about_22 rfl rfl ?_
    refine v_callVq (n := 1) (as := [.int (nI i)]) C (c_lget _ Z 32 37 (npO s) i g cx_L2 hn2 hi (by omega) (fun j => Z.ad (100 + 10 * j)) (cxE2 hn2)) (gv (tg1 169 rfl rfl) (tg1 170 rfl rfl) (tg1 171 rfl rfl) (tg1 4 rfl rfl) (tg1 172 rfl rfl)) (by decide +kernel) ⟨Nat.le_of_ble_eq_true rfl, Nat.le_of_ble_eq_true rfl⟩ rfl cx_L2 rfl rfl (Nat.le_of_ble_eq_true rfl) dX3_about_23 ⟨Nat.le_of_ble_eq_true rfl, Nat.le_of_ble_eq_true rfl⟩ (fun r23 g23 hp23 => ?_)
    obtain ⟨rfl, hg23⟩ := hp23
    rw [hg23]
    refine v_st (st' := [.ref (Z.ad (100 + 10 * i))]) rfl ?_
    refine v_cast C rfl (tg1 183 rfl rfl) (cxP hP) dX3_about_26 ?_
    refine v_astore (lo' := [some (.ref (Z.ad 30)), some (.int (nI i)), some (.int k), some (.int v), some (.ref (Z.ad (100 + 10 * i))), none]) C dX3_about_29 (Nat.le_of_ble_eq_true rfl) rfl rfl ?_
    refine v_iload_n C dX3_about_31 rfl rfl ?_
    refine v_if_lt (tgt := 47) C dX3_about_32 (by decide) (fun h32 => ?_) (fun h32 => ?_)
    · exact absurd (hcd.symm.trans (show _ = 1 by unfold cdAbout; rw [if_pos (Or.inr (Or.inl (by rw [iz_nI (show i < 2 ^ 31 by omega)]; exact isN_f1 h32)))])) (by decide)
    · refine v_iload_n C dX3_about_35 rfl rfl ?_
      refine v_aload C dX3_about_36 rfl ?_
      refine v_get C inG2 rfl 2 (by decide) (tg3 94 rfl rfl) rfl (cxP hP) rfl dX3_about_38 ?_
      refine v_callVi (n := 0) (as := []) C (c_lsize _ Z (100 + 10 * i + 1) (100 + 10 * i + 1 + 1) g (cxPL hP)) (gv (tg1 97 rfl rfl) (tg1 98 rfl rfl) (tg1 99 rfl rfl) (tg1 4 rfl rfl) (tg1 100 rfl rfl)) (by decide +kernel) ⟨Nat.le_of_ble_eq_true rfl, Nat.le_of_ble_eq_true rfl⟩ rfl (cxPL hP) rfl rfl (Nat.le_of_ble_eq_true rfl) dX3_about_41 ⟨Nat.le_of_ble_eq_true rfl, Nat.le_of_ble_eq_true rfl⟩ (fun r41 g41 hp41 => ?_)
      obtain ⟨rfl, hg41⟩ := hp41
      rw [hg41]
      refine v_topi (y := nI (nlO s i)) hm ?_
      refine v_icmp_lt (tgt := 57) C dX3_about_44 (by decide) (fun h44 => ?_) (fun h44 => ?_)
      · have k44 : isN (nlO s i) k = true := isN_tt (by omega) h32 (lt_le.mpr h44)
        obtain ⟨q, hq, eq9⟩ : ∃ q, q < nlO s i ∧ k = nI q := ⟨iz k, (isN_nI k44).2, (isN_nI k44).1⟩
        subst eq9
        have hL : LnP g i q := LnP.mk hP hm hq hm4
        obtain ⟨w1, w2⟩ := rL q hq
        refine v_aload C dX3_about_57 rfl ?_
        refine v_get C inG2 rfl 2 (by decide) (tg3 94 rfl rfl) rfl (cxP hP) rfl dX3_about_59 ?_
        refine v_iload_n C dX3_about_62 rfl rfl ?_
        refine v_callVq (n := 1) (as := [.int (nI q)]) C (c_lget _ Z (100 + 10 * i + 1) (100 + 10 * i + 1 + 1) (nlO s i) q g (cxPL hP) hm hq (by omega) (fun j => Z.ad (200 + 10 * (4 * i + j))) (cxPE' hP hm)) (gv (tg1 169 rfl rfl) (tg1 170 rfl rfl) (tg1 171 rfl rfl) (tg1 4 rfl rfl) (tg1 172 rfl rfl)) (by decide +kernel) ⟨Nat.le_of_ble_eq_true rfl, Nat.le_of_ble_eq_true rfl⟩ rfl (cxPL hP) rfl rfl (Nat.le_of_ble_eq_true rfl) dX3_about_63 ⟨Nat.le_of_ble_eq_true rfl, Nat.le_of_ble_eq_true rfl⟩ (fun r63 g63 hp63 => ?_)
        obtain ⟨rfl, hg63⟩ := hp63
        rw [hg63]
        refine v_st (st' := [.ref (Z.ad (200 + 10 * (4 * i + q)))]) rfl ?_
        refine v_cast C rfl (tg1 212 rfl rfl) (cxLn hL) dX3_about_66 ?_
        refine v_astore (lo' := [some (.ref (Z.ad 30)), some (.int (nI i)), some (.int (nI q)), some (.int v), some (.ref (Z.ad (100 + 10 * i))), some (.ref (Z.ad (200 + 10 * (4 * i + q))))]) C dX3_about_69 (Nat.le_of_ble_eq_true rfl) rfl rfl ?_
        refine v_iload_n C dX3_about_71 rfl rfl ?_
        obtain ⟨b, hb, hvb⟩ | hnb : (∃ b, b < 4 ∧ v = nI b) ∨ inB v 0 3 = false := by cases hc : inB v 0 3; (· exact Or.inr rfl); (· exact Or.inl (inB_ex (n := 3) (by decide) hc))
        · subst hvb
          obtain rfl | rfl | rfl | rfl := (show b = 0 ∨ b = 1 ∨ b = 2 ∨ b = 3 by omega)
          · refine v_tabIn (off := 32) (tgt := 104) C dX3_about_72 (by decide) (by decide) rfl (by decide) ?_
            refine v_aload C dX3_about_104 rfl ?_
            refine v_get C inG1 rfl 1 (by decide) (tg4 190 rfl rfl) rfl (cxLn hL) rfl dX3_about_106 ?_
            exact ret _ _ _ _ dX3_about_109 ⟨(show g (200 + 10 * (4 * i + q)) 1 = ltoO s (iz (nI i)) (iz (nI q)) (nI 0) by rw [iz_nI (show i < 2 ^ 31 by omega), iz_nI (show q < 2 ^ 31 by omega)]; unfold ltoO; rw [if_pos (by decide)]; exact w1.1), rfl⟩
          · refine v_tabIn (off := 38) (tgt := 110) C dX3_about_72 (by decide) (by decide) rfl (by decide) ?_
            refine v_aload C dX3_about_110 rfl ?_
            refine v_get C inG2 rfl 3 (by decide) (tg3 96 rfl rfl) rfl (cxP hP) rfl dX3_about_112 ?_
            refine v_if_eq (tgt := 126) C dX3_about_115 (by decide) (fun h115 => ?_) (fun h115 => ?_)
            · refine v_iconst (v := (-1)) C dX3_about_126 (by decide) ?_
              exact ret _ _ _ _ dX3_about_127 ⟨(show (-1) = ltoO s (iz (nI i)) (iz (nI q)) (nI 1) by rw [iz_nI (show i < 2 ^ 31 by omega), iz_nI (show q < 2 ^ 31 by omega)]; unfold ltoO; rw [if_neg (by decide), if_pos (r15.symm.trans h115)]), rfl⟩
            · refine v_aload C dX3_about_118 rfl ?_
              have h1 := (IvM_01 hI (by omega)).resolve_left (fun z => h115 (r15.trans z))
              obtain ⟨f, hf, hfe⟩ := hF9 i q hi h1 hq
              refine v_callVi (n := 0) (as := []) C (c_fountNumber _ Z f i q g (FnP.mk hn1 hf hf5) hL ((w2 h1).1.trans hfe)) (gv (tg2 83 rfl rfl) (tg2 84 rfl rfl) (tg2 85 rfl rfl) (tg1 28 rfl rfl) (tg2 86 rfl rfl)) (by decide +kernel) ⟨Nat.le_of_ble_eq_true rfl, Nat.le_of_ble_eq_true rfl⟩ rfl (cxLn hL) rfl rfl (Nat.le_of_ble_eq_true rfl) dX3_about_120 ⟨Nat.le_of_ble_eq_true rfl, Nat.le_of_ble_eq_true rfl⟩ (fun r120 g120 hp120 => ?_)
              obtain ⟨rfl, hg120⟩ := hp120
              rw [hg120]
              refine v_goto (tgt := 127) C dX3_about_123 (by decide) ?_
              exact ret _ _ _ _ dX3_about_127 ⟨(show g (40 + 10 * f) 0 = ltoO s (iz (nI i)) (iz (nI q)) (nI 1) by rw [iz_nI (show i < 2 ^ 31 by omega), iz_nI (show q < 2 ^ 31 by omega)]; unfold ltoO; rw [if_neg (by decide), if_neg (fun z => h115 (r15.trans z)), if_pos (by decide)]; exact ((hR.2.1 f hf).1.trans hfe.symm)), rfl⟩
          · refine v_tabIn (off := 56) (tgt := 128) C dX3_about_72 (by decide) (by decide) rfl (by decide) ?_
            refine v_aload C dX3_about_128 rfl ?_
            refine v_get C inG2 rfl 3 (by decide) (tg3 96 rfl rfl) rfl (cxP hP) rfl dX3_about_130 ?_
            refine v_if_eq (tgt := 144) C dX3_about_133 (by decide) (fun h133 => ?_) (fun h133 => ?_)
            · refine v_iconst (v := (-1)) C dX3_about_144 (by decide) ?_
              exact ret _ _ _ _ dX3_about_145 ⟨(show (-1) = ltoO s (iz (nI i)) (iz (nI q)) (nI 2) by rw [iz_nI (show i < 2 ^ 31 by omega), iz_nI (show q < 2 ^ 31 by omega)]; unfold ltoO; rw [if_neg (by decide), if_pos (r15.symm.trans h133)]), rfl⟩
            · refine v_aload C dX3_about_136 rfl ?_
              refine v_get C inG1 rfl 4 (by decide) (tg4 199 rfl rfl) rfl (cxLn hL) rfl dX3_about_138 ?_
              refine v_goto (tgt := 145) C dX3_about_141 (by decide) ?_
              exact ret _ _ _ _ dX3_about_145 ⟨(show g (200 + 10 * (4 * i + q)) 4 = ltoO s (iz (nI i)) (iz (nI q)) (nI 2) by rw [iz_nI (show i < 2 ^ 31 by omega), iz_nI (show q < 2 ^ 31 by omega)]; unfold ltoO; rw [if_neg (by decide), if_neg (fun z => h133 (r15.trans z)), if_neg (by decide), if_pos (by decide)]; exact (w2 ((IvM_01 hI (by omega)).resolve_left (fun z => h133 (r15.trans z)))).2.1), rfl⟩
          · refine v_tabIn (off := 74) (tgt := 146) C dX3_about_72 (by decide) (by decide) rfl (by decide) ?_
            refine v_aload C dX3_about_146 rfl ?_
            refine v_get C inG2 rfl 3 (by decide) (tg3 96 rfl rfl) rfl (cxP hP) rfl dX3_about_148 ?_
            refine v_if_eq (tgt := 162) C dX3_about_151 (by decide) (fun h151 => ?_) (fun h151 => ?_)
            · refine v_iconst (v := (-1)) C dX3_about_162 (by decide) ?_
              exact ret _ _ _ _ dX3_about_163 ⟨(show (-1) = ltoO s (iz (nI i)) (iz (nI q)) (nI 3) by rw [iz_nI (show i < 2 ^ 31 by omega), iz_nI (show q < 2 ^ 31 by omega)]; unfold ltoO; rw [if_neg (by decide), if_pos (r15.symm.trans h151)]), rfl⟩
            · refine v_aload C dX3_about_154 rfl ?_
              refine v_get C inG1 rfl 5 (by decide) (tg4 201 rfl rfl) rfl (cxLn hL) rfl dX3_about_156 ?_
              refine v_goto (tgt := 163) C dX3_about_159 (by decide) ?_
              exact ret _ _ _ _ dX3_about_163 ⟨(show g (200 + 10 * (4 * i + q)) 5 = ltoO s (iz (nI i)) (iz (nI q)) (nI 3) by rw [iz_nI (show i < 2 ^ 31 by omega), iz_nI (show q < 2 ^ 31 by omega)]; unfold ltoO; rw [if_neg (by decide), if_neg (fun z => h151 (r15.trans z)), if_neg (by decide), if_neg (by decide)]; exact (w2 ((IvM_01 hI (by omega)).resolve_left (fun z => h151 (r15.trans z)))).2.2.1), rfl⟩
        · refine v_tabOut (tgt := 164) C dX3_about_72 ?_ (by decide) ?_
          · have z0 : (0 : Int32).toInt = 0 := rfl
            have zn : (3 : Int32).toInt = 3 := rfl
            have := inB_f.mp hnb
            omega
          exact absurd (hcd.symm.trans (show _ = 1 by unfold cdAbout; rw [if_pos (Or.inr (Or.inr hnb))])) (by decide)
      · exact absurd (hcd.symm.trans (show _ = 1 by unfold cdAbout; rw [if_pos (Or.inr (Or.inl (by rw [iz_nI (show i < 2 ^ 31 by omega)]; exact isN_f2 (by omega) (Classical.not_not.mp (fun z => h44 (lt_le.mp z))))))])) (by decide)
  · have k5 := bI_0.mp h5
    exact absurd (hcd.symm.trans (show _ = 1 by unfold cdAbout; rw [if_pos (Or.inl k5)])) (by decide)
set_option maxRecDepth 100000 in
theorem x_count (l : Launch) (hl9 : l.stackTraces = false) (Z : Zc) (v : Int32) (s g : MG) (hI : IvM s) (hZ : IvZ s) (hR : Rl s g) : XI l yX3_count cX3_count 2 (some .int) (rmz 8 240 1 6) Z [.ref (Z.ad 30), .int v] g (PX g (cdCount v) (ctO s (iz v)) (s)) (PXx g (cdCount v) (nm3 0 0 0) (s)) := by
  refine ent_xi (lo := [some (.ref (Z.ad 30)), some (.int v)]) hl9 (by decide) rfl (by simp [lg_sl, Value.category]) rfl (by decide) (fun P hl C ret thr => ?_)
  have hnf := (IvM_nf hI).2
  have hf5 := (IvM_nf hI).1
  have hnp := (IvM_np hI).2
  have hp6 := (IvM_np hI).1
  have hn1 : g 31 2 = nI (nfO s) := hR.1.1.trans hnf
  have hn2 : g 32 2 = nI (npO s) := hR.1.2.1.trans hnp
  refine v_iload_n C dX3_count_0 rfl rfl ?_
  obtain ⟨b, hb, hvb⟩ | hnb : (∃ b, b < 7 ∧ v = nI b) ∨ inB v 0 6 = false := by cases hc : inB v 0 6; (· exact Or.inr rfl); (· exact Or.inl (inB_ex (n := 6) (by decide) hc))
  · subst hvb
    obtain rfl | rfl | rfl | rfl | rfl | rfl | rfl := (show b = 0 ∨ b = 1 ∨ b = 2 ∨ b = 3 ∨ b = 4 ∨ b = 5 ∨ b = 6 by omega)
    · refine v_tabIn (off := 43) (tgt := 44) C dX3_count_1 (by decide) (by decide) rfl (by decide) ?_
      refine v_aload_n C dX3_count_44 rfl rfl ?_
      refine v_get C inG3 rfl 0 (by decide) (tg1 66 rfl rfl) rfl cx_T rfl dX3_count_45 ?_
      refine v_callVi (n := 0) (as := []) C (c_lsize _ Z 31 36 g cx_L1) (gv (tg1 97 rfl rfl) (tg1 98 rfl rfl) (tg1 99 rfl rfl) (tg1 4 rfl rfl) (tg1 100 rfl rfl)) (by decide +kernel) ⟨Nat.le_of_ble_eq_true rfl, Nat.le_of_ble_eq_true rfl⟩ rfl cx_L1 rfl rfl (Nat.le_of_ble_eq_true rfl) dX3_count_48 ⟨Nat.le_of_ble_eq_true rfl, Nat.le_of_ble_eq_true rfl⟩ (fun r48 g48 hp48 => ?_)
      obtain ⟨rfl, hg48⟩ := hp48
      rw [hg48]
      refine v_wide (k := 1) (n := 6) (Nat.le_of_ble_eq_true rfl) (Nat.le_of_ble_eq_true rfl) ?_
      exact ret _ _ _ _ dX3_count_51 ⟨by decide, (show g 31 2 = ctO s (iz (nI 0)) from hR.1.1), hR, FrK.rf⟩
    · refine v_tabIn (off := 51) (tgt := 52) C dX3_count_1 (by decide) (by decide) rfl (by decide) ?_
      refine v_aload_n C dX3_count_52 rfl rfl ?_
      refine v_get C inG3 rfl 1 (by decide) (tg1 67 rfl rfl) rfl cx_T rfl dX3_count_53 ?_
      refine v_callVi (n := 0) (as := []) C (c_lsize _ Z 32 37 g cx_L2) (gv (tg1 97 rfl rfl) (tg1 98 rfl rfl) (tg1 99 rfl rfl) (tg1 4 rfl rfl) (tg1 100 rfl rfl)) (by decide +kernel) ⟨Nat.le_of_ble_eq_true rfl, Nat.le_of_ble_eq_true rfl⟩ rfl cx_L2 rfl rfl (Nat.le_of_ble_eq_true rfl) dX3_count_56 ⟨Nat.le_of_ble_eq_true rfl, Nat.le_of_ble_eq_true rfl⟩ (fun r56 g56 hp56 => ?_)
      obtain ⟨rfl, hg56⟩ := hp56
      rw [hg56]
      refine v_wide (k := 1) (n := 6) (Nat.le_of_ble_eq_true rfl) (Nat.le_of_ble_eq_true rfl) ?_
      exact ret _ _ _ _ dX3_count_59 ⟨by decide, (show g 32 2 = ctO s (iz (nI 1)) from hR.1.2.1), hR, FrK.rf⟩
    · refine v_tabIn (off := 59) (tgt := 60) C dX3_count_1 (by decide) (by decide) rfl (by decide) ?_
      refine v_aload_n C dX3_count_60 rfl rfl ?_
      refine v_callVi (n := 0) (as := []) C (c_cpostersSet _ Z (npO s) g hn2 hp6) (gv (tg2 92 rfl rfl) (tg2 94 rfl rfl) (tg0 10 rfl rfl) (tg1 1 rfl rfl) (tg2 95 rfl rfl)) (by decide +kernel) ⟨Nat.le_of_ble_eq_true rfl, Nat.le_of_ble_eq_true rfl⟩ rfl cx_T rfl rfl (Nat.le_of_ble_eq_true rfl) dX3_count_61 ⟨Nat.le_of_ble_eq_true rfl, Nat.le_of_ble_eq_true rfl⟩ (fun r61 g61 hp61 => ?_)
      obtain ⟨rfl, hg61⟩ := hp61
      rw [hg61]
      refine v_wide (k := 1) (n := 6) (Nat.le_of_ble_eq_true rfl) (Nat.le_of_ble_eq_true rfl) ?_
      exact ret _ _ _ _ dX3_count_64 ⟨by decide, (show sumI (fun p => if g (100 + 10 * p) 3 = 0 then 0 else 1) (npO s) = ctO s (iz (nI 2)) from Rl_pset hI hR), hR, FrK.rf⟩
    · refine v_tabIn (off := 64) (tgt := 65) C dX3_count_1 (by decide) (by decide) rfl (by decide) ?_
      refine v_aload_n C dX3_count_65 rfl rfl ?_
      refine v_get C inG3 rfl 5 (by decide) (tg1 71 rfl rfl) rfl cx_T rfl dX3_count_66 ?_
      refine v_wide (k := 1) (n := 6) (Nat.le_of_ble_eq_true rfl) (Nat.le_of_ble_eq_true rfl) ?_
      exact ret _ _ _ _ dX3_count_69 ⟨by decide, (show g 30 5 = ctO s (iz (nI 3)) from hR.1.2.2.1), hR, FrK.rf⟩
    · refine v_tabIn (off := 69) (tgt := 70) C dX3_count_1 (by decide) (by decide) rfl (by decide) ?_
      refine v_aload_n C dX3_count_70 rfl rfl ?_
      refine v_get C inG3 rfl 6 (by decide) (tg1 72 rfl rfl) rfl cx_T rfl dX3_count_71 ?_
      refine v_wide (k := 1) (n := 6) (Nat.le_of_ble_eq_true rfl) (Nat.le_of_ble_eq_true rfl) ?_
      exact ret _ _ _ _ dX3_count_74 ⟨by decide, (show g 30 6 = ctO s (iz (nI 4)) from hR.1.2.2.2.1), hR, FrK.rf⟩
    · refine v_tabIn (off := 74) (tgt := 75) C dX3_count_1 (by decide) (by decide) rfl (by decide) ?_
      refine v_aload_n C dX3_count_75 rfl rfl ?_
      refine v_callVi (n := 0) (as := []) C (c_cblocksInAll _ Z (nfO s) g hn1 hf5) (gv (tg2 96 rfl rfl) (tg2 98 rfl rfl) (tg0 11 rfl rfl) (tg1 1 rfl rfl) (tg2 99 rfl rfl)) (by decide +kernel) ⟨Nat.le_of_ble_eq_true rfl, Nat.le_of_ble_eq_true rfl⟩ rfl cx_T rfl rfl (Nat.le_of_ble_eq_true rfl) dX3_count_76 ⟨Nat.le_of_ble_eq_true rfl, Nat.le_of_ble_eq_true rfl⟩ (fun r76 g76 hp76 => ?_)
      obtain ⟨rfl, hg76⟩ := hp76
      rw [hg76]
      refine v_wide (k := 1) (n := 6) (Nat.le_of_ble_eq_true rfl) (Nat.le_of_ble_eq_true rfl) ?_
      exact ret _ _ _ _ dX3_count_79 ⟨by decide, (show sumI (fun i => sumI (g (40 + 10 * i + 1)) 10) (nfO s) = ctO s (iz (nI 5)) from Rl_blocks hI hZ hR), hR, FrK.rf⟩
    · refine v_tabIn (off := 79) (tgt := 80) C dX3_count_1 (by decide) (by decide) rfl (by decide) ?_
      refine v_aload_n C dX3_count_80 rfl rfl ?_
      refine v_callVi (n := 0) (as := []) C (c_cblocksInAll _ Z (nfO s) g hn1 hf5) (gv (tg2 96 rfl rfl) (tg2 98 rfl rfl) (tg0 11 rfl rfl) (tg1 1 rfl rfl) (tg2 99 rfl rfl)) (by decide +kernel) ⟨Nat.le_of_ble_eq_true rfl, Nat.le_of_ble_eq_true rfl⟩ rfl cx_T rfl rfl (Nat.le_of_ble_eq_true rfl) dX3_count_81 ⟨Nat.le_of_ble_eq_true rfl, Nat.le_of_ble_eq_true rfl⟩ (fun r81 g81 hp81 => ?_)
      obtain ⟨rfl, hg81⟩ := hp81
      rw [hg81]
      refine v_aload_n C dX3_count_84 rfl rfl ?_
      refine v_callVi (n := 0) (as := []) C (c_cfreeInAll _ Z (nfO s) g hn1 hf5) (gv (tg2 100 rfl rfl) (tg2 102 rfl rfl) (tg0 12 rfl rfl) (tg1 1 rfl rfl) (tg2 103 rfl rfl)) (by decide +kernel) ⟨Nat.le_of_ble_eq_true rfl, Nat.le_of_ble_eq_true rfl⟩ rfl cx_T rfl rfl (Nat.le_of_ble_eq_true rfl) dX3_count_85 ⟨Nat.le_of_ble_eq_true rfl, Nat.le_of_ble_eq_true rfl⟩ (fun r85 g85 hp85 => ?_)
      obtain ⟨rfl, hg85⟩ := hp85
      rw [hg85]
      refine v_isub C dX3_count_88 ?_
      refine v_wide (k := 1) (n := 6) (Nat.le_of_ble_eq_true rfl) (Nat.le_of_ble_eq_true rfl) ?_
      exact ret _ _ _ _ dX3_count_89 ⟨by decide, (show (sumI (fun i => sumI (g (40 + 10 * i + 1)) 10) (nfO s)) - (sumI (fun i => sumI (g (40 + 10 * i + 2)) 10) (nfO s)) = ctO s (iz (nI 6)) from Rl_free hI hZ hR), hR, FrK.rf⟩
  · refine v_tabOut (tgt := 90) C dX3_count_1 ?_ (by decide) ?_
    · have z0 : (0 : Int32).toInt = 0 := rfl
      have zn : (6 : Int32).toInt = 6 := rfl
      have := inB_f.mp hnb
      omega
    exact thr _ _ _ _ _ 0 _ _ (List.mem_of_getElem? (i := 22) rfl) ⟨Nat.le_of_ble_eq_true rfl, Nat.le_of_ble_eq_true rfl⟩ dX3_count_90 dX3_count_93 dX3_count_94 dX3_count_96 dX3_count_99 (PXx.no (k := 1) (by unfold cdCount; rw [if_pos hnb]) (by decide) rfl rfl hR FrK.rf)
set_option maxRecDepth 100000 in
theorem m_count (l : Launch) (Z : Zc) (v : Int32) (s g : MG) (hI : IvM s) (hZ : IvZ s) (hR : Rl s g) (hcd : cdCount v = 0) : MI l yX3_count cX3_count 2 (some .int) (rmz 8 240 0 0) Z [.ref (Z.ad 30), .int v] g (fun r g' => r = ctO s (iz v) ∧ g' = g) := by
  refine ent_i (own := RX3) (lo := [some (.ref (Z.ad 30)), some (.int v)]) (by decide) rfl (by simp [lg_sl, Value.category]) rfl (fun P hl C ret => ?_)
  have hnf := (IvM_nf hI).2
  have hf5 := (IvM_nf hI).1
  have hnp := (IvM_np hI).2
  have hp6 := (IvM_np hI).1
  have hn1 : g 31 2 = nI (nfO s) := hR.1.1.trans hnf
  have hn2 : g 32 2 = nI (npO s) := hR.1.2.1.trans hnp
  refine v_iload_n C dX3_count_0 rfl rfl ?_
  obtain ⟨b, hb, hvb⟩ | hnb : (∃ b, b < 7 ∧ v = nI b) ∨ inB v 0 6 = false := by cases hc : inB v 0 6; (· exact Or.inr rfl); (· exact Or.inl (inB_ex (n := 6) (by decide) hc))
  · subst hvb
    obtain rfl | rfl | rfl | rfl | rfl | rfl | rfl := (show b = 0 ∨ b = 1 ∨ b = 2 ∨ b = 3 ∨ b = 4 ∨ b = 5 ∨ b = 6 by omega)
    · refine v_tabIn (off := 43) (tgt := 44) C dX3_count_1 (by decide) (by decide) rfl (by decide) ?_
      refine v_aload_n C dX3_count_44 rfl rfl ?_
      refine v_get C inG3 rfl 0 (by decide) (tg1 66 rfl rfl) rfl cx_T rfl dX3_count_45 ?_
      refine v_callVi (n := 0) (as := []) C (c_lsize _ Z 31 36 g cx_L1) (gv (tg1 97 rfl rfl) (tg1 98 rfl rfl) (tg1 99 rfl rfl) (tg1 4 rfl rfl) (tg1 100 rfl rfl)) (by decide +kernel) ⟨Nat.le_of_ble_eq_true rfl, Nat.le_of_ble_eq_true rfl⟩ rfl cx_L1 rfl rfl (Nat.le_of_ble_eq_true rfl) dX3_count_48 ⟨Nat.le_of_ble_eq_true rfl, Nat.le_of_ble_eq_true rfl⟩ (fun r48 g48 hp48 => ?_)
      obtain ⟨rfl, hg48⟩ := hp48
      rw [hg48]
      exact ret _ _ _ _ dX3_count_51 ⟨(show g 31 2 = ctO s (iz (nI 0)) from hR.1.1), rfl⟩
    · refine v_tabIn (off := 51) (tgt := 52) C dX3_count_1 (by decide) (by decide) rfl (by decide) ?_
      refine v_aload_n C dX3_count_52 rfl rfl ?_
      refine v_get C inG3 rfl 1 (by decide) (tg1 67 rfl rfl) rfl cx_T rfl dX3_count_53 ?_
      refine v_callVi (n := 0) (as := []) C (c_lsize _ Z 32 37 g cx_L2) (gv (tg1 97 rfl rfl) (tg1 98 rfl rfl) (tg1 99 rfl rfl) (tg1 4 rfl rfl) (tg1 100 rfl rfl)) (by decide +kernel) ⟨Nat.le_of_ble_eq_true rfl, Nat.le_of_ble_eq_true rfl⟩ rfl cx_L2 rfl rfl (Nat.le_of_ble_eq_true rfl) dX3_count_56 ⟨Nat.le_of_ble_eq_true rfl, Nat.le_of_ble_eq_true rfl⟩ (fun r56 g56 hp56 => ?_)
      obtain ⟨rfl, hg56⟩ := hp56
      rw [hg56]
      exact ret _ _ _ _ dX3_count_59 ⟨(show g 32 2 = ctO s (iz (nI 1)) from hR.1.2.1), rfl⟩
    · refine v_tabIn (off := 59) (tgt := 60) C dX3_count_1 (by decide) (by decide) rfl (by decide) ?_
      refine v_aload_n C dX3_count_60 rfl rfl ?_
      refine v_callVi (n := 0) (as := []) C (c_cpostersSet _ Z (npO s) g hn2 hp6) (gv (tg2 92 rfl rfl) (tg2 94 rfl rfl) (tg0 10 rfl rfl) (tg1 1 rfl rfl) (tg2 95 rfl rfl)) (by decide +kernel) ⟨Nat.le_of_ble_eq_true rfl, Nat.le_of_ble_eq_true rfl⟩ rfl cx_T rfl rfl (Nat.le_of_ble_eq_true rfl) dX3_count_61 ⟨Nat.le_of_ble_eq_true rfl, Nat.le_of_ble_eq_true rfl⟩ (fun r61 g61 hp61 => ?_)
      obtain ⟨rfl, hg61⟩ := hp61
      rw [hg61]
      exact ret _ _ _ _ dX3_count_64 ⟨(show sumI (fun p => if g (100 + 10 * p) 3 = 0 then 0 else 1) (npO s) = ctO s (iz (nI 2)) from Rl_pset hI hR), rfl⟩
    · refine v_tabIn (off := 64) (tgt := 65) C dX3_count_1 (by decide) (by decide) rfl (by decide) ?_
      refine v_aload_n C dX3_count_65 rfl rfl ?_
      refine v_get C inG3 rfl 5 (by decide) (tg1 71 rfl rfl) rfl cx_T rfl dX3_count_66 ?_
      exact ret _ _ _ _ dX3_count_69 ⟨(show g 30 5 = ctO s (iz (nI 3)) from hR.1.2.2.1), rfl⟩
    · refine v_tabIn (off := 69) (tgt := 70) C dX3_count_1 (by decide) (by decide) rfl (by decide) ?_
      refine v_aload_n C dX3_count_70 rfl rfl ?_
      refine v_get C inG3 rfl 6 (by decide) (tg1 72 rfl rfl) rfl cx_T rfl dX3_count_71 ?_
      exact ret _ _ _ _ dX3_count_74 ⟨(show g 30 6 = ctO s (iz (nI 4)) from hR.1.2.2.2.1), rfl⟩
    · refine v_tabIn (off := 74) (tgt := 75) C dX3_count_1 (by decide) (by decide) rfl (by decide) ?_
      refine v_aload_n C dX3_count_75 rfl rfl ?_
      refine v_callVi (n := 0) (as := []) C (c_cblocksInAll _ Z (nfO s) g hn1 hf5) (gv (tg2 96 rfl rfl) (tg2 98 rfl rfl) (tg0 11 rfl rfl) (tg1 1 rfl rfl) (tg2 99 rfl rfl)) (by decide +kernel) ⟨Nat.le_of_ble_eq_true rfl, Nat.le_of_ble_eq_true rfl⟩ rfl cx_T rfl rfl (Nat.le_of_ble_eq_true rfl) dX3_count_76 ⟨Nat.le_of_ble_eq_true rfl, Nat.le_of_ble_eq_true rfl⟩ (fun r76 g76 hp76 => ?_)
      obtain ⟨rfl, hg76⟩ := hp76
      rw [hg76]
      exact ret _ _ _ _ dX3_count_79 ⟨(show sumI (fun i => sumI (g (40 + 10 * i + 1)) 10) (nfO s) = ctO s (iz (nI 5)) from Rl_blocks hI hZ hR), rfl⟩
    · refine v_tabIn (off := 79) (tgt := 80) C dX3_count_1 (by decide) (by decide) rfl (by decide) ?_
      refine v_aload_n C dX3_count_80 rfl rfl ?_
      refine v_callVi (n := 0) (as := []) C (c_cblocksInAll _ Z (nfO s) g hn1 hf5) (gv (tg2 96 rfl rfl) (tg2 98 rfl rfl) (tg0 11 rfl rfl) (tg1 1 rfl rfl) (tg2 99 rfl rfl)) (by decide +kernel) ⟨Nat.le_of_ble_eq_true rfl, Nat.le_of_ble_eq_true rfl⟩ rfl cx_T rfl rfl (Nat.le_of_ble_eq_true rfl) dX3_count_81 ⟨Nat.le_of_ble_eq_true rfl, Nat.le_of_ble_eq_true rfl⟩ (fun r81 g81 hp81 => ?_)
      obtain ⟨rfl, hg81⟩ := hp81
      rw [hg81]
      refine v_aload_n C dX3_count_84 rfl rfl ?_
      refine v_callVi (n := 0) (as := []) C (c_cfreeInAll _ Z (nfO s) g hn1 hf5) (gv (tg2 100 rfl rfl) (tg2 102 rfl rfl) (tg0 12 rfl rfl) (tg1 1 rfl rfl) (tg2 103 rfl rfl)) (by decide +kernel) ⟨Nat.le_of_ble_eq_true rfl, Nat.le_of_ble_eq_true rfl⟩ rfl cx_T rfl rfl (Nat.le_of_ble_eq_true rfl) dX3_count_85 ⟨Nat.le_of_ble_eq_true rfl, Nat.le_of_ble_eq_true rfl⟩ (fun r85 g85 hp85 => ?_)
      obtain ⟨rfl, hg85⟩ := hp85
      rw [hg85]
      refine v_isub C dX3_count_88 ?_
      exact ret _ _ _ _ dX3_count_89 ⟨(show (sumI (fun i => sumI (g (40 + 10 * i + 1)) 10) (nfO s)) - (sumI (fun i => sumI (g (40 + 10 * i + 2)) 10) (nfO s)) = ctO s (iz (nI 6)) from Rl_free hI hZ hR), rfl⟩
  · refine v_tabOut (tgt := 90) C dX3_count_1 ?_ (by decide) ?_
    · have z0 : (0 : Int32).toInt = 0 := rfl
      have zn : (6 : Int32).toInt = 6 := rfl
      have := inB_f.mp hnb
      omega
    exact absurd (hcd.symm.trans (show _ = 1 by unfold cdCount; rw [if_pos hnb])) (by decide)
