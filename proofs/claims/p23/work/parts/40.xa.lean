/-! THE CLASS: print -/
/-- worn by the first q lines of poster p -/
def wrS (s : MG) (p q : Nat) (c : Int32) : MG := rwr s 8 (fun j => if j < 50 then s 8 j + c * nI (outN (s 18) (tkO s) (wdO s) p (j / 10) (j % 10) q) else s 8 j)
theorem wrS_r {s : MG} {p q k : Nat} {c : Int32} (h : k ≠ 8) : wrS s p q c k = s k := rwr_ne _ _ _ h
theorem wrS_0 (s : MG) (p : Nat) (c : Int32) : wrS s p 0 c = s := by
  funext k
  unfold wrS rwr
  by_cases h : k = 8
  · rw [if_pos h, h]
    funext j
    by_cases hj : j < 50
    · rw [if_pos hj, outN]
      show s 8 j + c * 0 = s 8 j
      grind
    · rw [if_neg hj]
  · rw [if_neg h]
theorem wrS_I {s : MG} (hI : IvM s) (p q : Nat) (c : Int32) : IvM (wrS s p q c) := IvM_eq hI (by rw [wrS_r (by decide)]) (by rw [wrS_r (by decide)]) (fun k k1 k2 => wrS_r (by omega))
theorem wrS_F {s : MG} (hF : IvF s) (p q : Nat) (c : Int32) : IvF (wrS s p q c) := by
  intro a k ha h1 hk
  have e : ∀ z, z ≠ 8 → wrS s p q c z = s z := fun z hz => wrS_r hz
  unfold npO nfO nlO at *
  rw [e 0 (by decide)] at ha ⊢
  rw [e 15 (by decide)] at h1
  rw [e 14 (by decide)] at hk
  rw [e 18 (by decide)]
  exact hF a k ha h1 hk
theorem Rl_wear {s g1 : MG} (hI : IvM s) {p q f : Nat} {c : Int32} (hp : p < npO s) (h1 : s 15 p = 1) (hq : q < nlO s p) (hf : f < nfO s) (hfe : s 18 (4 * p + q) = nI f) (hR : Rl (wrS s p q c) g1) : Rl (wrS s p (q + 1) c) (rwr g1 (40 + 10 * f + 3) (fun j => if j < 10 then g1 (40 + 10 * f + 3) j + g1 (200 + 10 * (4 * p + q) + 2) j * c else g1 (40 + 10 * f + 3) j)) := by
  have hf5 := (IvM_nf hI).1
  have hp6 := (IvM_np hI).1
  have hm4 := (IvM_nl hI (show p < 6 by omega)).2
  have hln := ((hR.2.2 p hp).2.2.2.2.2 q hq).2 h1
  obtain ⟨⟨a1, a2, a3, a4, a5, a6, a7⟩, hF, hP⟩ := hR
  have es : ∀ z, z ≠ 8 → wrS s p (q + 1) c z = wrS s p q c z := fun z hz => (wrS_r hz).trans (wrS_r hz).symm
  have eg : ∀ k, k ≠ 40 + 10 * f + 3 → rwr g1 (40 + 10 * f + 3) (fun j => if j < 10 then g1 (40 + 10 * f + 3) j + g1 (200 + 10 * (4 * p + q) + 2) j * c else g1 (40 + 10 * f + 3) j) k = g1 k := fun k hk => rwr_ne _ _ _ hk
  refine ⟨⟨by rw [es 0 (by decide), eg 31 (by omega)]; exact a1, by rw [es 0 (by decide), eg 32 (by omega)]; exact a2, by rw [es 0 (by decide), eg 30 (by omega)]; exact a3, by rw [es 0 (by decide), eg 30 (by omega)]; exact a4, by rw [es 9 (by decide), eg 33 (by omega)]; exact a5, by rw [es 10 (by decide), eg 34 (by omega)]; exact a6, by rw [es 11 (by decide), eg 35 (by omega)]; exact a7⟩, fun b hb => ?_, hP.c (by rw [es 0 (by decide)]) (fun k k1 k2 => es k (by omega)) (fun k k1 k2 => eg k (by omega)) hp6 (fun a ha => (IvM_nl hI ha).2)⟩
  have hb' : b < nfO s := hb
  obtain ⟨e1, e2, e3⟩ := hF b hb
  rw [es 5 (by decide), es 6 (by decide), es 7 (by decide), eg (40 + 10 * b) (by omega), eg (40 + 10 * b + 1) (by omega), eg (40 + 10 * b + 2) (by omega)]
  refine ⟨e1, e2, fun j hj => ?_⟩
  obtain ⟨e4, e5, e6⟩ := e3 j hj
  refine ⟨e4, e5, ?_⟩
  have e7 : ∀ z, wrS s p z c 8 (10 * b + j) = s 8 (10 * b + j) + c * nI (outN (s 18) (tkO s) (wdO s) p b j z) := fun z => by
    unfold wrS
    rw [rwr_same, if_pos (by omega), show (10 * b + j) / 10 = b by omega, show (10 * b + j) % 10 = j by omega]
  rw [e7] at e6 ⊢
  rw [outN, hfe]
  by_cases hbf : b = f
  · subst hbf
    have e8 : g1 (200 + 10 * (4 * p + q) + 2) j = nI (cntD (tkO s (4 * p + q)) j (szw (wdO s (4 * p + q)))) := hln.2.2.2 j hj
    rw [rwr_same, if_pos hj, if_pos rfl, e6, e8, ← nI_add]
    grind
  · rw [eg _ (by omega), if_neg (fun z => hbf (nI_inj (by omega) (by omega) z).symm), Nat.add_zero]
    exact e6
theorem Rl_cp {s g : MG} (hI : IvM s) (h : Rl s g) {p : Nat} (hp : p < npO s) (e c : Int32) : Rl (wr (wr s 0 3 (s 0 3 + e)) 16 p (s 16 p + c)) (wr (wr g (100 + 10 * p) 4 (g (100 + 10 * p) 4 + c)) 30 5 (g 30 5 + e)) := by
  have hp6 := (IvM_np hI).1
  obtain ⟨⟨a1, a2, a3, a4, a5, a6, a7⟩, hF, hP⟩ := h
  have es : ∀ z, z ≠ 0 → z ≠ 16 → wr (wr s 0 3 (s 0 3 + e)) 16 p (s 16 p + c) z = s z := fun z z1 z2 => by rw [wr_row _ _ _ _ z2, wr_row _ _ _ _ z1]
  have e0 : ∀ j, j ≠ 3 → wr (wr s 0 3 (s 0 3 + e)) 16 p (s 16 p + c) 0 j = s 0 j := fun j hj => by rw [wr_row _ _ _ _ (by decide), wr_ne _ _ _ _ (Or.inr hj)]
  have eg : ∀ k, k ≠ 100 + 10 * p → k ≠ 30 → wr (wr g (100 + 10 * p) 4 (g (100 + 10 * p) 4 + c)) 30 5 (g 30 5 + e) k = g k := fun k k1 k2 => by rw [wr_row _ _ _ _ k2, wr_row _ _ _ _ k1]
  refine ⟨⟨by rw [e0 1 (by decide), eg 31 (by omega) (by omega)]; exact a1, by rw [e0 2 (by decide), eg 32 (by omega) (by omega)]; exact a2, ?_, ?_, by rw [es 9 (by decide) (by decide), eg 33 (by omega) (by omega)]; exact a5, by rw [es 10 (by decide) (by decide), eg 34 (by omega) (by omega)]; exact a6, by rw [es 11 (by decide) (by decide), eg 35 (by omega) (by omega)]; exact a7⟩, hF.c (e0 1 (by decide)) (fun k k1 k2 => es k (by omega) (by omega)) (fun k k1 k2 _ => eg k (by omega) (by omega)) (IvM_nf hI).1, fun a ha => ?_⟩
  · rw [wr_same, wr_row _ _ _ _ (by decide), wr_same, a3]
  · rw [e0 4 (by decide), wr_ne _ _ _ _ (Or.inr (by decide)), wr_row _ _ _ _ (by omega)]; exact a4
  · have ha' : a < npO s := by unfold npO at ha ⊢; rw [e0 2 (by decide)] at ha; exact ha
    obtain ⟨e1, e2, e3, e4, e5, e6⟩ := hP a ha'
    have hm4 := (IvM_nl hI (show a < 6 by omega)).2
    have hj : ∀ j, j ≠ 4 → wr (wr g (100 + 10 * p) 4 (g (100 + 10 * p) 4 + c)) 30 5 (g 30 5 + e) (100 + 10 * a) j = g (100 + 10 * a) j := fun j hj => by rw [wr_row _ _ _ _ (by omega), wr_ne _ _ _ _ (Or.inr hj)]
    rw [hj 0 (by decide), hj 1 (by decide), hj 3 (by decide), eg (100 + 10 * a + 1) (by omega) (by omega), es 12 (by decide) (by decide), es 13 (by decide) (by decide), es 14 (by decide) (by decide), es 15 (by decide) (by decide)]
    refine ⟨e1, e2, e3, ?_, e5, fun q hq => ?_⟩
    · rw [wr_row _ _ _ _ (by omega)]
      by_cases hap : a = p
      · subst hap
        rw [wr_same, wr_same, e4]
      · rw [wr_row _ _ _ _ (by omega), wr_ne _ _ _ _ (Or.inr hap), wr_row _ _ _ _ (by decide)]; exact e4
    · have hq' : q < nlO s a := by unfold nlO at hq ⊢; rw [es 14 (by decide) (by decide)] at hq; exact hq
      exact (e6 q hq').c (by rw [es 15 (by decide) (by decide)]) (by rw [es 17 (by decide) (by decide)]) (fun _ => ⟨by rw [es 18 (by decide) (by decide)], by rw [es 19 (by decide) (by decide)], by rw [es 20 (by decide) (by decide)]⟩) (by rw [eg _ (by omega) (by omega)]) (eg _ (by omega) (by omega)) (fun _ => ⟨eg _ (by omega) (by omega), eg _ (by omega) (by omega)⟩)
set_option maxRecDepth 100000 in
theorem x_print (l : Launch) (hl9 : l.stackTraces = false) (Z : Zc) (p c : Int32) (s g : MG) (hI : IvM s) (hF9 : IvF s) (hR : Rl s g) : XI l yX3_print cX3_print 5 (some .int) (rmz 8 240 1 6) Z [.ref (Z.ad 30), .int p, .int c] g (PX g (cdPrint s p c) (gtO s (iz p) c) (stPrint s p c)) (PXx g (cdPrint s p c) (nm3 0 1 2) (stPrint s p c)) := by
  refine ent_xi (lo := [some (.ref (Z.ad 30)), some (.int p), some (.int c), none, none]) hl9 (by decide) rfl (by simp [lg_sl, Value.category]) rfl (by decide) (fun P hl C ret thr => ?_)
  have hnf := (IvM_nf hI).2
  have hf5 := (IvM_nf hI).1
  have hnp := (IvM_np hI).2
  have hp6 := (IvM_np hI).1
  have hn1 : g 31 2 = nI (nfO s) := hR.1.1.trans hnf
  have hn2 : g 32 2 = nI (npO s) := hR.1.2.1.trans hnp
  refine v_aload_n C dX3_print_0 rfl rfl ?_
  refine v_iload_n C dX3_print_1 rfl rfl ?_
  refine v_callVi (n := 1) (as := [.int p]) C (c_cisPoster _ Z (npO s) p g hn2 hp6) (gv (tg1 93 rfl rfl) (tg1 95 rfl rfl) (tg0 0 rfl rfl) (tg1 1 rfl rfl) (tg1 96 rfl rfl)) (by decide +kernel) ⟨Nat.le_of_ble_eq_true rfl, Nat.le_of_ble_eq_true rfl⟩ rfl cx_T rfl rfl (Nat.le_of_ble_eq_true rfl) dX3_print_2 ⟨Nat.le_of_ble_eq_true rfl, Nat.le_of_ble_eq_true rfl⟩ (fun r2 g2 hp2 => ?_)
  obtain ⟨rfl, hg2⟩ := hp2
  rw [hg2]
  refine v_if_ne (tgt := 18) C dX3_print_5 (by decide) (fun h5 => ?_) (fun h5 => ?_)
  · have k5 := bI_1.mp h5
    obtain ⟨i, hi, ei⟩ : ∃ i, i < npO s ∧ p = nI i := ⟨iz p, (isN_nI k5).2, (isN_nI k5).1⟩
    subst ei
    have hP := PsP.mk hn2 hi hp6
    obtain ⟨r12, r13, r15, r16, r14, rL⟩ := hR.2.2 i hi
    have hm : g (100 + 10 * i + 1) 2 = nI (nlO s i) := r14.trans (IvM_nl hI (by omega)).1
    have hm4 := (IvM_nl hI (show i < 6 by omega)).2
    refine v_iload_n C dX3_print_18 rfl rfl ?_
    refine v_iconst (v := 1) C dX3_print_19 (by decide) ?_
    refine v_icmp_lt (tgt := 30) C dX3_print_20 (by decide) (fun h20 => ?_) (fun h20 => ?_)
    · exact thr _ _ _ _ _ 1 _ _ (List.mem_of_getElem? (i := 16) rfl) ⟨Nat.le_of_ble_eq_true rfl, Nat.le_of_ble_eq_true rfl⟩ dX3_print_30 dX3_print_33 dX3_print_34 dX3_print_36 dX3_print_39 (PXx.no (k := 2) (by unfold cdPrint; rw [if_neg (by simp [k5]), if_pos (inB_f.mpr (by have z1 : (1 : Int32).toInt = 1 := rfl; have z9 : (500 : Int32).toInt = 500 := rfl; simp only [i_lt, i_le] at h20; omega))]) (by decide) rfl (by unfold stPrint; rw [if_neg (by rw [show cdPrint s (nI i) c = 2 by unfold cdPrint; rw [if_neg (by simp [k5]), if_pos (inB_f.mpr (by have z1 : (1 : Int32).toInt = 1 := rfl; have z9 : (500 : Int32).toInt = 500 := rfl; simp only [i_lt, i_le] at h20; omega))]]; decide)]) hR FrK.rf)
    · refine v_iload_n C dX3_print_23 rfl rfl ?_
      refine v_sipush (v := 500) C dX3_print_24 (by decide) ?_
      refine v_icmp_le (tgt := 40) C dX3_print_27 (by decide) (fun h27 => ?_) (fun h27 => ?_)
      · refine v_aload_n C dX3_print_40 rfl rfl ?_
        refine v_get C inG3 rfl 1 (by decide) (tg1 67 rfl rfl) rfl cx_T rfl dX3_print_41 ?_
        refine v_iload_n C dX3_print_44 rfl rfl ?_
        refine v_callVq (n := 1) (as := [.int (nI i)]) C (c_lget _ Z 32 37 (npO s) i g cx_L2 hn2 hi (by omega) (fun j => Z.ad (100 + 10 * j)) (cxE2 hn2)) (gv (tg1 169 rfl rfl) (tg1 170 rfl rfl) (tg1 171 rfl rfl) (tg1 4 rfl rfl) (tg1 172 rfl rfl)) (by decide +kernel) ⟨Nat.le_of_ble_eq_true rfl, Nat.le_of_ble_eq_true rfl⟩ rfl cx_L2 rfl rfl (Nat.le_of_ble_eq_true rfl) dX3_print_45 ⟨Nat.le_of_ble_eq_true rfl, Nat.le_of_ble_eq_true rfl⟩ (fun r45 g45 hp45 => ?_)
        obtain ⟨rfl, hg45⟩ := hp45
        rw [hg45]
        refine v_st (st' := [.ref (Z.ad (100 + 10 * i))]) rfl ?_
        refine v_cast C rfl (tg1 183 rfl rfl) (cxP hP) dX3_print_48 ?_
        refine v_astore_n (lo' := [some (.ref (Z.ad 30)), some (.int (nI i)), some (.int c), some (.ref (Z.ad (100 + 10 * i))), none]) C dX3_print_51 rfl (Nat.le_of_ble_eq_true rfl) rfl rfl ?_
        have b1 : inB c 1 500 = true := inB_t.mpr (by have z1 : (1 : Int32).toInt = 1 := rfl; have z9 : (500 : Int32).toInt = 500 := rfl; simp only [i_lt, i_le] at h20 h27; omega)
        refine v_aload_n C dX3_print_52 rfl rfl ?_
        refine v_get C inG2 rfl 3 (by decide) (tg3 96 rfl rfl) rfl (cxP hP) rfl dX3_print_53 ?_
        refine v_if_ne (tgt := 69) C dX3_print_56 (by decide) (fun h56 => ?_) (fun h56 => ?_)
        · refine v_iconst (v := 0) C dX3_print_69 (by decide) ?_
          refine v_topi (y := nI 0) rfl ?_
          refine v_istore (lo' := [some (.ref (Z.ad 30)), some (.int (nI i)), some (.int c), some (.ref (Z.ad (100 + 10 * i))), some (.int (nI 0))]) C dX3_print_70 (Nat.le_of_ble_eq_true rfl) rfl rfl ?_
          have h1 : s 15 i = 1 := (IvM_01 hI (by omega)).resolve_left (fun z => h56 (r15.trans z))
          have hcd9 : cdPrint s (nI i) c = 0 := by unfold cdPrint; rw [if_neg (by simp [k5]), if_neg (by rw [b1]; decide), if_neg (by rw [iz_nI (by omega), h1]; decide)]
          have loop : ∀ (n q : Nat) (g1 : MG), nlO s i - q < n → q ≤ nlO s i → Rl (wrS s i q c) g1 → FrK g g1 → V P (rmz 8 240 1 6) Z [some (.ref (Z.ad 30)), some (.int (nI i)), some (.int c), some (.ref (Z.ad (100 + 10 * i))), some (.int (nI q))] 72 [] g1 0 0 := by
            intro n
            induction n with
            | zero => intro q g1 hm; exact absurd hm (Nat.not_lt_zero _)
            | succ n ih =>
              intro q g1 hm9 hq hR1 hf1
              have hIw := wrS_I hI i q c
              have hFw := wrS_F hF9 i q c
              have hn4 : g1 32 2 = nI (npO s) := hR1.1.2.1.trans (by rw [wrS_r (by decide)]; exact hnp)
              have hn3 : g1 31 2 = nI (nfO s) := hR1.1.1.trans (by rw [wrS_r (by decide)]; exact hnf)
              have hP1 := PsP.mk hn4 hi hp6
              have q14 := (hR1.2.2 i hi).2.2.2.2.1
              have hm1 : g1 (100 + 10 * i + 1) 2 = nI (nlO s i) := q14.trans (by rw [wrS_r (by decide)]; exact (IvM_nl hI (by omega)).1)
              refine v_iload C dX3_print_72 rfl ?_
              refine v_aload_n C dX3_print_74 rfl rfl ?_
              refine v_get C inG2 rfl 2 (by decide) (tg3 94 rfl rfl) rfl (cxP hP1) rfl dX3_print_75 ?_
              refine v_callVi (n := 0) (as := []) C (c_lsize _ Z (100 + 10 * i + 1) (100 + 10 * i + 1 + 1) g1 (cxPL hP1)) (gv (tg1 97 rfl rfl) (tg1 98 rfl rfl) (tg1 99 rfl rfl) (tg1 4 rfl rfl) (tg1 100 rfl rfl)) (by decide +kernel) ⟨Nat.le_of_ble_eq_true rfl, Nat.le_of_ble_eq_true rfl⟩ rfl (cxPL hP1) rfl rfl (Nat.le_of_ble_eq_true rfl) dX3_print_78 ⟨Nat.le_of_ble_eq_true rfl, Nat.le_of_ble_eq_true rfl⟩ (fun r78 g78 hp78 => ?_)
              obtain ⟨rfl, hg78⟩ := hp78
              rw [hg78]
              refine v_topi (y := nI (nlO s i)) hm1 ?_
              refine v_icmp_ge (tgt := 106) C dX3_print_81 (by decide) (fun h81 => ?_) (fun h81 => ?_)
              · have hkn : q = nlO s i := Nat.le_antisymm hq ((nI_leI (by omega) (by omega)).mp h81)
                rw [hkn] at hR1 hIw hFw
                have hi9 : i < npO (wrS s i (nlO s i) c) := hi
                have h19 : wrS s i (nlO s i) c 15 i = 1 := h1
                refine v_aload_n C dX3_print_106 rfl rfl ?_
                refine v_aload_n C dX3_print_107 rfl rfl ?_
                refine v_callVi (n := 1) (as := [.ref (Z.ad (100 + 10 * i))]) C (c_proofAsLaid _ Z i (nlO s i) (iz (s 12 i)) g1 hP1 hm1 hm4 (RlP_fo hIw hFw hR1 hi9 h19) (IvM_t hI (by omega)).2 ((hR1.2.2 i hi9).1.trans (by rw [wrS_r (by decide)]; exact (IvM_t hI (by omega)).1))) (gv (tg2 62 rfl rfl) (tg2 64 rfl rfl) (tg0 9 rfl rfl) (tg1 1 rfl rfl) (tg2 65 rfl rfl)) (by decide +kernel) ⟨Nat.le_of_ble_eq_true rfl, Nat.le_of_ble_eq_true rfl⟩ rfl cx_T rfl rfl (Nat.le_of_ble_eq_true rfl) dX3_print_108 ⟨Nat.le_of_ble_eq_true rfl, Nat.le_of_ble_eq_true rfl⟩ (fun r108 g108 hp108 => ?_)
                obtain ⟨rfl, hg108⟩ := hp108
                rw [hg108]
                refine v_topi (y := prO s (wdO s) i (nlO s i) (iz (s 12 i))) (show _ = prO (wrS s i (nlO s i) c) (wdO (wrS s i (nlO s i) c)) i (nlO s i) (iz (s 12 i)) from Rl_paL hIw hFw hR1 hi9 h19) ?_
                refine v_iload_n C dX3_print_111 rfl rfl ?_
                refine v_imul C dX3_print_112 ?_
                refine v_bipush (v := 100) C dX3_print_113 (by decide) ?_
                refine v_idiv C dX3_print_115 (by decide) ?_
                refine v_istore (lo' := [some (.ref (Z.ad 30)), some (.int (nI i)), some (.int c), some (.ref (Z.ad (100 + 10 * i))), some (.int (((prO s (wdO s) i (nlO s i) (iz (s 12 i))) * c) / 100))]) C dX3_print_116 (Nat.le_of_ble_eq_true rfl) rfl rfl ?_
                refine v_aload_n C dX3_print_118 rfl rfl ?_
                refine v_dup C dX3_print_119 rfl ?_
                refine v_get C inG2 rfl 4 (by decide) (tg3 97 rfl rfl) rfl (cxP hP1) rfl dX3_print_120 ?_
                refine v_iload_n C dX3_print_123 rfl rfl ?_
                refine v_iadd C dX3_print_124 ?_
                refine v_put C inG2 rfl tyX2 tyX2_ok nmX2 4 (by decide) (tg3 97 rfl rfl) rfl rfl (ty := .int) rfl rfl rfl (cxP hP1) (Nat.le_of_ble_eq_true rfl) (lk_n (by omega) (by omega) (by omega)) (by omega) (cxP_w4 hP1 _) dX3_print_125 ?_
                refine v_aload_n C dX3_print_128 rfl rfl ?_
                refine v_dup C dX3_print_129 rfl ?_
                refine v_get C inG3 rfl 5 (by decide) (tg1 71 rfl rfl) rfl cx_T rfl dX3_print_130 ?_
                refine v_topi (y := g1 30 5) (by rw [wr_row _ _ _ _ (by omega)]) ?_
                refine v_iload C dX3_print_133 rfl ?_
                refine v_iadd C dX3_print_135 ?_
                refine v_put C inG3 rfl tyX3 tyX3_ok nmX3 5 (by decide) (tg1 71 rfl rfl) rfl rfl (ty := .int) rfl rfl rfl cx_T (Nat.le_of_ble_eq_true rfl) rfl (by omega) cx_T dX3_print_136 ?_
                refine v_iload C dX3_print_139 rfl ?_
                refine v_wide (k := 1) (n := 6) (Nat.le_of_ble_eq_true rfl) (Nat.le_of_ble_eq_true rfl) ?_
                exact ret _ _ _ _ dX3_print_141 ⟨hcd9, (show prO s (wdO s) i (nlO s i) (iz (s 12 i)) * c / 100 = gtO s (iz (nI i)) c by unfold gtO; rw [iz_nI (by omega)]), by unfold stPrint; rw [if_pos hcd9, iz_nI (by omega)]; exact Rl_cp hIw hR1 hi9 (prO s (wdO s) i (nlO s i) (iz (s 12 i)) * c / 100) c, (hf1.w (by omega)).w (by decide)⟩
              · have hqn : q < nlO s i := Nat.lt_of_not_le fun z => h81 ((nI_leI (by omega) (by omega)).mpr z)
                have hL1 : LnP g1 i q := LnP.mk hP1 hm1 hqn hm4
                obtain ⟨f, hf, hfe⟩ := hF9 i q hi h1 hqn
                have hl9 := ((hR1.2.2 i hi).2.2.2.2.2 q hqn).2 h1
                refine v_aload_n C dX3_print_84 rfl rfl ?_
                refine v_get C inG2 rfl 2 (by decide) (tg3 94 rfl rfl) rfl (cxP hP1) rfl dX3_print_85 ?_
                refine v_iload C dX3_print_88 rfl ?_
                refine v_callVq (n := 1) (as := [.int (nI q)]) C (c_lget _ Z (100 + 10 * i + 1) (100 + 10 * i + 1 + 1) (nlO s i) q g1 (cxPL hP1) hm1 hqn (by omega) (fun j => Z.ad (200 + 10 * (4 * i + j))) (cxPE' hP1 hm1)) (gv (tg1 169 rfl rfl) (tg1 170 rfl rfl) (tg1 171 rfl rfl) (tg1 4 rfl rfl) (tg1 172 rfl rfl)) (by decide +kernel) ⟨Nat.le_of_ble_eq_true rfl, Nat.le_of_ble_eq_true rfl⟩ rfl (cxPL hP1) rfl rfl (Nat.le_of_ble_eq_true rfl) dX3_print_90 ⟨Nat.le_of_ble_eq_true rfl, Nat.le_of_ble_eq_true rfl⟩ (fun r90 g90 hp90 => ?_)
                obtain ⟨rfl, hg90⟩ := hp90
                rw [hg90]
                refine v_st (st' := [.ref (Z.ad (200 + 10 * (4 * i + q)))]) rfl ?_
                refine v_cast C rfl (tg1 212 rfl rfl) (cxLn hL1) dX3_print_93 ?_
                refine v_iload_n C dX3_print_96 rfl rfl ?_
                refine v_callVv (n := 1) (as := [.int c]) C (c_wearBy _ Z f i q c g1 (FnP.mk hn3 hf hf5) hL1 (hl9.1.trans (by rw [wrS_r (by decide)]; exact hfe))) (gv (tg4 220 rfl rfl) (tg4 221 rfl rfl) (tg4 222 rfl rfl) (tg1 28 rfl rfl) (tg4 223 rfl rfl)) (by decide +kernel) ⟨Nat.le_of_ble_eq_true rfl, Nat.le_of_ble_eq_true rfl⟩ rfl (cxLn hL1) rfl rfl (Nat.le_of_ble_eq_true rfl) dX3_print_97 ⟨Nat.le_of_ble_eq_true rfl, Nat.le_of_ble_eq_true rfl⟩ (fun g97 hp97 => ?_)
                have hg97 := hp97
                rw [hg97]
                refine v_iinc (lo' := [some (.ref (Z.ad 30)), some (.int (nI i)), some (.int c), some (.ref (Z.ad (100 + 10 * i))), some (.int ((nI q) + 1))]) C dX3_print_100 rfl rfl rfl rfl ?_
                refine v_lo (lo' := [some (.ref (Z.ad 30)), some (.int (nI i)), some (.int c), some (.ref (Z.ad (100 + 10 * i))), some (.int (nI (q + 1)))]) (by rw [← nI_1 q]) ?_
                refine v_goto (tgt := 72) C dX3_print_103 (by decide) ?_
                exact ih (q + 1) _ (by omega) (by omega) (Rl_wear hI hi h1 hqn hf hfe hR1) ⟨fun k hk => by rw [rwr_ne _ _ _ (by omega)]; exact hf1.1 k hk, by rw [rwr_ne _ _ _ (by omega)]; exact hf1.2⟩
          exact loop (nlO s i + 1) 0 g (by omega) (by omega) (by rw [wrS_0]; exact hR) FrK.rf
        · exact thr _ _ _ _ _ 2 _ _ (List.mem_of_getElem? (i := 17) rfl) ⟨Nat.le_of_ble_eq_true rfl, Nat.le_of_ble_eq_true rfl⟩ dX3_print_59 dX3_print_62 dX3_print_63 dX3_print_65 dX3_print_68 (PXx.no (k := 3) (by unfold cdPrint; rw [if_neg (by simp [k5]), if_neg (by rw [b1]; decide), if_pos (by rw [iz_nI (by omega)]; exact r15.symm.trans h56)]) (by decide) rfl (by unfold stPrint; rw [if_neg (by rw [show cdPrint s (nI i) c = 3 by unfold cdPrint; rw [if_neg (by simp [k5]), if_neg (by rw [b1]; decide), if_pos (by rw [iz_nI (by omega)]; exact r15.symm.trans h56)]]; decide)]) hR FrK.rf)
      · exact thr _ _ _ _ _ 1 _ _ (List.mem_of_getElem? (i := 16) rfl) ⟨Nat.le_of_ble_eq_true rfl, Nat.le_of_ble_eq_true rfl⟩ dX3_print_30 dX3_print_33 dX3_print_34 dX3_print_36 dX3_print_39 (PXx.no (k := 2) (by unfold cdPrint; rw [if_neg (by simp [k5]), if_pos (inB_f.mpr (by have z1 : (1 : Int32).toInt = 1 := rfl; have z9 : (500 : Int32).toInt = 500 := rfl; simp only [i_lt, i_le] at h20 h27; omega))]) (by decide) rfl (by unfold stPrint; rw [if_neg (by rw [show cdPrint s (nI i) c = 2 by unfold cdPrint; rw [if_neg (by simp [k5]), if_pos (inB_f.mpr (by have z1 : (1 : Int32).toInt = 1 := rfl; have z9 : (500 : Int32).toInt = 500 := rfl; simp only [i_lt, i_le] at h20 h27; omega))]]; decide)]) hR FrK.rf)
  · have k5 := bI_0.mp h5
    exact thr _ _ _ _ _ 0 _ _ (List.mem_of_getElem? (i := 12) rfl) ⟨Nat.le_of_ble_eq_true rfl, Nat.le_of_ble_eq_true rfl⟩ dX3_print_8 dX3_print_11 dX3_print_12 dX3_print_14 dX3_print_17 (PXx.no (k := 1) (by unfold cdPrint; rw [if_pos k5]) (by decide) rfl (by unfold stPrint; rw [if_neg (by rw [show cdPrint s p c = 1 by unfold cdPrint; rw [if_pos k5]]; decide)]) hR FrK.rf)
