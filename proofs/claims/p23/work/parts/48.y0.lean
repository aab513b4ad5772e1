/-! THE CLASS: set -/
theorem plA_mo {okf : OK} {ot ht : Nat → Int32} {tall : Int32} {nf : Nat} : ∀ (ws : List Nat) (acc : List (Nat × TS)) (mo : Nat → Int32) (a : List (Nat × TS) × (Nat → Int32)), plA okf ot ht tall nf ws acc mo = some a → ∃ L, a.1 = acc ++ L ∧ a.2 = L.foldl spd mo := by
  intro ws
  induction ws with
  | nil => intro acc mo a h; cases h; exact ⟨[], (List.append_nil acc).symm, rfl⟩
  | cons w ws ih =>
    intro acc mo a h
    unfold plA at h
    cases hq : pl1 okf ot ht tall nf mo w with
    | none => rw [hq] at h; cases h
    | some q =>
      rw [hq] at h
      obtain ⟨L, h1, h2⟩ := ih _ _ _ h
      exact ⟨q :: L, by rw [h1, List.append_assoc]; rfl, by rw [h2]; rfl⟩
theorem plC_mo {g : MG} {ot ht : Nat → Int32} {p m n : Nat} {wd : Nat → Nat} {a : List (Nat × TS) × (Nat → Int32)} (h : plC g ot ht p m n wd = some a) : a.2 = a.1.foldl spd (fun _ => 0) := by
  unfold plC at h
  split at h
  · obtain ⟨L, h1, h2⟩ := plA_mo _ _ _ _ h
    rw [h2, h1]
    rfl
  · cases h
/-- blocks out by the first q lines of a plan -/
def seS (s : MG) (L : List (Nat × TS)) (q : Nat) : MG := rwr s 7 (fun j => if j < 50 then s 7 j + (L.take q).foldl spd (fun _ => 0) j else s 7 j)
theorem seS_r {s : MG} {L : List (Nat × TS)} {q k : Nat} (h : k ≠ 7) : seS s L q k = s k := rwr_ne _ _ _ h
theorem seS_0 (s : MG) (L : List (Nat × TS)) : seS s L 0 = s := by
  funext k
  unfold seS rwr
  by_cases h : k = 7
  · rw [if_pos h, h]
    funext j
    by_cases hj : j < 50
    · rw [if_pos hj]
      show s 7 j + 0 = s 7 j
      exact Int32.add_zero _
    · rw [if_neg hj]
  · rw [if_neg h]
theorem seS_7 {s : MG} {L : List (Nat × TS)} {q j : Nat} (hj : j < 50) : seS s L q 7 j = s 7 j + (L.take q).foldl spd (fun _ => 0) j := by
  unfold seS
  rw [rwr_same, if_pos hj]
theorem seS_I {s : MG} (hI : IvM s) (L : List (Nat × TS)) (q : Nat) : IvM (seS s L q) := IvM_eq hI (by rw [seS_r (by decide)]) (by rw [seS_r (by decide)]) (fun k k1 k2 => seS_r (by omega))
theorem Rl_take {s g1 : MG} (hI : IvM s) {p q : Nat} {L : List (Nat × TS)} {t : Nat × TS} (hp : p < npO s) (hq4 : q < 4) (hq : L[q]? = some t) (hf : t.1 < nfO s) (hln : lnO g1 p q t) (hR : Rl (seS s L q) g1) : Rl (seS s L (q + 1)) (rwr g1 (40 + 10 * t.1 + 2) (fun j => if j < 10 then g1 (40 + 10 * t.1 + 2) j - g1 (200 + 10 * (4 * p + q) + 2) j else g1 (40 + 10 * t.1 + 2) j)) := by
  have hf5 := (IvM_nf hI).1
  have hp6 := (IvM_np hI).1
  obtain ⟨f, t⟩ := t
  obtain ⟨⟨a1, a2, a3, a4, a5, a6, a7⟩, hF, hP⟩ := hR
  have es : ∀ z, z ≠ 7 → seS s L (q + 1) z = seS s L q z := fun z hz => (seS_r hz).trans (seS_r hz).symm
  have eg : ∀ k, k ≠ 40 + 10 * f + 2 → rwr g1 (40 + 10 * f + 2) (fun j => if j < 10 then g1 (40 + 10 * f + 2) j - g1 (200 + 10 * (4 * p + q) + 2) j else g1 (40 + 10 * f + 2) j) k = g1 k := fun k hk => rwr_ne _ _ _ hk
  have hf : f < nfO s := hf
  refine ⟨⟨by rw [es 0 (by decide), eg 31 (by omega)]; exact a1, by rw [es 0 (by decide), eg 32 (by omega)]; exact a2, by rw [es 0 (by decide), eg 30 (by omega)]; exact a3, by rw [es 0 (by decide), eg 30 (by omega)]; exact a4, by rw [es 9 (by decide), eg 33 (by omega)]; exact a5, by rw [es 10 (by decide), eg 34 (by omega)]; exact a6, by rw [es 11 (by decide), eg 35 (by omega)]; exact a7⟩, fun b hb => ?_, hP.c (by rw [es 0 (by decide)]) (fun k k1 k2 => es k (by omega)) (fun k k1 k2 => eg k (by omega)) hp6 (fun a ha => (IvM_nl hI ha).2)⟩
  have hb' : b < nfO s := hb
  obtain ⟨e1, e2, e3⟩ := hF b hb
  rw [es 5 (by decide), es 6 (by decide), es 8 (by decide), eg (40 + 10 * b) (by omega), eg (40 + 10 * b + 1) (by omega), eg (40 + 10 * b + 3) (by omega)]
  refine ⟨e1, e2, fun j hj => ?_⟩
  obtain ⟨e4, e5, e6⟩ := e3 j hj
  refine ⟨e4, ?_, e6⟩
  have e8 : (L.take (q + 1)).foldl spd (fun _ => 0) = spd ((L.take q).foldl spd (fun _ => 0)) (f, t) := by
    rw [List.take_add_one, hq]
    show List.foldl spd _ (L.take q ++ [(f, t)]) = _
    rw [List.foldl_append]
    rfl
  rw [seS_7 (by omega)] at e5 ⊢
  rw [e8]
  unfold spd
  by_cases hbf : b = f
  · subst hbf
    have e9 : g1 (200 + 10 * (4 * p + q) + 2) j = t.1 j := hln.2.2.2 j hj
    rw [rwr_same, if_pos hj, if_pos (by show 10 * b ≤ 10 * b + j ∧ _ < 10 * b + 10; omega), e5, e9]
    show _ = _ - (_ + (_ + t.1 (10 * b + j - 10 * b)))
    rw [Nat.add_sub_cancel_left]
    show s 6 (10 * b + j) - (s 7 (10 * b + j) + List.foldl spd (fun _ => 0) (L.take q) (10 * b + j)) - t.1 j = s 6 (10 * b + j) - (s 7 (10 * b + j) + (List.foldl spd (fun _ => 0) (L.take q) (10 * b + j) + t.1 j))
    rw [Int32.sub_sub, Int32.add_assoc]
  · rw [eg _ (by omega), if_neg (by show ¬ (10 * f ≤ 10 * b + j ∧ 10 * b + j < 10 * f + 10); omega)]
    exact e5
theorem setG_r {s : MG} {p : Nat} {a : List (Nat × TS) × (Nat → Int32)} {z : Nat} (h : z ≠ 18 ∧ z ≠ 19 ∧ z ≠ 20 ∧ z ≠ 7 ∧ z ≠ 15) : setG s p a z = s z := by
  funext j
  unfold setG
  rw [if_neg h.1, if_neg h.2.1, if_neg h.2.2.1, if_neg h.2.2.2.1, if_neg h.2.2.2.2]
theorem setG_15 {s : MG} {p : Nat} {a : List (Nat × TS) × (Nat → Int32)} (j : Nat) : setG s p a 15 j = if j = p then 1 else s 15 j := rfl
theorem setG_7 {s : MG} {p : Nat} {a : List (Nat × TS) × (Nat → Int32)} (j : Nat) : setG s p a 7 j = if j < 50 then s 7 j + a.2 j else s 7 j := rfl
theorem setG_18 {s : MG} {p : Nat} {a : List (Nat × TS) × (Nat → Int32)} (j : Nat) : setG s p a 18 j = if 4 * p ≤ j ∧ j < 4 * p + a.1.length then nI (lfn a.1 (j - 4 * p)) else s 18 j := rfl
theorem setG_19 {s : MG} {p : Nat} {a : List (Nat × TS) × (Nat → Int32)} (j : Nat) : setG s p a 19 j = if 4 * p ≤ j ∧ j < 4 * p + a.1.length then lfl a.1 (j - 4 * p) else s 19 j := rfl
theorem setG_20 {s : MG} {p : Nat} {a : List (Nat × TS) × (Nat → Int32)} (j : Nat) : setG s p a 20 j = if 4 * p ≤ j ∧ j < 4 * p + a.1.length then lwd a.1 (j - 4 * p) else s 20 j := rfl
theorem Rl_set {s g1 : MG} (hI : IvM s) {p : Nat} {a : List (Nat × TS) × (Nat → Int32)} (hp : p < npO s) (hlen : a.1.length = nlO s p) (hmo : ∀ j, j < 50 → a.2 j = a.1.foldl spd (fun _ => 0) j) (hln : ∀ i t, a.1[i]? = some t → lnO g1 p i t) (hTS : plI (wds (wdO s) p 0 (nlO s p)) a.1) (hR : Rl (seS s a.1 (nlO s p)) g1) : Rl (setG s p a) (wr g1 (100 + 10 * p) 3 1) := by
  have hf5 := (IvM_nf hI).1
  have hp6 := (IvM_np hI).1
  obtain ⟨⟨a1, a2, a3, a4, a5, a6, a7⟩, hF, hP⟩ := hR
  rw [seS_r (by decide)] at a1 a2 a3 a4 a5 a6 a7
  have eg : ∀ k, k ≠ 100 + 10 * p → wr g1 (100 + 10 * p) 3 1 k = g1 k := fun k hk => wr_row _ _ _ _ hk
  refine ⟨⟨by rw [setG_r (by decide), eg 31 (by omega)]; exact a1, by rw [setG_r (by decide), eg 32 (by omega)]; exact a2, by rw [setG_r (by decide), eg 30 (by omega)]; exact a3, by rw [setG_r (by decide), eg 30 (by omega)]; exact a4, by rw [setG_r (by decide), eg 33 (by omega)]; exact a5, by rw [setG_r (by decide), eg 34 (by omega)]; exact a6, by rw [setG_r (by decide), eg 35 (by omega)]; exact a7⟩, fun b hb => ?_, fun a8 ha8 => ?_⟩
  · have hb' : b < nfO s := by unfold nfO at hb ⊢; rw [setG_r (by decide)] at hb; exact hb
    obtain ⟨e1, e2, e3⟩ := hF b hb'
    rw [seS_r (by decide)] at e2
    rw [setG_r (show 5 ≠ 18 ∧ 5 ≠ 19 ∧ 5 ≠ 20 ∧ 5 ≠ 7 ∧ 5 ≠ 15 by decide), setG_r (show 6 ≠ 18 ∧ 6 ≠ 19 ∧ 6 ≠ 20 ∧ 6 ≠ 7 ∧ 6 ≠ 15 by decide), setG_r (show 8 ≠ 18 ∧ 8 ≠ 19 ∧ 8 ≠ 20 ∧ 8 ≠ 7 ∧ 8 ≠ 15 by decide), eg (40 + 10 * b) (by omega), eg (40 + 10 * b + 1) (by omega), eg (40 + 10 * b + 2) (by omega), eg (40 + 10 * b + 3) (by omega)]
    refine ⟨e1, e2, fun j hj => ?_⟩
    obtain ⟨e4, e5, e6⟩ := e3 j hj
    rw [seS_r (by decide)] at e4 e6
    refine ⟨e4, ?_, e6⟩
    rw [seS_r (show 6 ≠ 7 by decide), seS_7 (by omega), ← hlen, List.take_length] at e5
    rw [e5, setG_7, if_pos (by omega), hmo _ (by omega)]
  · have ha' : a8 < npO s := by unfold npO at ha8 ⊢; rw [setG_r (by decide)] at ha8; exact ha8
    obtain ⟨e1, e2, e3, e4, e5, e6⟩ := hP a8 ha'
    have hm4 := (IvM_nl hI (show a8 < 6 by omega)).2
    rw [seS_r (by decide)] at e1 e2 e3 e4 e5
    have hj : ∀ j, j ≠ 3 → wr g1 (100 + 10 * p) 3 1 (100 + 10 * a8) j = g1 (100 + 10 * a8) j := fun j hj => wr_ne _ _ _ _ (Or.inr hj)
    rw [hj 0 (by decide), hj 1 (by decide), hj 4 (by decide), eg (100 + 10 * a8 + 1) (by omega), setG_r (show 12 ≠ 18 ∧ 12 ≠ 19 ∧ 12 ≠ 20 ∧ 12 ≠ 7 ∧ 12 ≠ 15 by decide), setG_r (show 13 ≠ 18 ∧ 13 ≠ 19 ∧ 13 ≠ 20 ∧ 13 ≠ 7 ∧ 13 ≠ 15 by decide), setG_r (show 14 ≠ 18 ∧ 14 ≠ 19 ∧ 14 ≠ 20 ∧ 14 ≠ 7 ∧ 14 ≠ 15 by decide), setG_r (show 16 ≠ 18 ∧ 16 ≠ 19 ∧ 16 ≠ 20 ∧ 16 ≠ 7 ∧ 16 ≠ 15 by decide)]
    refine ⟨e1, e2, ?_, e4, e5, fun q hq => ?_⟩
    · rw [setG_15]
      by_cases hap : a8 = p
      · subst hap
        rw [wr_same, if_pos rfl]
      · rw [wr_row _ _ _ _ (by omega), if_neg hap]; exact e3
    · have hq' : q < nlO s a8 := by unfold nlO at hq ⊢; rw [setG_r (by decide)] at hq; exact hq
      have hw9 : wdO (setG s p a) (4 * a8 + q) = wdO s (4 * a8 + q) := by unfold wdO; rw [setG_r (by decide)]
      have h9 := e6 q hq'
      by_cases hap : a8 = p
      · subst hap
        obtain ⟨h1, -⟩ := h9
        have hw8 : wdO (seS s a.1 (nlO s a8)) (4 * a8 + q) = wdO s (4 * a8 + q) := rfl
        rw [hw8] at h1
        have hql : q < a.1.length := by omega
        have ht := List.getElem?_eq_getElem hql
        generalize a.1[q] = t at ht
        obtain ⟨f1, f2, f3, f4⟩ := hln q t ht
        obtain ⟨-, w, hw, ⟨⟨tt, htt, hte, htc⟩, -, -⟩⟩ := hTS.2 q t ht
        rw [wds_get _ _ hq'] at hw
        cases hw
        have hsz := h1.2.1
        have htt2 : tt < 2 ^ 31 := Nat.lt_of_lt_of_le htt (Nat.le_trans (Nat.pow_le_pow_right (by decide) hsz) (by decide))
        have hin : 4 * a8 ≤ 4 * a8 + q ∧ 4 * a8 + q < 4 * a8 + a.1.length := by omega
        have h20 : setG s a8 a 20 (4 * a8 + q) = nI tt := by
          rw [setG_20, if_pos hin, Nat.add_sub_cancel_left]
          unfold lwd
          rw [ht]
          exact hte
        refine ⟨?_, fun _ => ⟨?_, ?_, ?_, fun j hj => ?_⟩⟩
        · unfold LwP at h1 ⊢
          rw [hw9, eg _ (by omega), eg _ (by omega)]
          exact h1
        · rw [eg _ (by omega), f1, setG_18, if_pos hin, Nat.add_sub_cancel_left]
          unfold lfn
          rw [ht]
        · rw [eg _ (by omega), f2, setG_19, if_pos hin, Nat.add_sub_cancel_left]
          unfold lfl
          rw [ht]
        · rw [eg _ (by omega), f3, h20, hte]
        · rw [eg _ (by omega), f4 j hj, hw9]
          have : tkO (setG s a8 a) (4 * a8 + q) = tt := by unfold tkO; rw [h20]; exact iz_nI htt2
          rw [this]
          exact htc j hj
      · have hout : ¬ (4 * p ≤ 4 * a8 + q ∧ 4 * a8 + q < 4 * p + a.1.length) := by have := (IvM_nl hI (show p < 6 by omega)).2; omega
        exact h9.c (by rw [setG_15, if_neg hap, seS_r (by decide)]) (by rw [setG_r (by decide), seS_r (by decide)]) (fun _ => ⟨by rw [setG_18, if_neg hout, seS_r (by decide)], by rw [setG_19, if_neg hout, seS_r (by decide)], by rw [setG_20, if_neg hout, seS_r (by decide)]⟩) (by rw [eg _ (by omega)]) (eg _ (by omega)) (fun _ => ⟨eg _ (by omega), eg _ (by omega)⟩)
set_option maxRecDepth 100000 in
theorem x_set (l : Launch) (hl9 : l.stackTraces = false) (Z : Zc) (p : Int32) (s g : MG) (hI : IvM s) (N : Nat) (hB : IvB N s) (hR : Rl s g) : XI l yX3_set cX3_set 5 (some .int) (rmz 8 240 1 6) Z [.ref (Z.ad 30), .int p] g (PX g (cdSet s p) (wdF (plO s (iz p))) (stSet s p)) (PXx g (cdSet s p) (nm3 0 2 2) (stSet s p)) := by
  refine ent_xi (lo := [some (.ref (Z.ad 30)), some (.int p), none, none, none]) hl9 (by decide) rfl (by simp [lg_sl, Value.category]) rfl (by decide) (fun P hl C ret thr => ?_)
  have hnf := (IvM_nf hI).2
  have hf5 := (IvM_nf hI).1
  have hnp := (IvM_np hI).2
  have hp6 := (IvM_np hI).1
  have hn1 : g 31 2 = nI (nfO s) := hR.1.1.trans hnf
  have hn2 : g 32 2 = nI (npO s) := hR.1.2.1.trans hnp
  refine v_aload_n C dX3_set_0 rfl rfl ?_
  refine v_iload_n C dX3_set_1 rfl rfl ?_
  refine v_callVi (n := 1) (as := [.int p]) C (c_cisPoster _ Z (npO s) p g hn2 hp6) (gv (tg1 93 rfl rfl) (tg1 95 rfl rfl) (tg0 0 rfl rfl) (tg1 1 rfl rfl) (tg1 96 rfl rfl)) (by decide +kernel) ⟨Nat.le_of_ble_eq_true rfl, Nat.le_of_ble_eq_true rfl⟩ rfl cx_T rfl rfl (Nat.le_of_ble_eq_true rfl) dX3_set_2 ⟨Nat.le_of_ble_eq_true rfl, Nat.le_of_ble_eq_true rfl⟩ (fun r2 g2 hp2 => ?_)
  obtain ⟨rfl, hg2⟩ := hp2
  rw [hg2]
  refine v_if_ne (tgt := 18) C dX3_set_5 (by decide) (fun h5 => ?_) (fun h5 => ?_)
  · have k5 := bI_1.mp h5
    obtain ⟨i, hi, ei⟩ : ∃ i, i < npO s ∧ p = nI i := ⟨iz p, (isN_nI k5).2, (isN_nI k5).1⟩
    subst ei
    have hP := PsP.mk hn2 hi hp6
    obtain ⟨r12, r13, r15, r16, r14, rL⟩ := hR.2.2 i hi
    have hm : g (100 + 10 * i + 1) 2 = nI (nlO s i) := r14.trans (IvM_nl hI (by omega)).1
    have hm4 := (IvM_nl hI (show i < 6 by omega)).2
    refine v_aload_n C dX3_set_18 rfl rfl ?_
    refine v_get C inG3 rfl 1 (by decide) (tg1 67 rfl rfl) rfl cx_T rfl dX3_set_19 ?_
    refine v_iload_n C dX3_set_22 rfl rfl ?_
    refine v_callVq (n := 1) (as := [.int (nI i)]) C (c_lget _ Z 32 37 (npO s) i g cx_L2 hn2 hi (by omega) (fun j => Z.ad (100 + 10 * j)) (cxE2 hn2)) (gv (tg1 169 rfl rfl) (tg1 170 rfl rfl) (tg1 171 rfl rfl) (tg1 4 rfl rfl) (tg1 172 rfl rfl)) (by decide +kernel) ⟨Nat.le_of_ble_eq_true rfl, Nat.le_of_ble_eq_true rfl⟩ rfl cx_L2 rfl rfl (Nat.le_of_ble_eq_true rfl) dX3_set_23 ⟨Nat.le_of_ble_eq_true rfl, Nat.le_of_ble_eq_true rfl⟩ (fun r23 g23 hp23 => ?_)
    obtain ⟨rfl, hg23⟩ := hp23
    rw [hg23]
    refine v_st (st' := [.ref (Z.ad (100 + 10 * i))]) rfl ?_
    refine v_cast C rfl (tg1 183 rfl rfl) (cxP hP) dX3_set_26 ?_
    refine v_astore_n (lo' := [some (.ref (Z.ad 30)), some (.int (nI i)), some (.ref (Z.ad (100 + 10 * i))), none, none]) C dX3_set_29 rfl (Nat.le_of_ble_eq_true rfl) rfl rfl ?_
    refine v_aload_n C dX3_set_30 rfl rfl ?_
    refine v_aload_n C dX3_set_31 rfl rfl ?_
    refine v_callVi (n := 1) (as := [.ref (Z.ad (100 + 10 * i))]) C (c_plan _ Z i (nlO s i) (nfO s) g hP hm hm4  hn1 hf5 (s 9) hI.2.2.1 hR.1.2.2.2.2.1 (s 5) (fun i9 hi9 => (hR.2.1 i9 hi9).2.1) (wdO s) (fun q hq => (rL q hq).1)) (gv (tg1 184 rfl rfl) (tg1 186 rfl rfl) (tg0 2 rfl rfl) (tg1 1 rfl rfl) (tg1 187 rfl rfl)) (by decide +kernel) ⟨Nat.le_of_ble_eq_true rfl, Nat.le_of_ble_eq_true rfl⟩ rfl cx_T rfl rfl (Nat.le_of_ble_eq_true rfl) dX3_set_32 ⟨Nat.le_of_ble_eq_true rfl, Nat.le_of_ble_eq_true rfl⟩ (fun r32 g32 hp32 => ?_)
    obtain ⟨hf9, hs9, hq9⟩ := hp32
    have hE9 := plE_C hI hB hR hi
    refine v_istore_n (lo' := [some (.ref (Z.ad 30)), some (.int (nI i)), some (.ref (Z.ad (100 + 10 * i))), some (.int r32), none]) C dX3_set_35 rfl (Nat.le_of_ble_eq_true rfl) rfl rfl ?_
    refine v_iload_n C dX3_set_36 rfl rfl ?_
    refine v_iconst (v := (-1)) C dX3_set_37 (by decide) ?_
    refine v_icmp_ne (tgt := 51) C dX3_set_38 (by decide) (fun h38 => ?_) (fun h38 => ?_)
    · obtain ⟨b, hb⟩ : ∃ b, plC g (s 9) (s 5) i (nlO s i) (nfO s) (wdO s) = some b := by
        cases hc : plC g (s 9) (s 5) i (nlO s i) (nfO s) (wdO s) with
        | none => rw [hc] at hq9; exact absurd hq9 h38
        | some b => exact ⟨b, rfl⟩
      rw [hb] at hq9 hE9
      obtain ⟨a, ha⟩ : ∃ a, plO s i = some a := by
        cases hc : plO s i with
        | none => rw [hc] at hE9; exact absurd hE9 id
        | some a => exact ⟨a, rfl⟩
      rw [ha] at hE9
      obtain ⟨hab, hRm⟩ := hE9
      obtain ⟨hI9, hn9, hlen9, hs8⟩ := plC_I hI.2.2.1 hf5 hb
      obtain ⟨hr9, hln9⟩ := hq9
      have hmo9 := plC_mo hb
      rw [← hab] at hI9 hn9 hlen9 hr9 hln9 hmo9
      have hmo : ∀ j, j < 50 → a.2 j = a.1.foldl spd (fun _ => 0) j := fun j hj => by rw [← hmo9]; exact (hRm j hj).1
      have hcd9 : cdSet s (nI i) = 0 := by unfold cdSet; rw [if_neg (by simp [k5]), iz_nI (by omega), ha]
      have hR9 := Rl_frC hI hR hi hf9 hs9
      refine v_iconst (v := 0) C dX3_set_51 (by decide) ?_
      refine v_topi (y := nI 0) rfl ?_
      refine v_istore (lo' := [some (.ref (Z.ad 30)), some (.int (nI i)), some (.ref (Z.ad (100 + 10 * i))), some (.int r32), some (.int (nI 0))]) C dX3_set_52 (Nat.le_of_ble_eq_true rfl) rfl rfl ?_
      have loop : ∀ (n q : Nat) (g1 : MG), nlO s i - q < n → q ≤ nlO s i → Rl (seS s a.1 q) g1 → FrK g g1 → (∀ i9 t, a.1[i9]? = some t → lnO g1 i i9 t) → V P (rmz 8 240 1 6) Z [some (.ref (Z.ad 30)), some (.int (nI i)), some (.ref (Z.ad (100 + 10 * i))), some (.int r32), some (.int (nI q))] 54 [] g1 0 0 := by
        intro n
        induction n with
        | zero => intro q g1 hm; exact absurd hm (Nat.not_lt_zero _)
        | succ n ih =>
          intro q g1 hm9 hq hR1 hf1 hln1
          have hn4 : g1 32 2 = nI (npO s) := hR1.1.2.1.trans (by rw [seS_r (by decide)]; exact hnp)
          have hn3 : g1 31 2 = nI (nfO s) := hR1.1.1.trans (by rw [seS_r (by decide)]; exact hnf)
          have hP1 := PsP.mk hn4 hi hp6
          have q14 := (hR1.2.2 i hi).2.2.2.2.1
          have hm1 : g1 (100 + 10 * i + 1) 2 = nI (nlO s i) := q14.trans (by rw [seS_r (by decide)]; exact (IvM_nl hI (by omega)).1)
          refine v_iload C dX3_set_54 rfl ?_
          refine v_aload_n C dX3_set_56 rfl rfl ?_
          refine v_get C inG2 rfl 2 (by decide) (tg3 94 rfl rfl) rfl (cxP hP1) rfl dX3_set_57 ?_
          refine v_callVi (n := 0) (as := []) C (c_lsize _ Z (100 + 10 * i + 1) (100 + 10 * i + 1 + 1) g1 (cxPL hP1)) (gv (tg1 97 rfl rfl) (tg1 98 rfl rfl) (tg1 99 rfl rfl) (tg1 4 rfl rfl) (tg1 100 rfl rfl)) (by decide +kernel) ⟨Nat.le_of_ble_eq_true rfl, Nat.le_of_ble_eq_true rfl⟩ rfl (cxPL hP1) rfl rfl (Nat.le_of_ble_eq_true rfl) dX3_set_60 ⟨Nat.le_of_ble_eq_true rfl, Nat.le_of_ble_eq_true rfl⟩ (fun r60 g60 hp60 => ?_)
          obtain ⟨rfl, hg60⟩ := hp60
          rw [hg60]
          refine v_topi (y := nI (nlO s i)) hm1 ?_
          refine v_icmp_ge (tgt := 87) C dX3_set_63 (by decide) (fun h63 => ?_) (fun h63 => ?_)
          · have hkn : q = nlO s i := Nat.le_antisymm hq ((nI_leI (by omega) (by omega)).mp h63)
            rw [hkn] at hR1
            refine v_aload_n C dX3_set_87 rfl rfl ?_
            refine v_iconst (v := 1) C dX3_set_88 (by decide) ?_
            refine v_put C inG2 rfl tyX2 tyX2_ok nmX2 3 (by decide) (tg3 96 rfl rfl) rfl rfl (ty := .boolean) rfl rfl rfl (cxP hP1) (Nat.le_of_ble_eq_true rfl) (lk_n (by omega) (by omega) (by omega)) (fun _ => Or.inl (by omega)) (cxP_w3 hP1 _) dX3_set_89 ?_
            refine v_iload_n C dX3_set_92 rfl rfl ?_
            refine v_wide (k := 1) (n := 6) (Nat.le_of_ble_eq_true rfl) (Nat.le_of_ble_eq_true rfl) ?_
            exact ret _ _ _ _ dX3_set_93 ⟨hcd9, (show r32 = wdF (plO s (iz (nI i))) by rw [iz_nI (by omega), ha]; exact hr9), by unfold stSet; rw [if_neg (by simp [k5]), iz_nI (by omega), ha]; exact Rl_set hI hi hlen9 hmo hln1 hI9 hR1, hf1.w (by omega)⟩
          · have hqn : q < nlO s i := Nat.lt_of_not_le fun z => h63 ((nI_leI (by omega) (by omega)).mpr z)
            have hL1 : LnP g1 i q := LnP.mk hP1 hm1 hqn hm4
            obtain ⟨t, ht⟩ : ∃ t, a.1[q]? = some t := ⟨a.1[q]'(by omega), List.getElem?_eq_getElem (by omega)⟩
            have hft : t.1 < nfO s := hn9 t (List.mem_of_getElem? ht)
            have hl9 := hln1 q t ht
            refine v_aload_n C dX3_set_66 rfl rfl ?_
            refine v_get C inG2 rfl 2 (by decide) (tg3 94 rfl rfl) rfl (cxP hP1) rfl dX3_set_67 ?_
            refine v_iload C dX3_set_70 rfl ?_
            refine v_callVq (n := 1) (as := [.int (nI q)]) C (c_lget _ Z (100 + 10 * i + 1) (100 + 10 * i + 1 + 1) (nlO s i) q g1 (cxPL hP1) hm1 hqn (by omega) (fun j => Z.ad (200 + 10 * (4 * i + j))) (cxPE' hP1 hm1)) (gv (tg1 169 rfl rfl) (tg1 170 rfl rfl) (tg1 171 rfl rfl) (tg1 4 rfl rfl) (tg1 172 rfl rfl)) (by decide +kernel) ⟨Nat.le_of_ble_eq_true rfl, Nat.le_of_ble_eq_true rfl⟩ rfl (cxPL hP1) rfl rfl (Nat.le_of_ble_eq_true rfl) dX3_set_72 ⟨Nat.le_of_ble_eq_true rfl, Nat.le_of_ble_eq_true rfl⟩ (fun r72 g72 hp72 => ?_)
            obtain ⟨rfl, hg72⟩ := hp72
            rw [hg72]
            refine v_st (st' := [.ref (Z.ad (200 + 10 * (4 * i + q)))]) rfl ?_
            refine v_cast C rfl (tg1 212 rfl rfl) (cxLn hL1) dX3_set_75 ?_
            refine v_callVv (n := 0) (as := []) C (c_takeOut _ Z t.1 i q g1 (FnP.mk hn3 hft hf5) hL1 hl9.1) (gv (tg2 14 rfl rfl) (tg2 15 rfl rfl) (tg2 16 rfl rfl) (tg1 28 rfl rfl) (tg2 17 rfl rfl)) (by decide +kernel) ⟨Nat.le_of_ble_eq_true rfl, Nat.le_of_ble_eq_true rfl⟩ rfl (cxLn hL1) rfl rfl (Nat.le_of_ble_eq_true rfl) dX3_set_78 ⟨Nat.le_of_ble_eq_true rfl, Nat.le_of_ble_eq_true rfl⟩ (fun g78 hp78 => ?_)
            have hg78 := hp78
            rw [hg78]
            refine v_iinc (lo' := [some (.ref (Z.ad 30)), some (.int (nI i)), some (.ref (Z.ad (100 + 10 * i))), some (.int r32), some (.int ((nI q) + 1))]) C dX3_set_81 rfl rfl rfl rfl ?_
            refine v_lo (lo' := [some (.ref (Z.ad 30)), some (.int (nI i)), some (.ref (Z.ad (100 + 10 * i))), some (.int r32), some (.int (nI (q + 1)))]) (by rw [← nI_1 q]) ?_
            refine v_goto (tgt := 54) C dX3_set_84 (by decide) ?_
            exact ih (q + 1) _ (by omega) (by omega) (Rl_take hI hi (by omega) ht hft hl9 hR1) ⟨fun k hk => by rw [rwr_ne _ _ _ (by omega)]; exact hf1.1 k hk, by rw [rwr_ne _ _ _ (by omega)]; exact hf1.2⟩ (fun i9 t9 h9 => (hln1 i9 t9 h9).e (rwr_ne _ _ _ (by omega)) (rwr_ne _ _ _ (by omega)))
      exact loop (nlO s i + 1) 0 g32 (by omega) (by omega) (by rw [seS_0]; exact hR9) (hf9.K (by omega)) hln9
    · have hno : plO s i = none := by
        cases hc : plO s i with
        | none => rfl
        | some a =>
          exfalso
          rw [hc] at hE9
          cases hc2 : plC g (s 9) (s 5) i (nlO s i) (nfO s) (wdO s) with
          | none => rw [hc2] at hE9; exact hE9
          | some b =>
            rw [hc2] at hq9
            obtain ⟨D, hD, hDe⟩ := plI_fl (plC_I hI.2.2.1 hf5 hc2).1
            have hlen := (plC_I hI.2.2.1 hf5 hc2).2.2.1
            exact nI_m1 (o := D) (by omega) ((hDe.symm.trans hq9.1.symm).trans h38)
      exact thr _ _ _ _ _ 2 _ _ (List.mem_of_getElem? (i := 15) rfl) ⟨Nat.le_of_ble_eq_true rfl, Nat.le_of_ble_eq_true rfl⟩ dX3_set_41 dX3_set_44 dX3_set_45 dX3_set_47 dX3_set_50 (PXx.no (k := 2) (by unfold cdSet; rw [if_neg (by simp [k5]), iz_nI (by omega), hno]) (by decide) rfl (by unfold stSet; rw [if_neg (by simp [k5]), iz_nI (by omega), hno]) (Rl_frC hI hR hi hf9 hs9) (hf9.K (by omega)))
  · have k5 := bI_0.mp h5
    exact thr _ _ _ _ _ 0 _ _ (List.mem_of_getElem? (i := 12) rfl) ⟨Nat.le_of_ble_eq_true rfl, Nat.le_of_ble_eq_true rfl⟩ dX3_set_8 dX3_set_11 dX3_set_12 dX3_set_14 dX3_set_17 (PXx.no (k := 1) (by unfold cdSet; rw [if_pos k5]) (by decide) rfl (by unfold stSet; rw [if_pos k5]) hR FrK.rf)
