/-! THE REFERENCE: would, next, advise, lasts -/
def plO (g : MG) (p : Nat) : Option (List (Nat × TS) × (Nat → Int32)) := plM g p (nlO g p) (nfO g) (wdO g)
def prP (g : MG) (p : Nat) : Int32 := prT g (wdO g) p (nlO g p) (iz (g 12 p)) (plO g p)
theorem okE_A (b o : Nat → Int32) {nf : Nat} (h5 : nf ≤ 5) : okE (okA b o) (okA b o) nf := fun c mo mo' _ hR f k x hf hk _ => by unfold okA; rw [(hR (10 * f + k) (by omega)).1]
theorem Rm_0 (g g' : MG) : Rm 0 (moZ g) (moZ g') := fun j hj => by unfold moZ; rw [if_pos hj, if_pos hj]; exact ⟨rfl, 0, Nat.le_refl 0, rfl⟩
theorem plM_fr {g g1 : MG} (h : frP g g1) {p nl nf : Nat} (wd : Nat → Nat) (h5 : nf ≤ 5) (h4 : nl ≤ 4) (hot : otI (g 9)) : plE (plM g p nl nf wd) (plM g1 p nl nf wd) := by
  unfold plM
  rw [h.1 15 (by omega) (by decide), h.1 6 (by omega) (by decide), h.1 7 (by omega) (by decide), h.1 9 (by omega) (by decide), h.1 5 (by omega) (by decide), h.1 13 (by omega) (by decide)]
  split
  · exact trivial
  · exact plA_cong h5 hot (okE_A _ _ h5) _ _ _ _ 0 (Rm_0 g g1) (by rw [wds_len]; omega)
theorem plE_wd {o o' : Option (List (Nat × TS) × (Nat → Int32))} (h : plE o o') : wdF o' = wdF o := by
  cases o <;> cases o' <;> first | rfl | exact h.elim | (show flS _ = flS _; rw [h.1])
theorem plE_pr {g g1 : MG} (hf : frP g g1) {o o' : Option (List (Nat × TS) × (Nat → Int32))} (h : plE o o') (wd : Nat → Nat) (p nl t : Nat) : prT g1 wd p nl t o' = prT g wd p nl t o := by
  cases o <;> cases o' <;> first | rfl | exact h.elim | (unfold prT; rw [hf.1 5 (by omega) (by decide), hf.1 10 (by omega) (by decide), hf.1 11 (by omega) (by decide)]; simp only [h.1])
theorem frP.RE {g g' : MG} (h : frP (wr g 0 0 0) g') : g' 0 0 = nI 0 ∧ RE g g' ∧ ∀ q, 26 ≤ q → g' q = g q :=
  ⟨h.2 0 (by decide), RE.of (fun j h1 h2 => (h.2 j (by omega)).trans (wr_ne _ _ _ _ (Or.inr (by omega)))) (fun k h1 h2 => (h.1 k (by omega) (by omega)).trans (wr_row _ _ _ _ (by omega))), fun q hq => (h.1 q (by omega) (by omega)).trans (wr_row _ _ _ _ (by omega))⟩
def cdWould (g : MG) (p v : Int32) : Nat := if isN (npO g) p = false ∨ inB v 0 1 = false then 1 else 0
def anWould (g : MG) (p v : Int32) : Int32 := if v = 0 then prP g (iz p) else wdF (plO g (iz p))
set_option maxRecDepth 100000 in
theorem c_would (l : Launch) (Z : Zc) (p v : Int32) (g : MG) (hI : IvM g) : MI l yX4_would cX4_would 3 (some .int) (rmz 5 140 0 0) Z [.ref (Z.ad 0), .int p, .int v] g (PM g (cdWould g p v) (anWould g p v) (g)) := by
  refine ent_i (own := RX4) (lo := [some (.ref (Z.ad 0)), some (.int p), some (.int v)]) (by decide) rfl (by simp [lg_sl, Value.category]) rfl (fun P hl C ret => ?_)
  obtain ⟨⟨nf, hf5, hnf⟩, ⟨np, hp6, hnp⟩, hot, hnl, htn, his, hwd, htk⟩ := id hI
  have enf : nfO g = nf := by unfold nfO; rw [hnf]; exact iz_nI (by omega)
  have enp : npO g = np := by unfold npO; rw [hnp]; exact iz_nI (by omega)
  refine v_aload_n C dX4_would_0 rfl rfl ?_
  refine v_iconst (v := 0) C dX4_would_1 (by decide) ?_
  refine v_put C inG4 rfl tyX4 tyX4_ok nmX4 0 (by decide) (tg3 195 rfl rfl) rfl rfl (ty := .int) rfl rfl rfl cx_M (Nat.le_of_ble_eq_true rfl) rfl (by omega) cx_M dX4_would_2 ?_
  refine v_aload_n C dX4_would_5 rfl rfl ?_
  refine v_iload_n C dX4_would_6 rfl rfl ?_
  refine v_callVi (n := 1) (as := [.int p]) C (c_isPoster _ Z np p (wr g 0 0 0) hnp hp6) (gv (tg4 87 rfl rfl) (tg4 89 rfl rfl) (tg0 22 rfl rfl) (tg1 6 rfl rfl) (tg4 90 rfl rfl)) (by decide +kernel) ⟨Nat.le_of_ble_eq_true rfl, Nat.le_of_ble_eq_true rfl⟩ rfl cx_M rfl rfl (Nat.le_of_ble_eq_true rfl) dX4_would_7 ⟨Nat.le_of_ble_eq_true rfl, Nat.le_of_ble_eq_true rfl⟩ (fun r7 g7 hp7 => ?_)
  obtain ⟨rfl, hg7⟩ := hp7
  rw [hg7]
  refine v_if_eq (tgt := 22) C dX4_would_10 (by decide) (fun h10 => ?_) (fun h10 => ?_)
  · have k10 := bI_0.mp h10
    refine v_aload_n C dX4_would_22 rfl rfl ?_
    refine v_iconst (v := 1) C dX4_would_23 (by decide) ?_
    refine v_callVi (n := 1) (as := [.int 1]) C (c_no _ Z 1 (wr g 0 0 0)) (gv (tg4 48 rfl rfl) (tg4 50 rfl rfl) (tg0 20 rfl rfl) (tg1 6 rfl rfl) (tg4 51 rfl rfl)) (by decide +kernel) ⟨Nat.le_of_ble_eq_true rfl, Nat.le_of_ble_eq_true rfl⟩ rfl cx_M rfl rfl (Nat.le_of_ble_eq_true rfl) dX4_would_24 ⟨Nat.le_of_ble_eq_true rfl, Nat.le_of_ble_eq_true rfl⟩ (fun r24 g24 hp24 => ?_)
    obtain ⟨rfl, hg24⟩ := hp24
    rw [hg24]
    exact ret _ _ _ _ dX4_would_27 (PM.no (k := 1) (by unfold cdWould; rw [enp, if_pos (Or.inl k10)]) (by decide) rfl (fun j h1 h2 => wr_ne _ _ _ _ (Or.inr (by omega))) (fun q h1 h2 => wr_row _ _ _ _ (by omega)) (fun q hq => wr_row _ _ _ _ (by omega)))
  · have k10 := bI_1.mp h10
    refine v_iload_n C dX4_would_13 rfl rfl ?_
    refine v_iconst (v := 0) C dX4_would_14 (by decide) ?_
    refine v_iconst (v := 1) C dX4_would_15 (by decide) ?_
    refine v_callSi (n := 3) (as := [.int v, .int 0, .int 1]) C (c_isIn _ Z v 0 1 (wr g 0 0 0)) (gs (tg4 45 rfl rfl) (tg4 46 rfl rfl) (tg1 6 rfl rfl) (tg4 47 rfl rfl)) (by decide +kernel) ⟨Nat.le_of_ble_eq_true rfl, Nat.le_of_ble_eq_true rfl⟩ rfl rfl (Nat.le_of_ble_eq_true rfl) dX4_would_16 ⟨Nat.le_of_ble_eq_true rfl, Nat.le_of_ble_eq_true rfl⟩ (fun r16 g16 hp16 => ?_)
    obtain ⟨rfl, hg16⟩ := hp16
    rw [hg16]
    refine v_if_ne (tgt := 28) C dX4_would_19 (by decide) (fun h19 => ?_) (fun h19 => ?_)
    · have k19 := bI_1.mp h19
      have hcd : cdWould g p v = 0 := by unfold cdWould; rw [enp, if_neg (by rw [k10, k19]; decide)]
      obtain ⟨a, ha, rfl⟩ := isN_ex k10
      have ea : iz (nI a) = a := iz_nI (by omega)
      have hl := IvM_nl hI (show a < 6 by omega)
      have ht := IvM_t hI (show a < 6 by omega)
      refine v_iload_n C dX4_would_28 rfl rfl ?_
      refine v_if_ne (tgt := 40) C dX4_would_29 (by decide) (fun h29 => ?_) (fun h29 => ?_)
      · refine v_aload_n C dX4_would_40 rfl rfl ?_
        refine v_iload_n C dX4_would_41 rfl rfl ?_
        refine v_callVi (n := 1) (as := [.int (nI a)]) C (c_tryPoster _ Z a (nlO g a) nf (wdO g) (wr g 0 0 0) (by omega) hot hnf hf5 hl.1 hl.2 (IvM_W hI)) (gv (tg4 96 rfl rfl) (tg4 98 rfl rfl) (tg0 23 rfl rfl) (tg1 6 rfl rfl) (tg4 99 rfl rfl)) (by decide +kernel) ⟨Nat.le_of_ble_eq_true rfl, Nat.le_of_ble_eq_true rfl⟩ rfl cx_M rfl rfl (Nat.le_of_ble_eq_true rfl) dX4_would_42 ⟨Nat.le_of_ble_eq_true rfl, Nat.le_of_ble_eq_true rfl⟩ (fun r42 g42 hp42 => ?_)
        obtain ⟨hfr, hq⟩ := hp42
        have hr := plQ_wd hq
        exact ret _ _ _ _ dX4_would_45 ⟨(frP.RE hfr).1.trans (by rw [hcd]), fun _ => by unfold anWould plO; rw [if_neg h29, ea, enf]; exact hr, (frP.RE hfr).2.1, (frP.RE hfr).2.2⟩
      · refine v_aload_n C dX4_would_32 rfl rfl ?_
        refine v_iload_n C dX4_would_33 rfl rfl ?_
        refine v_callVi (n := 1) (as := [.int (nI a)]) C (c_proofTried _ Z a (nlO g a) nf (iz (g 12 a)) (wdO g) (wr g 0 0 0) (by omega) hot hnf hf5 hl.1 hl.2 (IvM_W hI) ht.2 ht.1) (gv (tg4 191 rfl rfl) (tg4 193 rfl rfl) (tg0 37 rfl rfl) (tg1 6 rfl rfl) (tg4 194 rfl rfl)) (by decide +kernel) ⟨Nat.le_of_ble_eq_true rfl, Nat.le_of_ble_eq_true rfl⟩ rfl cx_M rfl rfl (Nat.le_of_ble_eq_true rfl) dX4_would_34 ⟨Nat.le_of_ble_eq_true rfl, Nat.le_of_ble_eq_true rfl⟩ (fun r34 g34 hp34 => ?_)
        obtain ⟨hfr, hr⟩ := hp34
        refine v_goto (tgt := 45) C dX4_would_37 (by decide) ?_
        exact ret _ _ _ _ dX4_would_45 ⟨(frP.RE hfr).1.trans (by rw [hcd]), fun _ => by unfold anWould prP plO; rw [if_pos h29, ea, enf]; exact hr, (frP.RE hfr).2.1, (frP.RE hfr).2.2⟩
    · have k19 := bI_0.mp h19
      refine v_aload_n C dX4_would_22 rfl rfl ?_
      refine v_iconst (v := 1) C dX4_would_23 (by decide) ?_
      refine v_callVi (n := 1) (as := [.int 1]) C (c_no _ Z 1 (wr g 0 0 0)) (gv (tg4 48 rfl rfl) (tg4 50 rfl rfl) (tg0 20 rfl rfl) (tg1 6 rfl rfl) (tg4 51 rfl rfl)) (by decide +kernel) ⟨Nat.le_of_ble_eq_true rfl, Nat.le_of_ble_eq_true rfl⟩ rfl cx_M rfl rfl (Nat.le_of_ble_eq_true rfl) dX4_would_24 ⟨Nat.le_of_ble_eq_true rfl, Nat.le_of_ble_eq_true rfl⟩ (fun r24 g24 hp24 => ?_)
      obtain ⟨rfl, hg24⟩ := hp24
      rw [hg24]
      exact ret _ _ _ _ dX4_would_27 (PM.no (k := 1) (by unfold cdWould; rw [enp, if_pos (Or.inr k19)]) (by decide) rfl (fun j h1 h2 => wr_ne _ _ _ _ (Or.inr (by omega))) (fun q h1 h2 => wr_row _ _ _ _ (by omega)) (fun q hq => wr_row _ _ _ _ (by omega)))
def nxt (pf : Nat → Int32) : Nat → Int32 × Int32
  | 0 => (-1, -1)
  | p + 1 => if (nxt pf p).2 < pf p then (nI p, pf p) else nxt pf p
set_option maxRecDepth 100000 in
theorem c_next (l : Launch) (Z : Zc)  (g : MG) (hI : IvM g) : MI l yX4_next cX4_next 5 (some .int) (rmz 5 140 0 0) Z [.ref (Z.ad 0)] g (PM g (0) ((nxt (prP g) (npO g)).1) (g)) := by
  refine ent_i (own := RX4) (lo := [some (.ref (Z.ad 0)), none, none, none, none]) (by decide) rfl (by simp [lg_sl, Value.category]) rfl (fun P hl C ret => ?_)
  obtain ⟨⟨nf, hf5, hnf⟩, ⟨np, hp6, hnp⟩, hot, hnl, htn, his, hwd, htk⟩ := id hI
  have enf : nfO g = nf := by unfold nfO; rw [hnf]; exact iz_nI (by omega)
  have enp : npO g = np := by unfold npO; rw [hnp]; exact iz_nI (by omega)
  have loop : ∀ (n : Nat) (p : Nat) (g1 : MG) (v : Option Value), np - p < n → p ≤ np → frP (wr g 0 0 0) g1 → V P (rmz 5 140 0 0) Z [some (.ref (Z.ad 0)), some (.int ((nxt (prP g) p).1)), some (.int ((nxt (prP g) p).2)), some (.int (nI p)), v] 11 [] g1 0 0 := by
    intro n
    induction n with
    | zero => intro p g1 v hn hp hfr; exact absurd hn (Nat.not_lt_zero _)
    | succ n ih =>
      intro p g1 v hn hp hfr
      refine v_iload_n C dX4_next_11 rfl rfl ?_
      refine v_aload_n C dX4_next_12 rfl rfl ?_
      refine v_get C inG4 rfl 2 (by decide) (tg3 197 rfl rfl) rfl cx_M rfl dX4_next_13 ?_
      refine v_topi (y := nI np) ((hfr.2 2 (by decide)).trans hnp) ?_
      refine v_icmp_ge (tgt := 46) C dX4_next_16 (by decide) (fun h16 => ?_) (fun h16 => ?_)
      · have hpn : p = np := Nat.le_antisymm hp ((nI_leI (by omega) (by omega)).mp h16)
        refine v_iload_n C dX4_next_46 rfl rfl ?_
        exact ret _ _ _ _ dX4_next_47 ⟨(frP.RE hfr).1, fun _ => by rw [enp, hpn], (frP.RE hfr).2.1, (frP.RE hfr).2.2⟩
      · have hpn : p < np := Nat.lt_of_not_le fun q => h16 ((nI_leI (by omega) (by omega)).mpr q)
        have hl := IvM_nl hI (show p < 6 by omega)
        have ht := IvM_t hI (show p < 6 by omega)
        refine v_aload_n C dX4_next_19 rfl rfl ?_
        refine v_iload_n C dX4_next_20 rfl rfl ?_
        refine v_callVi (n := 1) (as := [.int (nI p)]) C (c_proofTried _ Z p (nlO g p) nf (iz (g 12 p)) (wdO g) g1 (by omega) (by rw [hfr.1 9 (by omega) (by decide)]; exact hot) ((hfr.2 1 (by decide)).trans hnf) hf5 (by rw [hfr.1 14 (by omega) (by decide)]; exact hl.1) hl.2 (by rw [hfr.1 17 (by omega) (by decide)]; exact IvM_W hI) ht.2 (by rw [hfr.1 12 (by omega) (by decide)]; exact ht.1)) (gv (tg4 191 rfl rfl) (tg4 193 rfl rfl) (tg0 37 rfl rfl) (tg1 6 rfl rfl) (tg4 194 rfl rfl)) (by decide +kernel) ⟨Nat.le_of_ble_eq_true rfl, Nat.le_of_ble_eq_true rfl⟩ rfl cx_M rfl rfl (Nat.le_of_ble_eq_true rfl) dX4_next_21 ⟨Nat.le_of_ble_eq_true rfl, Nat.le_of_ble_eq_true rfl⟩ (fun r21 g21 hp21 => ?_)
        obtain ⟨hfr2, hr⟩ := hp21
        have hr2 : r21 = prP g p := by unfold prP plO; rw [enf, hr]; exact plE_pr hfr (plM_fr hfr (wdO g) hf5 hl.2 hot) (wdO g) p (nlO g p) (iz (g 12 p))
        subst hr2
        refine v_istore (lo' := [some (.ref (Z.ad 0)), some (.int ((nxt (prP g) p).1)), some (.int ((nxt (prP g) p).2)), some (.int (nI p)), some (.int (prP g p))]) C dX4_next_24 (Nat.le_of_ble_eq_true rfl) rfl rfl ?_
        refine v_iload C dX4_next_26 rfl ?_
        refine v_iload_n C dX4_next_28 rfl rfl ?_
        refine v_icmp_gt (tgt := 35) C dX4_next_29 (by decide) (fun h29 => ?_) (fun h29 => ?_)
        · refine v_iload_n C dX4_next_35 rfl rfl ?_
          refine v_istore_n (lo' := [some (.ref (Z.ad 0)), some (.int (nI p)), some (.int ((nxt (prP g) p).2)), some (.int (nI p)), some (.int (prP g p))]) C dX4_next_36 rfl (Nat.le_of_ble_eq_true rfl) rfl rfl ?_
          refine v_iload C dX4_next_37 rfl ?_
          refine v_istore_n (lo' := [some (.ref (Z.ad 0)), some (.int (nI p)), some (.int (prP g p)), some (.int (nI p)), some (.int (prP g p))]) C dX4_next_39 rfl (Nat.le_of_ble_eq_true rfl) rfl rfl ?_
          refine v_iinc (lo' := [some (.ref (Z.ad 0)), some (.int (nI p)), some (.int (prP g p)), some (.int ((nI p) + 1)), some (.int (prP g p))]) C dX4_next_40 rfl rfl rfl rfl ?_
          refine v_lo (lo' := [some (.ref (Z.ad 0)), some (.int (nI p)), some (.int (prP g p)), some (.int (nI (p + 1))), some (.int (prP g p))]) (by rw [← nI_1 p]) ?_
          refine v_goto (tgt := 11) C dX4_next_43 (by decide) ?_
          have hst : nxt (prP g) (p + 1) = (nI p, prP g p) := by rw [nxt, if_pos h29]
          refine v_lo (lo' := [some (.ref (Z.ad 0)), some (.int ((nxt (prP g) (p + 1)).1)), some (.int ((nxt (prP g) (p + 1)).2)), some (.int (nI (p + 1))), some (.int (prP g p))]) (by rw [hst]) ?_
          exact ih (p + 1) g21 _ (by omega) (by omega) (hfr.trans hfr2)
        · refine v_goto (tgt := 40) C dX4_next_32 (by decide) ?_
          refine v_iinc (lo' := [some (.ref (Z.ad 0)), some (.int ((nxt (prP g) p).1)), some (.int ((nxt (prP g) p).2)), some (.int ((nI p) + 1)), some (.int (prP g p))]) C dX4_next_40 rfl rfl rfl rfl ?_
          refine v_lo (lo' := [some (.ref (Z.ad 0)), some (.int ((nxt (prP g) p).1)), some (.int ((nxt (prP g) p).2)), some (.int (nI (p + 1))), some (.int (prP g p))]) (by rw [← nI_1 p]) ?_
          refine v_goto (tgt := 11) C dX4_next_43 (by decide) ?_
          have hst : nxt (prP g) (p + 1) = nxt (prP g) p := by rw [nxt, if_neg h29]
          refine v_lo (lo' := [some (.ref (Z.ad 0)), some (.int ((nxt (prP g) (p + 1)).1)), some (.int ((nxt (prP g) (p + 1)).2)), some (.int (nI (p + 1))), some (.int (prP g p))]) (by rw [hst]) ?_
          exact ih (p + 1) g21 _ (by omega) (by omega) (hfr.trans hfr2)
  refine v_aload_n C dX4_next_0 rfl rfl ?_
  refine v_iconst (v := 0) C dX4_next_1 (by decide) ?_
  refine v_put C inG4 rfl tyX4 tyX4_ok nmX4 0 (by decide) (tg3 195 rfl rfl) rfl rfl (ty := .int) rfl rfl rfl cx_M (Nat.le_of_ble_eq_true rfl) rfl (by omega) cx_M dX4_next_2 ?_
  refine v_iconst (v := (-1)) C dX4_next_5 (by decide) ?_
  refine v_istore_n (lo' := [some (.ref (Z.ad 0)), some (.int (-1)), none, none, none]) C dX4_next_6 rfl (Nat.le_of_ble_eq_true rfl) rfl rfl ?_
  refine v_iconst (v := (-1)) C dX4_next_7 (by decide) ?_
  refine v_istore_n (lo' := [some (.ref (Z.ad 0)), some (.int (-1)), some (.int (-1)), none, none]) C dX4_next_8 rfl (Nat.le_of_ble_eq_true rfl) rfl rfl ?_
  refine v_iconst (v := 0) C dX4_next_9 (by decide) ?_
  refine v_topi (y := nI 0) rfl ?_
  refine v_istore_n (lo' := [some (.ref (Z.ad 0)), some (.int (-1)), some (.int (-1)), some (.int (nI 0)), none]) C dX4_next_10 rfl (Nat.le_of_ble_eq_true rfl) rfl rfl ?_
  exact loop (np + 1) 0 _ none (by omega) (by omega) frP.rf
def adv (pf b6 : Nat → Int32) (f0 : Int32) : Nat → Int32 × Int32
  | 0 => (-1, f0)
  | k + 1 => if b6 k = 9 then adv pf b6 f0 k else if pf k = -1 ∨ (¬ (adv pf b6 f0 k).2 = -1 ∧ ¬ pf k < (adv pf b6 f0 k).2) then adv pf b6 f0 k else (nI k, pf k)
/-- the flaws with one block more -/
def pfO (g : MG) (p k : Nat) : Int32 := wdF (plO (wr g 6 k (g 6 k + 1)) p)
def anAdvise (g : MG) (p : Nat) : Int32 := (adv (pfO g p) (g 6) (wdF (plO g p)) (10 * nfO g)).1
theorem frP.w6 {g g1 : MG} (h : frP g g1) (k : Nat) (x : Int32) : frP (wr g 6 k x) (wr g1 6 k x) := by
  refine ⟨fun q h1 h2 => ?_, fun j hj => ?_⟩
  · by_cases hq : q = 6
    · subst hq; rw [wr_own, wr_own, h.1 6 (by omega) (by decide)]
    · rw [wr_row _ _ _ _ hq, wr_row _ _ _ _ hq]; exact h.1 q h1 h2
  · rw [wr_row _ _ _ _ (by decide), wr_row _ _ _ _ (by decide)]; exact h.2 j hj
theorem frP.back {g g3 : MG} {k : Nat} (h : frP (wr g 6 k (g 6 k + 1)) g3) : frP g (wr g3 6 k (g3 6 k - 1)) := by
  refine ⟨fun q h1 h2 => ?_, fun j hj => ?_⟩
  · by_cases hq : q = 6
    · subst hq
      rw [wr_own]
      funext j
      unfold upd
      have e6 : g3 6 = wr g 6 k (g 6 k + 1) 6 := h.1 6 (by omega) (by decide)
      by_cases hj : j = k
      · rw [if_pos hj, e6, wr_same, hj, Int32.add_sub_cancel]
      · rw [if_neg hj, e6, wr_ne _ _ _ _ (Or.inr hj)]
    · rw [wr_row _ _ _ _ hq, h.1 q h1 h2, wr_row _ _ _ _ hq]
  · rw [wr_row _ _ _ _ (by decide), h.2 j hj, wr_row _ _ _ _ (by decide)]
set_option maxRecDepth 100000 in
theorem c_adviseTold (l : Launch) (Z : Zc) (p : Nat) (g : MG) (hI : IvM g) (hp : p < 6) : MI l yX4_adviseTold cX4_adviseTold 6 (some .int) (rmz 4 110 0 0) Z [.ref (Z.ad 0), .int (nI p)] g (fun r g' => frP g g' ∧ r = anAdvise g p) := by
  refine ent_i (own := RX4) (lo := [some (.ref (Z.ad 0)), some (.int (nI p)), none, none, none, none]) (by decide) rfl (by simp [lg_sl, Value.category]) rfl (fun P hl C ret => ?_)
  obtain ⟨⟨nf, hf5, hnf⟩, -, hot, -⟩ := id hI
  have enf : nfO g = nf := by unfold nfO; rw [hnf]; exact iz_nI (by omega)
  have hl := IvM_nl hI hp
  have loop : ∀ (n : Nat) (k : Nat) (g1 : MG) (v : Option Value), 10 * nf - k < n → k ≤ 10 * nf → frP g g1 → V P (rmz 4 110 0 0) Z [some (.ref (Z.ad 0)), some (.int (nI p)), some (.int ((adv (pfO g p) (g 6) (wdF (plO g p)) k).1)), some (.int ((adv (pfO g p) (g 6) (wdF (plO g p)) k).2)), some (.int (nI k)), v] 11 [] g1 0 0 := by
    intro n
    induction n with
    | zero => intro k g1 v hn hk hfr; exact absurd hn (Nat.not_lt_zero _)
    | succ n ih =>
      intro k g1 v hn hk hfr
      refine v_iload C dX4_adviseTold_11 rfl ?_
      refine v_bipush (v := 10) C dX4_adviseTold_13 (by decide) ?_
      refine v_aload_n C dX4_adviseTold_15 rfl rfl ?_
      refine v_get C inG4 rfl 1 (by decide) (tg3 196 rfl rfl) rfl cx_M rfl dX4_adviseTold_16 ?_
      refine v_topi (y := nI nf) ((hfr.2 1 (by decide)).trans hnf) ?_
      refine v_imul C dX4_adviseTold_19 ?_
      refine v_topi (y := nI (10 * nf)) (by rw [show (10 : Int32) = nI 10 from rfl, nI_mul]) ?_
      refine v_icmp_ge (tgt := 99) C dX4_adviseTold_20 (by decide) (fun h20 => ?_) (fun h20 => ?_)
      · have hkn : k = 10 * nf := Nat.le_antisymm hk ((nI_leI (by omega) (by omega)).mp h20)
        refine v_iload_n C dX4_adviseTold_99 rfl rfl ?_
        exact ret _ _ _ _ dX4_adviseTold_100 ⟨hfr, by unfold anAdvise; rw [enf, ← hkn]⟩
      · have hkn : k < 10 * nf := Nat.lt_of_not_le fun q => h20 ((nI_leI (by omega) (by omega)).mpr q)
        have e6 : g1 6 = g 6 := hfr.1 6 (by omega) (by decide)
        refine v_aload_n C dX4_adviseTold_23 rfl rfl ?_
        refine v_get C inG4 rfl 6 (by decide) (tg3 201 rfl rfl) rfl cx_M rfl dX4_adviseTold_24 ?_
        refine v_iload C dX4_adviseTold_27 rfl ?_
        refine v_ialdN (a := k) C cxA6 (by omega) dX4_adviseTold_29 ?_
        refine v_topi (y := g 6 k) (by rw [e6]) ?_
        refine v_bipush (v := 9) C dX4_adviseTold_30 (by decide) ?_
        refine v_icmp_ne (tgt := 38) C dX4_adviseTold_32 (by decide) (fun h32 => ?_) (fun h32 => ?_)
        · refine v_aload_n C dX4_adviseTold_38 rfl rfl ?_
          refine v_get C inG4 rfl 6 (by decide) (tg3 201 rfl rfl) rfl cx_M rfl dX4_adviseTold_39 ?_
          refine v_iload C dX4_adviseTold_42 rfl ?_
          refine v_dup2 C dX4_adviseTold_44 rfl rfl ?_
          refine v_ialdN (a := k) C cxA6 (by omega) dX4_adviseTold_45 ?_
          refine v_iconst (v := 1) C dX4_adviseTold_46 (by decide) ?_
          refine v_iadd C dX4_adviseTold_47 ?_
          refine v_iastN (a := k) C (fun _ _ => cxA6) rfl (by omega) (by omega) dX4_adviseTold_48 ?_
          refine v_aload_n C dX4_adviseTold_49 rfl rfl ?_
          refine v_iload_n C dX4_adviseTold_50 rfl rfl ?_
          have hfr2 : frP (wr g 6 k (g 6 k + 1)) (wr g1 6 k (g1 6 k + 1)) := by rw [e6]; exact hfr.w6 k _
          refine v_callVi (n := 1) (as := [.int (nI p)]) C (c_tryPoster _ Z p (nlO g p) nf (wdO g) (wr g1 6 k ((g1 6 k) + 1)) hp (by rw [hfr2.1 9 (by omega) (by decide)]; exact hot) ((hfr2.2 1 (by decide)).trans hnf) hf5 (by rw [hfr2.1 14 (by omega) (by decide)]; exact hl.1) hl.2 (by rw [hfr2.1 17 (by omega) (by decide)]; exact IvM_W hI)) (gv (tg4 96 rfl rfl) (tg4 98 rfl rfl) (tg0 23 rfl rfl) (tg1 6 rfl rfl) (tg4 99 rfl rfl)) (by decide +kernel) ⟨Nat.le_of_ble_eq_true rfl, Nat.le_of_ble_eq_true rfl⟩ rfl cx_M rfl rfl (Nat.le_of_ble_eq_true rfl) dX4_adviseTold_51 ⟨Nat.le_of_ble_eq_true rfl, Nat.le_of_ble_eq_true rfl⟩ (fun r51 g51 hp51 => ?_)
          obtain ⟨hfr3, hq⟩ := hp51
          have hr2 : r51 = pfO g p k := by rw [plQ_wd hq]; unfold pfO plO; rw [show nlO (wr g 6 k (g 6 k + 1)) p = nlO g p from rfl, show nfO (wr g 6 k (g 6 k + 1)) = nf from enf, show wdO (wr g 6 k (g 6 k + 1)) = wdO g from rfl]; exact plE_wd (plM_fr hfr2 (wdO g) hf5 hl.2 hot)
          subst hr2
          have hfr4 := (hfr2.trans hfr3).back
          refine v_istore (lo' := [some (.ref (Z.ad 0)), some (.int (nI p)), some (.int ((adv (pfO g p) (g 6) (wdF (plO g p)) k).1)), some (.int ((adv (pfO g p) (g 6) (wdF (plO g p)) k).2)), some (.int (nI k)), some (.int (pfO g p k))]) C dX4_adviseTold_54 (Nat.le_of_ble_eq_true rfl) rfl rfl ?_
          refine v_aload_n C dX4_adviseTold_56 rfl rfl ?_
          refine v_get C inG4 rfl 6 (by decide) (tg3 201 rfl rfl) rfl cx_M rfl dX4_adviseTold_57 ?_
          refine v_iload C dX4_adviseTold_60 rfl ?_
          refine v_dup2 C dX4_adviseTold_62 rfl rfl ?_
          refine v_ialdN (a := k) C cxA6 (by omega) dX4_adviseTold_63 ?_
          refine v_iconst (v := 1) C dX4_adviseTold_64 (by decide) ?_
          refine v_isub C dX4_adviseTold_65 ?_
          refine v_iastN (a := k) C (fun _ _ => cxA6) rfl (by omega) (by omega) dX4_adviseTold_66 ?_
          refine v_iload C dX4_adviseTold_67 rfl ?_
          refine v_iconst (v := (-1)) C dX4_adviseTold_69 (by decide) ?_
          refine v_icmp_eq (tgt := 93) C dX4_adviseTold_70 (by decide) (fun h70 => ?_) (fun h70 => ?_)
          · refine v_iinc (lo' := [some (.ref (Z.ad 0)), some (.int (nI p)), some (.int ((adv (pfO g p) (g 6) (wdF (plO g p)) k).1)), some (.int ((adv (pfO g p) (g 6) (wdF (plO g p)) k).2)), some (.int ((nI k) + 1)), some (.int (pfO g p k))]) C dX4_adviseTold_93 rfl rfl rfl rfl ?_
            refine v_lo (lo' := [some (.ref (Z.ad 0)), some (.int (nI p)), some (.int ((adv (pfO g p) (g 6) (wdF (plO g p)) k).1)), some (.int ((adv (pfO g p) (g 6) (wdF (plO g p)) k).2)), some (.int (nI (k + 1))), some (.int (pfO g p k))]) (by rw [← nI_1 k]) ?_
            refine v_goto (tgt := 11) C dX4_adviseTold_96 (by decide) ?_
            have hst : adv (pfO g p) (g 6) (wdF (plO g p)) (k + 1) = adv (pfO g p) (g 6) (wdF (plO g p)) k := by rw [adv, if_neg h32, if_pos (Or.inl h70)]
            refine v_lo (lo' := [some (.ref (Z.ad 0)), some (.int (nI p)), some (.int ((adv (pfO g p) (g 6) (wdF (plO g p)) (k + 1)).1)), some (.int ((adv (pfO g p) (g 6) (wdF (plO g p)) (k + 1)).2)), some (.int (nI (k + 1))), some (.int (pfO g p k))]) (by rw [hst]) ?_
            exact ih (k + 1) _ _ (by omega) (by omega) hfr4
          · refine v_iload_n C dX4_adviseTold_73 rfl rfl ?_
            refine v_iconst (v := (-1)) C dX4_adviseTold_74 (by decide) ?_
            refine v_icmp_eq (tgt := 87) C dX4_adviseTold_75 (by decide) (fun h75 => ?_) (fun h75 => ?_)
            · refine v_iload C dX4_adviseTold_87 rfl ?_
              refine v_istore_n (lo' := [some (.ref (Z.ad 0)), some (.int (nI p)), some (.int (nI k)), some (.int ((adv (pfO g p) (g 6) (wdF (plO g p)) k).2)), some (.int (nI k)), some (.int (pfO g p k))]) C dX4_adviseTold_89 rfl (Nat.le_of_ble_eq_true rfl) rfl rfl ?_
              refine v_iload C dX4_adviseTold_90 rfl ?_
              refine v_istore_n (lo' := [some (.ref (Z.ad 0)), some (.int (nI p)), some (.int (nI k)), some (.int (pfO g p k)), some (.int (nI k)), some (.int (pfO g p k))]) C dX4_adviseTold_92 rfl (Nat.le_of_ble_eq_true rfl) rfl rfl ?_
              refine v_iinc (lo' := [some (.ref (Z.ad 0)), some (.int (nI p)), some (.int (nI k)), some (.int (pfO g p k)), some (.int ((nI k) + 1)), some (.int (pfO g p k))]) C dX4_adviseTold_93 rfl rfl rfl rfl ?_
              refine v_lo (lo' := [some (.ref (Z.ad 0)), some (.int (nI p)), some (.int (nI k)), some (.int (pfO g p k)), some (.int (nI (k + 1))), some (.int (pfO g p k))]) (by rw [← nI_1 k]) ?_
              refine v_goto (tgt := 11) C dX4_adviseTold_96 (by decide) ?_
              have hst : adv (pfO g p) (g 6) (wdF (plO g p)) (k + 1) = (nI k, pfO g p k) := by rw [adv, if_neg h32, if_neg (by rintro (q | ⟨q1, q2⟩); (· exact h70 q); (· exact q1 h75))]
              refine v_lo (lo' := [some (.ref (Z.ad 0)), some (.int (nI p)), some (.int ((adv (pfO g p) (g 6) (wdF (plO g p)) (k + 1)).1)), some (.int ((adv (pfO g p) (g 6) (wdF (plO g p)) (k + 1)).2)), some (.int (nI (k + 1))), some (.int (pfO g p k))]) (by rw [hst]) ?_
              exact ih (k + 1) _ _ (by omega) (by omega) hfr4
            · refine v_iload C dX4_adviseTold_78 rfl ?_
              refine v_iload_n C dX4_adviseTold_80 rfl rfl ?_
              refine v_icmp_lt (tgt := 87) C dX4_adviseTold_81 (by decide) (fun h81 => ?_) (fun h81 => ?_)
              · refine v_iload C dX4_adviseTold_87 rfl ?_
                refine v_istore_n (lo' := [some (.ref (Z.ad 0)), some (.int (nI p)), some (.int (nI k)), some (.int ((adv (pfO g p) (g 6) (wdF (plO g p)) k).2)), some (.int (nI k)), some (.int (pfO g p k))]) C dX4_adviseTold_89 rfl (Nat.le_of_ble_eq_true rfl) rfl rfl ?_
                refine v_iload C dX4_adviseTold_90 rfl ?_
                refine v_istore_n (lo' := [some (.ref (Z.ad 0)), some (.int (nI p)), some (.int (nI k)), some (.int (pfO g p k)), some (.int (nI k)), some (.int (pfO g p k))]) C dX4_adviseTold_92 rfl (Nat.le_of_ble_eq_true rfl) rfl rfl ?_
                refine v_iinc (lo' := [some (.ref (Z.ad 0)), some (.int (nI p)), some (.int (nI k)), some (.int (pfO g p k)), some (.int ((nI k) + 1)), some (.int (pfO g p k))]) C dX4_adviseTold_93 rfl rfl rfl rfl ?_
                refine v_lo (lo' := [some (.ref (Z.ad 0)), some (.int (nI p)), some (.int (nI k)), some (.int (pfO g p k)), some (.int (nI (k + 1))), some (.int (pfO g p k))]) (by rw [← nI_1 k]) ?_
                refine v_goto (tgt := 11) C dX4_adviseTold_96 (by decide) ?_
                have hst : adv (pfO g p) (g 6) (wdF (plO g p)) (k + 1) = (nI k, pfO g p k) := by rw [adv, if_neg h32, if_neg (by rintro (q | ⟨q1, q2⟩); (· exact h70 q); (· exact q2 h81))]
                refine v_lo (lo' := [some (.ref (Z.ad 0)), some (.int (nI p)), some (.int ((adv (pfO g p) (g 6) (wdF (plO g p)) (k + 1)).1)), some (.int ((adv (pfO g p) (g 6) (wdF (plO g p)) (k + 1)).2)), some (.int (nI (k + 1))), some (.int (pfO g p k))]) (by rw [hst]) ?_
                exact ih (k + 1) _ _ (by omega) (by omega) hfr4
              · refine v_goto (tgt := 93) C dX4_adviseTold_84 (by decide) ?_
                refine v_iinc (lo' := [some (.ref (Z.ad 0)), some (.int (nI p)), some (.int ((adv (pfO g p) (g 6) (wdF (plO g p)) k).1)), some (.int ((adv (pfO g p) (g 6) (wdF (plO g p)) k).2)), some (.int ((nI k) + 1)), some (.int (pfO g p k))]) C dX4_adviseTold_93 rfl rfl rfl rfl ?_
                refine v_lo (lo' := [some (.ref (Z.ad 0)), some (.int (nI p)), some (.int ((adv (pfO g p) (g 6) (wdF (plO g p)) k).1)), some (.int ((adv (pfO g p) (g 6) (wdF (plO g p)) k).2)), some (.int (nI (k + 1))), some (.int (pfO g p k))]) (by rw [← nI_1 k]) ?_
                refine v_goto (tgt := 11) C dX4_adviseTold_96 (by decide) ?_
                have hst : adv (pfO g p) (g 6) (wdF (plO g p)) (k + 1) = adv (pfO g p) (g 6) (wdF (plO g p)) k := by rw [adv, if_neg h32, if_pos (Or.inr ⟨h75, h81⟩)]
                refine v_lo (lo' := [some (.ref (Z.ad 0)), some (.int (nI p)), some (.int ((adv (pfO g p) (g 6) (wdF (plO g p)) (k + 1)).1)), some (.int ((adv (pfO g p) (g 6) (wdF (plO g p)) (k + 1)).2)), some (.int (nI (k + 1))), some (.int (pfO g p k))]) (by rw [hst]) ?_
                exact ih (k + 1) _ _ (by omega) (by omega) hfr4
        · refine v_goto (tgt := 93) C dX4_adviseTold_35 (by decide) ?_
          refine v_iinc (lo' := [some (.ref (Z.ad 0)), some (.int (nI p)), some (.int ((adv (pfO g p) (g 6) (wdF (plO g p)) k).1)), some (.int ((adv (pfO g p) (g 6) (wdF (plO g p)) k).2)), some (.int ((nI k) + 1)), v]) C dX4_adviseTold_93 rfl rfl rfl rfl ?_
          refine v_lo (lo' := [some (.ref (Z.ad 0)), some (.int (nI p)), some (.int ((adv (pfO g p) (g 6) (wdF (plO g p)) k).1)), some (.int ((adv (pfO g p) (g 6) (wdF (plO g p)) k).2)), some (.int (nI (k + 1))), v]) (by rw [← nI_1 k]) ?_
          refine v_goto (tgt := 11) C dX4_adviseTold_96 (by decide) ?_
          have hst : adv (pfO g p) (g 6) (wdF (plO g p)) (k + 1) = adv (pfO g p) (g 6) (wdF (plO g p)) k := by rw [adv, if_pos h32]
          refine v_lo (lo' := [some (.ref (Z.ad 0)), some (.int (nI p)), some (.int ((adv (pfO g p) (g 6) (wdF (plO g p)) (k + 1)).1)), some (.int ((adv (pfO g p) (g 6) (wdF (plO g p)) (k + 1)).2)), some (.int (nI (k + 1))), v]) (by rw [hst]) ?_
          exact ih (k + 1) _ _ (by omega) (by omega) hfr
  refine v_iconst (v := (-1)) C dX4_adviseTold_0 (by decide) ?_
  refine v_istore_n (lo' := [some (.ref (Z.ad 0)), some (.int (nI p)), some (.int (-1)), none, none, none]) C dX4_adviseTold_1 rfl (Nat.le_of_ble_eq_true rfl) rfl rfl ?_
  refine v_aload_n C dX4_adviseTold_2 rfl rfl ?_
  refine v_iload_n C dX4_adviseTold_3 rfl rfl ?_
  refine v_callVi (n := 1) (as := [.int (nI p)]) C (c_tryPoster _ Z p (nlO g p) nf (wdO g) g hp hot hnf hf5 hl.1 hl.2 (IvM_W hI)) (gv (tg4 96 rfl rfl) (tg4 98 rfl rfl) (tg0 23 rfl rfl) (tg1 6 rfl rfl) (tg4 99 rfl rfl)) (by decide +kernel) ⟨Nat.le_of_ble_eq_true rfl, Nat.le_of_ble_eq_true rfl⟩ rfl cx_M rfl rfl (Nat.le_of_ble_eq_true rfl) dX4_adviseTold_4 ⟨Nat.le_of_ble_eq_true rfl, Nat.le_of_ble_eq_true rfl⟩ (fun r4 g4 hp4 => ?_)
  obtain ⟨hfr, hq⟩ := hp4
  have hr : r4 = wdF (plO g p) := by rw [plQ_wd hq]; unfold plO; rw [enf]
  subst hr
  refine v_istore_n (lo' := [some (.ref (Z.ad 0)), some (.int (nI p)), some (.int (-1)), some (.int (wdF (plO g p))), none, none]) C dX4_adviseTold_7 rfl (Nat.le_of_ble_eq_true rfl) rfl rfl ?_
  refine v_iconst (v := 0) C dX4_adviseTold_8 (by decide) ?_
  refine v_topi (y := nI 0) rfl ?_
  refine v_istore (lo' := [some (.ref (Z.ad 0)), some (.int (nI p)), some (.int (-1)), some (.int (wdF (plO g p))), some (.int (nI 0)), none]) C dX4_adviseTold_9 (Nat.le_of_ble_eq_true rfl) rfl rfl ?_
  exact loop (10 * nf + 1) 0 _ none (by omega) (by omega) hfr
def cdAdvise (g : MG) (p : Int32) : Nat := if isN (npO g) p = false then 1 else 0
set_option maxRecDepth 100000 in
theorem c_advise (l : Launch) (Z : Zc) (p : Int32) (g : MG) (hI : IvM g) : MI l yX4_advise cX4_advise 2 (some .int) (rmz 5 140 0 0) Z [.ref (Z.ad 0), .int p] g (PM g (cdAdvise g p) (anAdvise g (iz p)) (g)) := by
  refine ent_i (own := RX4) (lo := [some (.ref (Z.ad 0)), some (.int p)]) (by decide) rfl (by simp [lg_sl, Value.category]) rfl (fun P hl C ret => ?_)
  obtain ⟨⟨nf, hf5, hnf⟩, ⟨np, hp6, hnp⟩, hot, hnl, htn, his, hwd, htk⟩ := id hI
  have enf : nfO g = nf := by unfold nfO; rw [hnf]; exact iz_nI (by omega)
  have enp : npO g = np := by unfold npO; rw [hnp]; exact iz_nI (by omega)
  refine v_aload_n C dX4_advise_0 rfl rfl ?_
  refine v_iconst (v := 0) C dX4_advise_1 (by decide) ?_
  refine v_put C inG4 rfl tyX4 tyX4_ok nmX4 0 (by decide) (tg3 195 rfl rfl) rfl rfl (ty := .int) rfl rfl rfl cx_M (Nat.le_of_ble_eq_true rfl) rfl (by omega) cx_M dX4_advise_2 ?_
  refine v_aload_n C dX4_advise_5 rfl rfl ?_
  refine v_iload_n C dX4_advise_6 rfl rfl ?_
  refine v_callVi (n := 1) (as := [.int p]) C (c_isPoster _ Z np p (wr g 0 0 0) hnp hp6) (gv (tg4 87 rfl rfl) (tg4 89 rfl rfl) (tg0 22 rfl rfl) (tg1 6 rfl rfl) (tg4 90 rfl rfl)) (by decide +kernel) ⟨Nat.le_of_ble_eq_true rfl, Nat.le_of_ble_eq_true rfl⟩ rfl cx_M rfl rfl (Nat.le_of_ble_eq_true rfl) dX4_advise_7 ⟨Nat.le_of_ble_eq_true rfl, Nat.le_of_ble_eq_true rfl⟩ (fun r7 g7 hp7 => ?_)
  obtain ⟨rfl, hg7⟩ := hp7
  rw [hg7]
  refine v_if_eq (tgt := 21) C dX4_advise_10 (by decide) (fun h10 => ?_) (fun h10 => ?_)
  · have k10 := bI_0.mp h10
    refine v_aload_n C dX4_advise_21 rfl rfl ?_
    refine v_iconst (v := 1) C dX4_advise_22 (by decide) ?_
    refine v_callVi (n := 1) (as := [.int 1]) C (c_no _ Z 1 (wr g 0 0 0)) (gv (tg4 48 rfl rfl) (tg4 50 rfl rfl) (tg0 20 rfl rfl) (tg1 6 rfl rfl) (tg4 51 rfl rfl)) (by decide +kernel) ⟨Nat.le_of_ble_eq_true rfl, Nat.le_of_ble_eq_true rfl⟩ rfl cx_M rfl rfl (Nat.le_of_ble_eq_true rfl) dX4_advise_23 ⟨Nat.le_of_ble_eq_true rfl, Nat.le_of_ble_eq_true rfl⟩ (fun r23 g23 hp23 => ?_)
    obtain ⟨rfl, hg23⟩ := hp23
    rw [hg23]
    exact ret _ _ _ _ dX4_advise_26 (PM.no (k := 1) (by unfold cdAdvise; rw [enp, if_pos k10]) (by decide) rfl (fun j h1 h2 => wr_ne _ _ _ _ (Or.inr (by omega))) (fun q h1 h2 => wr_row _ _ _ _ (by omega)) (fun q hq => wr_row _ _ _ _ (by omega)))
  · have k10 := bI_1.mp h10
    have hcd : cdAdvise g p = 0 := by unfold cdAdvise; rw [enp, if_neg (by rw [k10]; decide)]
    obtain ⟨a, ha, rfl⟩ := isN_ex k10
    have ea : iz (nI a) = a := iz_nI (by omega)
    refine v_aload_n C dX4_advise_13 rfl rfl ?_
    refine v_iload_n C dX4_advise_14 rfl rfl ?_
    refine v_callVi (n := 1) (as := [.int (nI a)]) C (c_adviseTold _ Z a (wr g 0 0 0) (IvM_eq hI rfl rfl (fun k h1 h2 => wr_row _ _ _ _ (by omega))) (by omega)) (gv (tg4 203 rfl rfl) (tg4 205 rfl rfl) (tg0 38 rfl rfl) (tg1 6 rfl rfl) (tg4 206 rfl rfl)) (by decide +kernel) ⟨Nat.le_of_ble_eq_true rfl, Nat.le_of_ble_eq_true rfl⟩ rfl cx_M rfl rfl (Nat.le_of_ble_eq_true rfl) dX4_advise_15 ⟨Nat.le_of_ble_eq_true rfl, Nat.le_of_ble_eq_true rfl⟩ (fun r15 g15 hp15 => ?_)
    obtain ⟨hfr, hr⟩ := hp15
    refine v_goto (tgt := 26) C dX4_advise_18 (by decide) ?_
    exact ret _ _ _ _ dX4_advise_26 ⟨(frP.RE hfr).1.trans (by rw [hcd]), fun _ => by rw [ea]; exact hr, (frP.RE hfr).2.1, (frP.RE hfr).2.2⟩
def outO (g : MG) (p f c : Nat) : Nat := outN (g 18) (tkO g) (wdO g) p f c (nlO g p)
def laO (g : MG) (p : Nat) : Nat → Int32
  | 0 => 400
  | k + 1 => if nI (outO g p (k / 10) (k % 10)) ≤ 0 then laO g p k else mn (laO g p k) (mx0 ((400 - g 8 k + nI (outO g p (k / 10) (k % 10)) - 1) / nI (outO g p (k / 10) (k % 10))))
def cdLasts (g : MG) (p : Int32) : Nat := if isN (npO g) p = false then 1 else if g 15 (iz p) = 0 then 2 else 0
set_option maxRecDepth 100000 in
theorem c_lasts (l : Launch) (Z : Zc) (p : Int32) (g : MG) (hI : IvM g) : MI l yX4_lasts cX4_lasts 5 (some .int) (rmz 3 60 0 0) Z [.ref (Z.ad 0), .int p] g (PM g (cdLasts g p) (laO g (iz p) 50) (g)) := by
  refine ent_i (own := RX4) (lo := [some (.ref (Z.ad 0)), some (.int p), none, none, none]) (by decide) rfl (by simp [lg_sl, Value.category]) rfl (fun P hl C ret => ?_)
  obtain ⟨⟨nf, hf5, hnf⟩, ⟨np, hp6, hnp⟩, hot, hnl, htn, his, hwd, htk⟩ := id hI
  have enf : nfO g = nf := by unfold nfO; rw [hnf]; exact iz_nI (by omega)
  have enp : npO g = np := by unfold npO; rw [hnp]; exact iz_nI (by omega)
  refine v_aload_n C dX4_lasts_0 rfl rfl ?_
  refine v_iconst (v := 0) C dX4_lasts_1 (by decide) ?_
  refine v_put C inG4 rfl tyX4 tyX4_ok nmX4 0 (by decide) (tg3 195 rfl rfl) rfl rfl (ty := .int) rfl rfl rfl cx_M (Nat.le_of_ble_eq_true rfl) rfl (by omega) cx_M dX4_lasts_2 ?_
  refine v_aload_n C dX4_lasts_5 rfl rfl ?_
  refine v_iload_n C dX4_lasts_6 rfl rfl ?_
  refine v_callVi (n := 1) (as := [.int p]) C (c_isPoster _ Z np p (wr g 0 0 0) hnp hp6) (gv (tg4 87 rfl rfl) (tg4 89 rfl rfl) (tg0 22 rfl rfl) (tg1 6 rfl rfl) (tg4 90 rfl rfl)) (by decide +kernel) ⟨Nat.le_of_ble_eq_true rfl, Nat.le_of_ble_eq_true rfl⟩ rfl cx_M rfl rfl (Nat.le_of_ble_eq_true rfl) dX4_lasts_7 ⟨Nat.le_of_ble_eq_true rfl, Nat.le_of_ble_eq_true rfl⟩ (fun r7 g7 hp7 => ?_)
  obtain ⟨rfl, hg7⟩ := hp7
  rw [hg7]
  refine v_if_ne (tgt := 19) C dX4_lasts_10 (by decide) (fun h10 => ?_) (fun h10 => ?_)
  · have k10 := bI_1.mp h10
    obtain ⟨a, ha, rfl⟩ := isN_ex k10
    have ea : iz (nI a) = a := iz_nI (by omega)
    have hl := IvM_nl hI (show a < 6 by omega)
    refine v_aload_n C dX4_lasts_19 rfl rfl ?_
    refine v_get C inG4 rfl 15 (by decide) (tg3 210 rfl rfl) rfl cx_M rfl dX4_lasts_20 ?_
    refine v_iload_n C dX4_lasts_23 rfl rfl ?_
    refine v_ialdN (a := a) C cxA15 (by omega) dX4_lasts_24 ?_
    refine v_topi (y := g 15 a) rfl ?_
    refine v_if_ne (tgt := 34) C dX4_lasts_25 (by decide) (fun h25 => ?_) (fun h25 => ?_)
    · have hcd : cdLasts g (nI a) = 0 := by unfold cdLasts; rw [enp, if_neg (by rw [k10]; decide), ea, if_neg h25]
      have h1 : g 15 a = 1 := (his a (by omega)).resolve_left h25
      refine v_sipush (v := 400) C dX4_lasts_34 (by decide) ?_
      refine v_topi (y := laO g a 0) rfl ?_
      refine v_istore_n (lo' := [some (.ref (Z.ad 0)), some (.int (nI a)), some (.int (laO g a 0)), none, none]) C dX4_lasts_37 rfl (Nat.le_of_ble_eq_true rfl) rfl rfl ?_
      refine v_iconst (v := 0) C dX4_lasts_38 (by decide) ?_
      refine v_topi (y := nI 0) rfl ?_
      refine v_istore_n (lo' := [some (.ref (Z.ad 0)), some (.int (nI a)), some (.int (laO g a 0)), some (.int (nI 0)), none]) C dX4_lasts_39 rfl (Nat.le_of_ble_eq_true rfl) rfl rfl ?_
      have loop : ∀ (n k : Nat) (v : Option Value), 50 - k < n → k ≤ 50 → V P (rmz 3 60 0 0) Z [some (.ref (Z.ad 0)), some (.int (nI a)), some (.int (laO g a k)), some (.int (nI k)), v] 40 [] (wr g 0 0 0) 0 0 := by
        intro n
        induction n with
        | zero => intro k v hn; exact absurd hn (Nat.not_lt_zero _)
        | succ n ih =>
          intro k v hn hk
          refine v_iload_n C dX4_lasts_40 rfl rfl ?_
          refine v_bipush (v := 50) C dX4_lasts_41 (by decide) ?_
          refine v_icmp_ge (tgt := 99) C dX4_lasts_43 (by decide) (fun h43 => ?_) (fun h43 => ?_)
          · have hkn : k = 50 := Nat.le_antisymm hk ((nI_leI (a := 50) (by decide) (by omega)).mp h43)
            subst hkn
            refine v_iload_n C dX4_lasts_99 rfl rfl ?_
            exact ret _ _ _ _ dX4_lasts_100 ⟨by rw [hcd]; rfl, fun _ => by rw [ea], RE.of (fun j h1 h2 => wr_ne _ _ _ _ (Or.inr (by omega))) (fun q h1 h2 => wr_row _ _ _ _ (by omega)), fun q hq => wr_row _ _ _ _ (by omega)⟩
          · have hkn : k < 50 := Nat.lt_of_not_le fun q => h43 ((nI_leI (a := 50) (by decide) (by omega)).mpr q)
            refine v_aload_n C dX4_lasts_46 rfl rfl ?_
            refine v_iload_n C dX4_lasts_47 rfl rfl ?_
            refine v_iload_n C dX4_lasts_48 rfl rfl ?_
            refine v_bipush (v := 10) C dX4_lasts_49 (by decide) ?_
            refine v_idiv C dX4_lasts_51 (by decide) ?_
            refine v_topi (y := nI (k / 10)) (nI_div (b := 10) (by omega) (by decide)) ?_
            refine v_iload_n C dX4_lasts_52 rfl rfl ?_
            refine v_bipush (v := 10) C dX4_lasts_53 (by decide) ?_
            refine v_irem C dX4_lasts_55 (by decide) ?_
            refine v_topi (y := nI (k % 10)) (nI_mod10 (by omega)) ?_
            refine v_callVi (n := 3) (as := [.int (nI a), .int (nI (k / 10)), .int (nI (k % 10))]) C (c_outOf _ Z a (nlO g a) (k / 10) (k % 10) (wdO g) (tkO g) (wr g 0 0 0) (by omega) hl.1 hl.2 (IvM_W hI) (by omega) (by omega) (IvM_T hI (by omega) h1)) (gv (tg4 127 rfl rfl) (tg4 129 rfl rfl) (tg0 28 rfl rfl) (tg1 6 rfl rfl) (tg4 130 rfl rfl)) (by decide +kernel) ⟨Nat.le_of_ble_eq_true rfl, Nat.le_of_ble_eq_true rfl⟩ rfl cx_M rfl rfl (Nat.le_of_ble_eq_true rfl) dX4_lasts_56 ⟨Nat.le_of_ble_eq_true rfl, Nat.le_of_ble_eq_true rfl⟩ (fun r56 g56 hp56 => ?_)
            obtain ⟨hr56, hg56⟩ := hp56
            rw [hg56]
            have hr56 : r56 = nI (outO g a (k / 10) (k % 10)) := hr56
            subst hr56
            refine v_istore (lo' := [some (.ref (Z.ad 0)), some (.int (nI a)), some (.int (laO g a k)), some (.int (nI k)), some (.int (nI (outO g a (k / 10) (k % 10))))]) C dX4_lasts_59 (Nat.le_of_ble_eq_true rfl) rfl rfl ?_
            refine v_iload C dX4_lasts_61 rfl ?_
            refine v_if_le (tgt := 93) C dX4_lasts_63 (by decide) (fun h63 => ?_) (fun h63 => ?_)
            · refine v_iinc (lo' := [some (.ref (Z.ad 0)), some (.int (nI a)), some (.int (laO g a k)), some (.int ((nI k) + 1)), some (.int (nI (outO g a (k / 10) (k % 10))))]) C dX4_lasts_93 rfl rfl rfl rfl ?_
              refine v_lo (lo' := [some (.ref (Z.ad 0)), some (.int (nI a)), some (.int (laO g a k)), some (.int (nI (k + 1))), some (.int (nI (outO g a (k / 10) (k % 10))))]) (by rw [← nI_1 k]) ?_
              refine v_goto (tgt := 40) C dX4_lasts_96 (by decide) ?_
              refine v_lo (lo' := [some (.ref (Z.ad 0)), some (.int (nI a)), some (.int (laO g a (k + 1))), some (.int (nI (k + 1))), some (.int (nI (outO g a (k / 10) (k % 10))))]) (by rw [laO, if_pos h63]) ?_
              exact ih (k + 1) _ (by omega) (by omega)
            · refine v_iload_n C dX4_lasts_66 rfl rfl ?_
              refine v_iconst (v := 0) C dX4_lasts_67 (by decide) ?_
              refine v_sipush (v := 400) C dX4_lasts_68 (by decide) ?_
              refine v_aload_n C dX4_lasts_71 rfl rfl ?_
              refine v_get C inG4 rfl 8 (by decide) (tg3 203 rfl rfl) rfl cx_M rfl dX4_lasts_72 ?_
              refine v_iload_n C dX4_lasts_75 rfl rfl ?_
              refine v_ialdN (a := k) C cxA8 (by omega) dX4_lasts_76 ?_
              refine v_isub C dX4_lasts_77 ?_
              refine v_iload C dX4_lasts_78 rfl ?_
              refine v_iadd C dX4_lasts_80 ?_
              refine v_iconst (v := 1) C dX4_lasts_81 (by decide) ?_
              refine v_isub C dX4_lasts_82 ?_
              refine v_iload C dX4_lasts_83 rfl ?_
              refine v_idiv C dX4_lasts_85 (fun q => h63 (by rw [q]; decide)) ?_
              refine v_mmax C (tg4 143 rfl rfl) (tg1 182 rfl rfl) (tg1 14 rfl rfl) (tg1 183 rfl rfl) (Nat.le_of_ble_eq_true rfl) (Nat.le_of_ble_eq_true rfl) (Nat.le_of_ble_eq_true rfl) (Nat.le_of_ble_eq_true rfl) dX4_lasts_86 ?_
              refine v_topi (y := mx0 ((400 - g 8 k + nI (outO g a (k / 10) (k % 10)) - 1) / nI (outO g a (k / 10) (k % 10)))) rfl ?_
              refine v_mmin C (tg4 67 rfl rfl) (tg2 207 rfl rfl) (tg1 14 rfl rfl) (tg2 208 rfl rfl) (Nat.le_of_ble_eq_true rfl) (Nat.le_of_ble_eq_true rfl) (Nat.le_of_ble_eq_true rfl) (Nat.le_of_ble_eq_true rfl) dX4_lasts_89 ?_
              refine v_topi (y := laO g a (k + 1)) (by rw [laO, if_neg h63]; rfl) ?_
              refine v_istore_n (lo' := [some (.ref (Z.ad 0)), some (.int (nI a)), some (.int (laO g a (k + 1))), some (.int (nI k)), some (.int (nI (outO g a (k / 10) (k % 10))))]) C dX4_lasts_92 rfl (Nat.le_of_ble_eq_true rfl) rfl rfl ?_
              refine v_iinc (lo' := [some (.ref (Z.ad 0)), some (.int (nI a)), some (.int (laO g a (k + 1))), some (.int ((nI k) + 1)), some (.int (nI (outO g a (k / 10) (k % 10))))]) C dX4_lasts_93 rfl rfl rfl rfl ?_
              refine v_lo (lo' := [some (.ref (Z.ad 0)), some (.int (nI a)), some (.int (laO g a (k + 1))), some (.int (nI (k + 1))), some (.int (nI (outO g a (k / 10) (k % 10))))]) (by rw [← nI_1 k]) ?_
              refine v_goto (tgt := 40) C dX4_lasts_96 (by decide) ?_
              exact ih (k + 1) _ (by omega) (by omega)
      exact loop 51 0 _ (by omega) (by omega)
    · refine v_aload_n C dX4_lasts_28 rfl rfl ?_
      refine v_iconst (v := 2) C dX4_lasts_29 (by decide) ?_
      refine v_callVi (n := 1) (as := [.int 2]) C (c_no _ Z 2 (wr g 0 0 0)) (gv (tg4 48 rfl rfl) (tg4 50 rfl rfl) (tg0 20 rfl rfl) (tg1 6 rfl rfl) (tg4 51 rfl rfl)) (by decide +kernel) ⟨Nat.le_of_ble_eq_true rfl, Nat.le_of_ble_eq_true rfl⟩ rfl cx_M rfl rfl (Nat.le_of_ble_eq_true rfl) dX4_lasts_30 ⟨Nat.le_of_ble_eq_true rfl, Nat.le_of_ble_eq_true rfl⟩ (fun r30 g30 hp30 => ?_)
      obtain ⟨rfl, hg30⟩ := hp30
      rw [hg30]
      exact ret _ _ _ _ dX4_lasts_33 (PM.no (k := 2) (by unfold cdLasts; rw [enp, if_neg (by rw [k10]; decide), ea, if_pos h25]) (by decide) rfl (fun j h1 h2 => wr_ne _ _ _ _ (Or.inr (by omega))) (fun q h1 h2 => wr_row _ _ _ _ (by omega)) (fun q hq => wr_row _ _ _ _ (by omega)))
  · have k10 := bI_0.mp h10
    refine v_aload_n C dX4_lasts_13 rfl rfl ?_
    refine v_iconst (v := 1) C dX4_lasts_14 (by decide) ?_
    refine v_callVi (n := 1) (as := [.int 1]) C (c_no _ Z 1 (wr g 0 0 0)) (gv (tg4 48 rfl rfl) (tg4 50 rfl rfl) (tg0 20 rfl rfl) (tg1 6 rfl rfl) (tg4 51 rfl rfl)) (by decide +kernel) ⟨Nat.le_of_ble_eq_true rfl, Nat.le_of_ble_eq_true rfl⟩ rfl cx_M rfl rfl (Nat.le_of_ble_eq_true rfl) dX4_lasts_15 ⟨Nat.le_of_ble_eq_true rfl, Nat.le_of_ble_eq_true rfl⟩ (fun r15 g15 hp15 => ?_)
    obtain ⟨rfl, hg15⟩ := hp15
    rw [hg15]
    exact ret _ _ _ _ dX4_lasts_18 (PM.no (k := 1) (by unfold cdLasts; rw [enp, if_pos k10]) (by decide) rfl (fun j h1 h2 => wr_ne _ _ _ _ (Or.inr (by omega))) (fun q h1 h2 => wr_row _ _ _ _ (by omega)) (fun q hq => wr_row _ _ _ _ (by omega)))
