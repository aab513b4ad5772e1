/-! THE CLASS AND THE REFERENCE: how their numbers hang together; the class' plain calls -/
def RlA (s g : MG) : Prop := g 31 2 = s 0 1 ∧ g 32 2 = s 0 2 ∧ g 30 5 = s 0 3 ∧ g 30 6 = s 0 4 ∧ (∀ j, j < 10 → g 33 j = s 9 j) ∧ (∀ j, j < 4 → g 34 j = s 10 j) ∧ ∀ j, j < 4 → g 35 j = s 11 j
def RlF (s g : MG) : Prop := ∀ i, i < nfO s → g (40 + 10 * i) 0 = nI i ∧ g (40 + 10 * i) 1 = s 5 i ∧ ∀ j, j < 10 → g (40 + 10 * i + 1) j = s 6 (10 * i + j) ∧ g (40 + 10 * i + 2) j = s 6 (10 * i + j) - s 7 (10 * i + j) ∧ g (40 + 10 * i + 3) j = s 8 (10 * i + j)
def RlL (s g : MG) (p q : Nat) : Prop := LwP g p q (wdO s (4 * p + q)) ∧ (s 15 p = 1 → g (200 + 10 * (4 * p + q)) 3 = s 18 (4 * p + q) ∧ g (200 + 10 * (4 * p + q)) 4 = s 19 (4 * p + q) ∧ g (200 + 10 * (4 * p + q)) 5 = s 20 (4 * p + q) ∧ ∀ j, j < 10 → g (200 + 10 * (4 * p + q) + 2) j = nI (cntD (tkO s (4 * p + q)) j (szw (wdO s (4 * p + q)))))
def RlP (s g : MG) : Prop := ∀ p, p < npO s → g (100 + 10 * p) 0 = s 12 p ∧ g (100 + 10 * p) 1 = s 13 p ∧ g (100 + 10 * p) 3 = s 15 p ∧ g (100 + 10 * p) 4 = s 16 p ∧ g (100 + 10 * p + 1) 2 = s 14 p ∧ ∀ q, q < nlO s p → RlL s g p q
/-- what the class holds is what the reference's rows s say -/
def Rl (s g : MG) : Prop := RlA s g ∧ RlF s g ∧ RlP s g
theorem RlF.c {s g s' g' : MG} (h : RlF s g) (h0 : s' 0 1 = s 0 1) (hs : ∀ k, 5 ≤ k → k ≤ 8 → s' k = s k) (hg : ∀ k, 40 ≤ k → k < 90 → k % 10 ≠ 4 → g' k = g k) (h5 : nfO s ≤ 5) : RlF s' g' := by
  intro i hi
  have hi' : i < nfO s := by unfold nfO at hi ⊢; rw [← h0]; exact hi
  rw [hg (40 + 10 * i) (by omega) (by omega) (by omega), hg (40 + 10 * i + 1) (by omega) (by omega) (by omega), hg (40 + 10 * i + 2) (by omega) (by omega) (by omega), hg (40 + 10 * i + 3) (by omega) (by omega) (by omega), hs 5 (by decide) (by decide), hs 6 (by decide) (by decide), hs 7 (by decide) (by decide), hs 8 (by decide) (by decide)]
  exact h i hi'
theorem RlL.c {s g s' g' : MG} {p q : Nat} (h : RlL s g p q) (h15 : s' 15 p = s 15 p) (h17 : s' 17 (4 * p + q) = s 17 (4 * p + q)) (hs : s 15 p = 1 → s' 18 (4 * p + q) = s 18 (4 * p + q) ∧ s' 19 (4 * p + q) = s 19 (4 * p + q) ∧ s' 20 (4 * p + q) = s 20 (4 * p + q)) (hw : g' (200 + 10 * (4 * p + q)) 1 = g (200 + 10 * (4 * p + q)) 1) (hl : g' (200 + 10 * (4 * p + q) + 1) = g (200 + 10 * (4 * p + q) + 1))
    (hg : s 15 p = 1 → g' (200 + 10 * (4 * p + q)) = g (200 + 10 * (4 * p + q)) ∧ g' (200 + 10 * (4 * p + q) + 2) = g (200 + 10 * (4 * p + q) + 2)) : RlL s' g' p q := by
  have hw9 : wdO s' (4 * p + q) = wdO s (4 * p + q) := by unfold wdO; rw [h17]
  obtain ⟨h1, h2⟩ := h
  refine ⟨?_, fun h1' => ?_⟩
  · unfold LwP at h1 ⊢
    rw [hw9, hw, hl]
    exact h1
  · rw [h15] at h1'
    obtain ⟨e1, e2, e3⟩ := hs h1'
    obtain ⟨e4, e5⟩ := hg h1'
    have ht9 : tkO s' (4 * p + q) = tkO s (4 * p + q) := by unfold tkO; rw [e3]
    rw [hw9, ht9, e1, e2, e3, e4, e5]
    exact h2 h1'
theorem RlP.c {s g s' g' : MG} (h : RlP s g) (h0 : s' 0 2 = s 0 2) (hs : ∀ k, 12 ≤ k → k ≤ 20 → s' k = s k) (hg : ∀ k, 100 ≤ k → k < 440 → g' k = g k) (h6 : npO s ≤ 6) (h4 : ∀ p, p < 6 → nlO s p ≤ 4) : RlP s' g' := by
  intro p hp
  have hp' : p < npO s := by unfold npO at hp ⊢; rw [← h0]; exact hp
  obtain ⟨e1, e2, e3, e4, e5, e6⟩ := h p hp'
  rw [hg (100 + 10 * p) (by omega) (by omega), hg (100 + 10 * p + 1) (by omega) (by omega), hs 12 (by decide) (by decide), hs 13 (by decide) (by decide), hs 14 (by decide) (by decide), hs 15 (by decide) (by decide), hs 16 (by decide) (by decide)]
  refine ⟨e1, e2, e3, e4, e5, fun q hq => ?_⟩
  have hq' : q < nlO s p := by unfold nlO at hq ⊢; rw [← hs 14 (by decide) (by decide)]; exact hq
  have := h4 p (by omega)
  exact (e6 q hq').c (by rw [hs 15 (by decide) (by decide)]) (by rw [hs 17 (by decide) (by decide)]) (fun _ => ⟨by rw [hs 18 (by decide) (by decide)], by rw [hs 19 (by decide) (by decide)], by rw [hs 20 (by decide) (by decide)]⟩) (by rw [hg _ (by omega) (by omega)]) (hg _ (by omega) (by omega)) (fun _ => ⟨hg _ (by omega) (by omega), hg _ (by omega) (by omega)⟩)
/-- what a call of the class leaves alone -/
def FrK (g g' : MG) : Prop := (∀ k, k < 30 → g' k = g k) ∧ g' 500 = g 500
theorem FrK.rf {g : MG} : FrK g g := ⟨fun _ _ => rfl, rfl⟩
theorem FrK.trans {a b c : MG} (h1 : FrK a b) (h2 : FrK b c) : FrK a c := ⟨fun k hk => (h2.1 k hk).trans (h1.1 k hk), h2.2.trans h1.2⟩
theorem FrK.w {g g' : MG} (h : FrK g g') {k j : Nat} {x : Int32} (hk : 30 ≤ k ∧ k ≠ 500) : FrK g (wr g' k j x) := ⟨fun q hq => by rw [wr_row _ _ _ _ (by omega)]; exact h.1 q hq, by rw [wr_row _ _ _ _ (by omega)]; exact h.2⟩
theorem frC.K {g g' : MG} {p : Nat} (h : frC g g' p) (hp : p < 6) : FrK g g' := ⟨fun k hk => h.1 k (by omega) (by omega), h.1 500 (by omega) (by omega)⟩
def PX (g : MG) (cd : Nat) (an : Int32) (st : MG) : Int32 → MG → Prop := fun r g' => cd = 0 ∧ r = an ∧ Rl st g' ∧ FrK g g'
def nm3 (a b c : Fin 3) (k : Nat) : String := if k = 1 then exC a else if k = 2 then exC b else exC c
def PXx (g : MG) (cd : Nat) (nm : Nat → String) (st : MG) : String → MG → Prop := fun E g' => ¬ cd = 0 ∧ E = nm cd ∧ Rl st g' ∧ FrK g g'
theorem PXx.no {g g' s st : MG} {cd k : Nat} {nm : Nat → String} {E : String} (h : cd = k) (hk : ¬ k = 0) (hE : E = nm k) (hst : st = s) (hR : Rl s g') (hf : FrK g g') : PXx g cd nm st E g' := by
  subst h
  subst hst
  exact ⟨hk, hE, hR, hf⟩
theorem IvM_nf {s : MG} (h : IvM s) : nfO s ≤ 5 ∧ s 0 1 = nI (nfO s) := by
  obtain ⟨⟨n, h1, h2⟩, -⟩ := h
  have e : nfO s = n := by unfold nfO; rw [h2]; exact iz_nI (by omega)
  rw [e]
  exact ⟨h1, h2⟩
theorem IvM_np {s : MG} (h : IvM s) : npO s ≤ 6 ∧ s 0 2 = nI (npO s) := by
  obtain ⟨-, ⟨n, h1, h2⟩, -⟩ := h
  have e : npO s = n := by unfold npO; rw [h2]; exact iz_nI (by omega)
  rw [e]
  exact ⟨h1, h2⟩
theorem Rl_other {s g : MG} (h : Rl s g) (hI : IvM s) (a : Nat) (x : Int32) : Rl (wr s 9 a x) (wr g 33 a x) := by
  obtain ⟨⟨h1, h2, h3, h4, h5, h6, h7⟩, hF, hP⟩ := h
  refine ⟨⟨?_, ?_, ?_, ?_, fun j hj => ?_, fun j hj => ?_, fun j hj => ?_⟩, hF.c (by rw [wr_row _ _ _ _ (by decide)]) (fun k k1 k2 => wr_row _ _ _ _ (by omega)) (fun k k1 k2 _ => wr_row _ _ _ _ (by omega)) (IvM_nf hI).1, hP.c (by rw [wr_row _ _ _ _ (by decide)]) (fun k k1 k2 => wr_row _ _ _ _ (by omega)) (fun k k1 k2 => wr_row _ _ _ _ (by omega)) (IvM_np hI).1 (fun p hp => (IvM_nl hI hp).2)⟩
  · rw [wr_row _ _ _ _ (by decide), wr_row _ _ _ _ (by decide)]; exact h1
  · rw [wr_row _ _ _ _ (by decide), wr_row _ _ _ _ (by decide)]; exact h2
  · rw [wr_row _ _ _ _ (by decide), wr_row _ _ _ _ (by decide)]; exact h3
  · rw [wr_row _ _ _ _ (by decide), wr_row _ _ _ _ (by decide)]; exact h4
  · by_cases e : j = a
    · rw [e, wr_same, wr_same]
    · rw [wr_ne _ _ _ _ (Or.inr e), wr_ne _ _ _ _ (Or.inr e)]; exact h5 j hj
  · rw [wr_row _ _ _ _ (by decide), wr_row _ _ _ _ (by decide)]; exact h6 j hj
  · rw [wr_row _ _ _ _ (by decide), wr_row _ _ _ _ (by decide)]; exact h7 j hj
theorem Rl_town {s g : MG} (h : Rl s g) (hI : IvM s) (a : Nat) (x y : Int32) : Rl (wr (wr s 10 a x) 11 a y) (wr (wr g 34 a x) 35 a y) := by
  obtain ⟨⟨h1, h2, h3, h4, h5, h6, h7⟩, hF, hP⟩ := h
  have w2 : ∀ (f : MG) (k1 k2 q : Nat), q ≠ k1 → q ≠ k2 → wr (wr f k1 a x) k2 a y q = f q := fun f k1 k2 q q1 q2 => by rw [wr_row _ _ _ _ q2, wr_row _ _ _ _ q1]
  refine ⟨⟨?_, ?_, ?_, ?_, fun j hj => ?_, fun j hj => ?_, fun j hj => ?_⟩, hF.c (by rw [w2 _ _ _ _ (by decide) (by decide)]) (fun k k1 k2 => w2 _ _ _ _ (by omega) (by omega)) (fun k k1 k2 _ => w2 _ _ _ _ (by omega) (by omega)) (IvM_nf hI).1, hP.c (by rw [w2 _ _ _ _ (by decide) (by decide)]) (fun k k1 k2 => w2 _ _ _ _ (by omega) (by omega)) (fun k k1 k2 => w2 _ _ _ _ (by omega) (by omega)) (IvM_np hI).1 (fun p hp => (IvM_nl hI hp).2)⟩
  · rw [w2 _ _ _ _ (by decide) (by decide), w2 _ _ _ _ (by decide) (by decide)]; exact h1
  · rw [w2 _ _ _ _ (by decide) (by decide), w2 _ _ _ _ (by decide) (by decide)]; exact h2
  · rw [w2 _ _ _ _ (by decide) (by decide), w2 _ _ _ _ (by decide) (by decide)]; exact h3
  · rw [w2 _ _ _ _ (by decide) (by decide), w2 _ _ _ _ (by decide) (by decide)]; exact h4
  · rw [w2 _ _ _ _ (by decide) (by decide), w2 _ _ _ _ (by decide) (by decide)]; exact h5 j hj
  · rw [wr_row (wr g 34 a x) 35 a y (show 34 ≠ 35 by decide), wr_row (wr s 10 a x) 11 a y (show 10 ≠ 11 by decide)]
    by_cases e : j = a
    · rw [e, wr_same, wr_same]
    · rw [wr_ne _ _ _ _ (Or.inr e), wr_ne _ _ _ _ (Or.inr e)]; exact h6 j hj
  · by_cases e : j = a
    · rw [e, wr_same, wr_same]
    · rw [wr_ne _ _ _ _ (Or.inr e), wr_ne _ _ _ _ (Or.inr e), wr_ne _ _ _ _ (Or.inr e), wr_ne _ _ _ _ (Or.inr e)]; exact h7 j hj
set_option maxRecDepth 100000 in
theorem x_setOther (l : Launch) (hl9 : l.stackTraces = false) (Z : Zc) (k o : Int32) (s g : MG) (hI : IvM s) (hR : Rl s g) : XI l yX3_setOther cX3_setOther 4 (some .int) (rmz 8 240 1 6) Z [.ref (Z.ad 30), .int k, .int o] g (PX g (cdSetOther k o) (s 9 (iz k)) (stSetOther s k o)) (PXx g (cdSetOther k o) (nm3 0 1 2) (stSetOther s k o)) := by
  refine ent_xi (lo := [some (.ref (Z.ad 30)), some (.int k), some (.int o), none]) hl9 (by decide) rfl (by simp [lg_sl, Value.category]) rfl (by decide) (fun P hl C ret thr => ?_)
  refine v_iload_n C dX3_setOther_0 rfl rfl ?_
  refine v_callSi (n := 1) (as := [.int k]) C (c_cisLetter _ Z k g) (gs (tg2 42 rfl rfl) (tg2 43 rfl rfl) (tg1 1 rfl rfl) (tg2 44 rfl rfl)) (by decide +kernel) ⟨Nat.le_of_ble_eq_true rfl, Nat.le_of_ble_eq_true rfl⟩ rfl rfl (Nat.le_of_ble_eq_true rfl) dX3_setOther_1 ⟨Nat.le_of_ble_eq_true rfl, Nat.le_of_ble_eq_true rfl⟩ (fun r1 g1 hp1 => ?_)
  obtain ⟨rfl, hg1⟩ := hp1
  rw [hg1]
  refine v_if_eq (tgt := 19) C dX3_setOther_4 (by decide) (fun h4 => ?_) (fun h4 => ?_)
  · have k4 := bI_0.mp h4
    exact thr _ _ _ _ _ 0 _ _ (List.mem_of_getElem? (i := 6) rfl) ⟨Nat.le_of_ble_eq_true rfl, Nat.le_of_ble_eq_true rfl⟩ dX3_setOther_19 dX3_setOther_22 dX3_setOther_23 dX3_setOther_25 dX3_setOther_28 (PXx.no (k := 1) (by unfold cdSetOther; rw [if_pos (Or.inl k4)]) (by decide) rfl (by unfold stSetOther; rw [if_neg (by rw [show cdSetOther k o = 1 by unfold cdSetOther; rw [if_pos (Or.inl k4)]]; decide)]) hR FrK.rf)
  · have k4 := bI_1.mp h4
    obtain ⟨a, ha, hka⟩ : ∃ a, a < 10 ∧ k = nI a := ⟨iz k, (isN_nI k4).2, (isN_nI k4).1⟩
    subst hka
    refine v_iload_n C dX3_setOther_7 rfl rfl ?_
    refine v_iconst (v := (-1)) C dX3_setOther_8 (by decide) ?_
    refine v_icmp_eq (tgt := 29) C dX3_setOther_9 (by decide) (fun h9 => ?_) (fun h9 => ?_)
    · refine v_iload_n C dX3_setOther_29 rfl rfl ?_
      refine v_iload_n C dX3_setOther_30 rfl rfl ?_
      refine v_icmp_ne (tgt := 44) C dX3_setOther_31 (by decide) (fun h31 => ?_) (fun h31 => ?_)
      · refine v_aload_n C dX3_setOther_44 rfl rfl ?_
        refine v_get C inG3 rfl 2 (by decide) (tg1 68 rfl rfl) rfl cx_T rfl dX3_setOther_45 ?_
        refine v_iload_n C dX3_setOther_48 rfl rfl ?_
        refine v_ialdN (a := a) C cx_O ⟨ha, by decide⟩ dX3_setOther_49 ?_
        refine v_istore_n (lo' := [some (.ref (Z.ad 30)), some (.int (nI a)), some (.int o), some (.int (g 33 a))]) C dX3_setOther_50 rfl (Nat.le_of_ble_eq_true rfl) rfl rfl ?_
        refine v_aload_n C dX3_setOther_51 rfl rfl ?_
        refine v_get C inG3 rfl 2 (by decide) (tg1 68 rfl rfl) rfl cx_T rfl dX3_setOther_52 ?_
        refine v_iload_n C dX3_setOther_55 rfl rfl ?_
        refine v_iload_n C dX3_setOther_56 rfl rfl ?_
        refine v_iastN (a := a) C (fun _ _ => cx_O) rfl (by omega) ⟨ha, by decide⟩ dX3_setOther_57 ?_
        refine v_iload_n C dX3_setOther_58 rfl rfl ?_
        have hcd : cdSetOther (nI a) o = 0 := by unfold cdSetOther; rw [if_neg (by simp [k4, h9]), if_neg h31]
        refine v_wide (k := 1) (n := 6) (Nat.le_of_ble_eq_true rfl) (Nat.le_of_ble_eq_true rfl) ?_
        exact ret _ _ _ _ dX3_setOther_59 ⟨hcd, (show g 33 a = s 9 (iz (nI a)) by rw [iz_nI (by omega)]; exact hR.1.2.2.2.2.1 a ha), by unfold stSetOther; rw [if_pos hcd, iz_nI (by omega)]; exact Rl_other hR hI a o, FrK.rf.w (by decide)⟩
      · exact thr _ _ _ _ _ 1 _ _ (List.mem_of_getElem? (i := 7) rfl) ⟨Nat.le_of_ble_eq_true rfl, Nat.le_of_ble_eq_true rfl⟩ dX3_setOther_34 dX3_setOther_37 dX3_setOther_38 dX3_setOther_40 dX3_setOther_43 (PXx.no (k := 2) (by unfold cdSetOther; rw [if_neg (by simp [k4, h9]), if_pos h31]) (by decide) rfl (by unfold stSetOther; rw [if_neg (by rw [show cdSetOther (nI a) o = 2 by unfold cdSetOther; rw [if_neg (by simp [k4, h9]), if_pos h31]]; decide)]) hR FrK.rf)
    · refine v_iload_n C dX3_setOther_12 rfl rfl ?_
      refine v_callSi (n := 1) (as := [.int o]) C (c_cisLetter _ Z o g) (gs (tg2 42 rfl rfl) (tg2 43 rfl rfl) (tg1 1 rfl rfl) (tg2 44 rfl rfl)) (by decide +kernel) ⟨Nat.le_of_ble_eq_true rfl, Nat.le_of_ble_eq_true rfl⟩ rfl rfl (Nat.le_of_ble_eq_true rfl) dX3_setOther_13 ⟨Nat.le_of_ble_eq_true rfl, Nat.le_of_ble_eq_true rfl⟩ (fun r13 g13 hp13 => ?_)
      obtain ⟨rfl, hg13⟩ := hp13
      rw [hg13]
      refine v_if_ne (tgt := 29) C dX3_setOther_16 (by decide) (fun h16 => ?_) (fun h16 => ?_)
      · have k16 := bI_1.mp h16
        refine v_iload_n C dX3_setOther_29 rfl rfl ?_
        refine v_iload_n C dX3_setOther_30 rfl rfl ?_
        refine v_icmp_ne (tgt := 44) C dX3_setOther_31 (by decide) (fun h31 => ?_) (fun h31 => ?_)
        · refine v_aload_n C dX3_setOther_44 rfl rfl ?_
          refine v_get C inG3 rfl 2 (by decide) (tg1 68 rfl rfl) rfl cx_T rfl dX3_setOther_45 ?_
          refine v_iload_n C dX3_setOther_48 rfl rfl ?_
          refine v_ialdN (a := a) C cx_O ⟨ha, by decide⟩ dX3_setOther_49 ?_
          refine v_istore_n (lo' := [some (.ref (Z.ad 30)), some (.int (nI a)), some (.int o), some (.int (g 33 a))]) C dX3_setOther_50 rfl (Nat.le_of_ble_eq_true rfl) rfl rfl ?_
          refine v_aload_n C dX3_setOther_51 rfl rfl ?_
          refine v_get C inG3 rfl 2 (by decide) (tg1 68 rfl rfl) rfl cx_T rfl dX3_setOther_52 ?_
          refine v_iload_n C dX3_setOther_55 rfl rfl ?_
          refine v_iload_n C dX3_setOther_56 rfl rfl ?_
          refine v_iastN (a := a) C (fun _ _ => cx_O) rfl (by omega) ⟨ha, by decide⟩ dX3_setOther_57 ?_
          refine v_iload_n C dX3_setOther_58 rfl rfl ?_
          have hcd : cdSetOther (nI a) o = 0 := by unfold cdSetOther; rw [if_neg (by simp [k4, k16]), if_neg h31]
          refine v_wide (k := 1) (n := 6) (Nat.le_of_ble_eq_true rfl) (Nat.le_of_ble_eq_true rfl) ?_
          exact ret _ _ _ _ dX3_setOther_59 ⟨hcd, (show g 33 a = s 9 (iz (nI a)) by rw [iz_nI (by omega)]; exact hR.1.2.2.2.2.1 a ha), by unfold stSetOther; rw [if_pos hcd, iz_nI (by omega)]; exact Rl_other hR hI a o, FrK.rf.w (by decide)⟩
        · exact thr _ _ _ _ _ 1 _ _ (List.mem_of_getElem? (i := 7) rfl) ⟨Nat.le_of_ble_eq_true rfl, Nat.le_of_ble_eq_true rfl⟩ dX3_setOther_34 dX3_setOther_37 dX3_setOther_38 dX3_setOther_40 dX3_setOther_43 (PXx.no (k := 2) (by unfold cdSetOther; rw [if_neg (by simp [k4, k16]), if_pos h31]) (by decide) rfl (by unfold stSetOther; rw [if_neg (by rw [show cdSetOther (nI a) o = 2 by unfold cdSetOther; rw [if_neg (by simp [k4, k16]), if_pos h31]]; decide)]) hR FrK.rf)
      · have k16 := bI_0.mp h16
        exact thr _ _ _ _ _ 0 _ _ (List.mem_of_getElem? (i := 6) rfl) ⟨Nat.le_of_ble_eq_true rfl, Nat.le_of_ble_eq_true rfl⟩ dX3_setOther_19 dX3_setOther_22 dX3_setOther_23 dX3_setOther_25 dX3_setOther_28 (PXx.no (k := 1) (by unfold cdSetOther; rw [if_pos (Or.inr ⟨h9, k16⟩)]) (by decide) rfl (by unfold stSetOther; rw [if_neg (by rw [show cdSetOther (nI a) o = 1 by unfold cdSetOther; rw [if_pos (Or.inr ⟨h9, k16⟩)]]; decide)]) hR FrK.rf)
