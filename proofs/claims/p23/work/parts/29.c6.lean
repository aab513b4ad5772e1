/-! THE CLASS: the lines of a poster laid; plans -/
theorem bo_lt {fv ht : Nat → Int32} {tall : Int32} : ∀ (n f : Nat) (s : Int32 × Int32), (s.2 = -1 ∨ ∃ b, b < f + n ∧ s.2 = nI b) → ((bo fv ht tall n f s).2 = -1 ∨ ∃ b, b < f + n ∧ (bo fv ht tall n f s).2 = nI b) := by
  intro n
  induction n with
  | zero => intro f s h; exact h
  | succ n ih =>
    intro f s h
    have h2 := ih (f + 1) (if ht f < tall then s else if btr ht (fv f) f s.1 s.2 then (fv f, nI f) else s) (by
      split
      · rcases h with h | ⟨b, h1, h2⟩
        · exact Or.inl h
        · exact Or.inr ⟨b, by omega, h2⟩
      · split
        · exact Or.inr ⟨f, by omega, rfl⟩
        · rcases h with h | ⟨b, h1, h2⟩
          · exact Or.inl h
          · exact Or.inr ⟨b, by omega, h2⟩)
    rw [bo_s, show f + (n + 1) = f + 1 + n by omega]
    exact h2
/-- what a plan of poster p may write: how its lines are laid, what founts have left -/
def frC (g g' : MG) (p : Nat) : Prop := (∀ k, ¬ (40 ≤ k ∧ k < 90 ∧ k % 10 = 4) → ¬ (200 + 40 * p ≤ k ∧ k < 240 + 40 * p ∧ k % 10 ≠ 1) → g' k = g k) ∧ ∀ q j, q < 4 → j ≠ 3 → j ≠ 4 → j ≠ 5 → g' (200 + 10 * (4 * p + q)) j = g (200 + 10 * (4 * p + q)) j
theorem frC.rf {g : MG} {p : Nat} : frC g g p := ⟨fun _ _ _ => rfl, fun _ _ _ _ _ _ => rfl⟩
theorem frC.trans {a b c : MG} {p : Nat} (h1 : frC a b p) (h2 : frC b c p) : frC a c p := ⟨fun k x y => (h2.1 k x y).trans (h1.1 k x y), fun q j x y z t => (h2.2 q j x y z t).trans (h1.2 q j x y z t)⟩
theorem frL.C {g g' : MG} {p q : Nat} (h : frL g g' p q) (hq : q < 4) : frC g g' p := by
  refine ⟨fun k h1 h2 => h.1 k (by omega) (by omega), fun a j ha h3 h4 h5 => ?_⟩
  by_cases e : a = q
  · rw [e]; exact h.2 j h3 h4 h5
  · rw [h.1 _ (by omega) (by omega)]
theorem frC.F {g g' : MG} {p i : Nat} (h : frC g g' p) (hF : FnP g i) : FnP g' i := hF.e (h.1 31 (by omega) (by omega))
theorem frC.P {g g' : MG} {p i : Nat} (h : frC g g' p) (hF : PsP g i) : PsP g' i := hF.e (h.1 32 (by omega) (by omega))
theorem frC.L {g g' : MG} {p a b : Nat} (h : frC g g' p) (hL : LnP g a b) : LnP g' a b := hL.e (h.1 32 (by omega) (by omega)) (h.1 _ (by have := hL.lt; omega) (by have := hL.lt; omega))
theorem LwP.frC {g g' : MG} {p q w : Nat} (h : LwP g p q w) (hf : frC g g' p) (hq : q < 4) : LwP g' p q w := by
  have e2 : g' (200 + 10 * (4 * p + q) + 1) = g (200 + 10 * (4 * p + q) + 1) := hf.1 _ (by omega) (by omega)
  have e1 := hf.2 q 1 hq (by decide) (by decide) (by decide)
  unfold LwP
  rw [e1, e2]
  exact h
/-- room for a letter where lf are left and mo are spent -/
def okC (lf : Nat → Nat → Int32) : OK := fun mo f k x => decide (x < lf f k - mo (10 * f + k))
def LfI (g : MG) (n : Nat) (lf : Nat → Nat → Int32) (mo : Nat → Int32) : Prop := ∀ i, i < n → ∀ j, j < 10 → g (40 + 10 * i + 4) j = lf i j - mo (10 * i + j)
theorem LfI.fr {g g' : MG} {n p q : Nat} {lf : Nat → Nat → Int32} {mo : Nat → Int32} (h : LfI g n lf mo) (h5 : n ≤ 5) (hf : frL g g' p q) : LfI g' n lf mo := fun i hi j hj => by rw [hf.1 _ (by omega) (by omega)]; exact h i hi j hj
theorem LfI.tl {g : MG} {n : Nat} {lf : Nat → Nat → Int32} {mo : Nat → Int32} (h : LfI g n lf mo) {ot : Nat → Int32} (hot : otI ot) {i : Nat} (hi : i < n) (w : Nat) : tlR (okL g i) ot w (szw w) ts0 = tlR (okC lf mo i) ot w (szw w) ts0 :=
  tlR_cong hot (fun k x hk _ => by unfold okL okC; rw [h i hi k hk]) w (szw w) 0 ts0 TSI_0 (by have := @szw_le w; omega)
theorem LfI.bo {g : MG} {n : Nat} {lf : Nat → Nat → Int32} {mo : Nat → Int32} (h : LfI g n lf mo) {ot : Nat → Int32} (hot : otI ot) (ht : Nat → Int32) (tall : Int32) (w : Nat) : (bo (fvL g ot w) ht tall n 0 (-1, -1)).2 = boF (okC lf) ot ht tall n mo w := by
  unfold boF
  rw [bo_first n 0 (-1) 0, bo_cong (fv' := fvF (okC lf) ot mo w) n 0 (0, -1) (fun i _ hi => by unfold fvL fvF; rw [h.tl hot (by omega) w])]
theorem LfI.spend {g : MG} {n p q b : Nat} {lf : Nat → Nat → Int32} {mo : Nat → Int32} {t : TS} (h : LfI g n lf mo) (h5 : n ≤ 5) (ht : ∀ l, l < 10 → g (200 + 10 * (4 * p + q) + 2) l = t.1 l) : LfI (rwr g (40 + 10 * b + 4) (fun j => if j < 10 then g (40 + 10 * b + 4) j - g (200 + 10 * (4 * p + q) + 2) j else g (40 + 10 * b + 4) j)) n lf (spd mo (b, t)) := by
  intro i hi j hj
  unfold spd
  by_cases e : i = b
  · subst e
    rw [rwr_same, if_pos hj, if_pos (by omega), ht j hj, h i hi j hj, Int32.sub_sub, Nat.add_sub_cancel_left]
  · rw [rwr_ne _ _ _ (by omega), if_neg (by omega)]
    exact h i hi j hj
/-- how line q of poster p is laid -/
def lnO (g : MG) (p q : Nat) (t : Nat × TS) : Prop := g (200 + 10 * (4 * p + q)) 3 = nI t.1 ∧ g (200 + 10 * (4 * p + q)) 4 = t.2.2.1 ∧ g (200 + 10 * (4 * p + q)) 5 = t.2.2.2 ∧ ∀ l, l < 10 → g (200 + 10 * (4 * p + q) + 2) l = t.2.1 l
theorem lnO.e {g g' : MG} {p q : Nat} {t : Nat × TS} (h : lnO g p q t) (h1 : g' (200 + 10 * (4 * p + q)) = g (200 + 10 * (4 * p + q))) (h2 : g' (200 + 10 * (4 * p + q) + 2) = g (200 + 10 * (4 * p + q) + 2)) : lnO g' p q t := by
  unfold lnO
  rw [h1, h2]
  exact h
theorem lnO.fr {g g' : MG} {p q a : Nat} {t : Nat × TS} (h : lnO g p q t) (hf : frL g g' p a) (hq : q ≠ a) : lnO g' p q t := h.e (hf.1 _ (by omega) (by omega)) (hf.1 _ (by omega) (by omega))
def plQC (o : Option (List (Nat × TS) × (Nat → Int32))) (r : Int32) (g' : MG) (p : Nat) : Prop := match o with
  | none => r = -1
  | some a => r = flS a.1 ∧ ∀ i t, a.1[i]? = some t → lnO g' p i t
set_option maxRecDepth 100000 in
theorem c_layLines (l : Launch) (Z : Zc) (p m n : Nat) (g : MG) (lf : Nat → Nat → Int32) (hP : PsP g p) (hm : g (100 + 10 * p + 1) 2 = nI m) (h4 : m ≤ 4) (hn : g 31 2 = nI n) (h5 : n ≤ 5) (ot : Nat → Int32) (hot : otI ot) (hoe : ∀ l, l < 10 → g 33 l = ot l) (ht : Nat → Int32) (hht : ∀ i, i < n → g (40 + 10 * i) 1 = ht i) (wd : Nat → Nat) (hW : ∀ q, q < m → LwP g p q (wd (4 * p + q))) (hlf : LfI g n lf (fun _ => 0)) : MI l yX3_layLines cX3_layLines 6 (some .int) (rmz 4 130 0 0) Z [.ref (Z.ad 30), .ref (Z.ad (100 + 10 * p))] g (fun r g' => frC g g' p ∧ plQC (plA (okC lf) ot ht (g (100 + 10 * p) 1) n (wds wd p 0 m) [] (fun _ => 0)) r g' p) := by
  refine ent_i (own := RX3) (lo := [some (.ref (Z.ad 30)), some (.ref (Z.ad (100 + 10 * p))), none, none, none, none]) (by decide) rfl (by simp [lg_sl, Value.category]) rfl (fun P hl C ret => ?_)
  have hp6 := hP.lt
  have loop : ∀ (n9 : Nat) (q : Nat) (acc : List (Nat × TS)) (mo : Nat → Int32) (g1 : MG) (v v2 : Option Value), m - q < n9 → q ≤ m → frC g g1 p → acc.length = q → (∀ i t, acc[i]? = some t → lnO g1 p i t) → LfI g1 n lf mo → plA (okC lf) ot ht (g (100 + 10 * p) 1) n (wds wd p q m) acc mo = plA (okC lf) ot ht (g (100 + 10 * p) 1) n (wds wd p 0 m) [] (fun _ => 0) → V P (rmz 4 130 0 0) Z [some (.ref (Z.ad 30)), some (.ref (Z.ad (100 + 10 * p))), some (.int (flS acc)), some (.int (nI q)), v, v2] 4 [] g1 0 0 := by
    intro n9
    induction n9 with
    | zero => intro q acc mo g1 v v2 hn9 hq hfr hlen hacc hmo he; exact absurd hn9 (Nat.not_lt_zero _)
    | succ n9 ih =>
      intro q acc mo g1 v v2 hn9 hq hfr hlen hacc hmo he
      have hP1 := hfr.P hP
      have hm1 : g1 (100 + 10 * p + 1) 2 = nI m := by rw [hfr.1 _ (by omega) (by omega)]; exact hm
      have hn1 : g1 31 2 = nI n := by rw [hfr.1 31 (by omega) (by omega)]; exact hn
      refine v_iload_n C dX3_layLines_4 rfl rfl ?_
      refine v_aload_n C dX3_layLines_5 rfl rfl ?_
      refine v_get C inG2 rfl 2 (by decide) (tg3 94 rfl rfl) rfl (cxP hP1) rfl dX3_layLines_6 ?_
      refine v_callVi (n := 0) (as := []) C (c_lsize _ Z (100 + 10 * p + 1) (100 + 10 * p + 1 + 1) g1 (cxPL hP1)) (gv (tg1 97 rfl rfl) (tg1 98 rfl rfl) (tg1 99 rfl rfl) (tg1 4 rfl rfl) (tg1 100 rfl rfl)) (by decide +kernel) ⟨Nat.le_of_ble_eq_true rfl, Nat.le_of_ble_eq_true rfl⟩ rfl (cxPL hP1) rfl rfl (Nat.le_of_ble_eq_true rfl) dX3_layLines_9 ⟨Nat.le_of_ble_eq_true rfl, Nat.le_of_ble_eq_true rfl⟩ (fun r9 g9 hp9 => ?_)
      obtain ⟨rfl, hg9⟩ := hp9
      rw [hg9]
      refine v_topi (y := nI m) hm1 ?_
      refine v_icmp_ge (tgt := 79) C dX3_layLines_12 (by decide) (fun h12 => ?_) (fun h12 => ?_)
      · have hkn : q = m := Nat.le_antisymm hq ((nI_leI (by omega) (by omega)).mp h12)
        rw [wds_nil wd p (Nat.le_of_eq hkn.symm)] at he
        refine v_iload_n C dX3_layLines_79 rfl rfl ?_
        exact ret _ _ _ _ dX3_layLines_80 ⟨hfr, by rw [← he]; exact ⟨rfl, hacc⟩⟩
      · have hkn : q < m := Nat.lt_of_not_le fun z => h12 ((nI_leI (by omega) (by omega)).mpr z)
        have hL1 : LnP g1 p q := LnP.mk hP1 hm1 hkn h4
        rw [wds_cons wd p hkn] at he
        obtain ⟨w, hw⟩ : ∃ w, w = wd (4 * p + q) := ⟨_, rfl⟩
        have hw1 : LwP g1 p q w := by rw [hw]; exact (hW q hkn).frC hfr (by omega)
        rw [← hw] at he
        have hoe1 : ∀ l, l < 10 → g1 33 l = ot l := by rw [hfr.1 33 (by omega) (by omega)]; exact hoe
        have hht1 : ∀ i, i < n → g1 (40 + 10 * i) 1 = ht i := fun i hi => by rw [hfr.1 _ (by omega) (by omega)]; exact hht i hi
        obtain ⟨b0, hb0⟩ : ∃ b0, b0 = boF (okC lf) ot ht (g (100 + 10 * p) 1) n mo w := ⟨_, rfl⟩
        refine v_aload_n C dX3_layLines_15 rfl rfl ?_
        refine v_get C inG2 rfl 2 (by decide) (tg3 94 rfl rfl) rfl (cxP hP1) rfl dX3_layLines_16 ?_
        refine v_iload_n C dX3_layLines_19 rfl rfl ?_
        refine v_callVq (n := 1) (as := [.int (nI q)]) C (c_lget _ Z (100 + 10 * p + 1) (100 + 10 * p + 1 + 1) m q g1 (cxPL hP1) hm1 hkn (by omega) (fun j => Z.ad (200 + 10 * (4 * p + j))) (cxPE' hP1 hm1)) (gv (tg1 169 rfl rfl) (tg1 170 rfl rfl) (tg1 171 rfl rfl) (tg1 4 rfl rfl) (tg1 172 rfl rfl)) (by decide +kernel) ⟨Nat.le_of_ble_eq_true rfl, Nat.le_of_ble_eq_true rfl⟩ rfl (cxPL hP1) rfl rfl (Nat.le_of_ble_eq_true rfl) dX3_layLines_20 ⟨Nat.le_of_ble_eq_true rfl, Nat.le_of_ble_eq_true rfl⟩ (fun r20 g20 hp20 => ?_)
        obtain ⟨rfl, hg20⟩ := hp20
        rw [hg20]
        refine v_st (st' := [.ref (Z.ad (200 + 10 * (4 * p + q)))]) rfl ?_
        refine v_cast C rfl (tg1 212 rfl rfl) (cxLn hL1) dX3_layLines_23 ?_
        refine v_astore (lo' := [some (.ref (Z.ad 30)), some (.ref (Z.ad (100 + 10 * p))), some (.int (flS acc)), some (.int (nI q)), some (.ref (Z.ad (200 + 10 * (4 * p + q)))), v2]) C dX3_layLines_26 (Nat.le_of_ble_eq_true rfl) rfl rfl ?_
        refine v_aload_n C dX3_layLines_28 rfl rfl ?_
        refine v_aload C dX3_layLines_29 rfl ?_
        refine v_aload_n C dX3_layLines_31 rfl rfl ?_
        refine v_get C inG2 rfl 1 (by decide) (tg3 92 rfl rfl) rfl (cxP hP1) rfl dX3_layLines_32 ?_
        refine v_topi (y := g (100 + 10 * p) 1) (by rw [hfr.1 _ (by omega) (by omega)]) ?_
        refine v_callVq (n := 2) (as := [.ref (Z.ad (200 + 10 * (4 * p + q))), .int (g (100 + 10 * p) 1)]) C (c_bestFount _ Z p q w n (g (100 + 10 * p) 1) g1 hL1 hw1 hn1 h5 ot hot hoe1 ht hht1) (gv (tg1 213 rfl rfl) (tg1 215 rfl rfl) (tg0 5 rfl rfl) (tg1 1 rfl rfl) (tg1 216 rfl rfl)) (by decide +kernel) ⟨Nat.le_of_ble_eq_true rfl, Nat.le_of_ble_eq_true rfl⟩ rfl cx_T rfl rfl (Nat.le_of_ble_eq_true rfl) dX3_layLines_35 ⟨Nat.le_of_ble_eq_true rfl, Nat.le_of_ble_eq_true rfl⟩ (fun r35 g35 hp35 => ?_)
        obtain ⟨hfrB, hrB⟩ := hp35
        have hrB : r35 = fR Z.ad b0 := by rw [hrB, hb0, hmo.bo hot]
        have hfr2 := hfr.trans (hfrB.C (by omega))
        have hL2 := hfrB.L hL1
        have hP2 := hfrB.P hP1
        have hmo2 := hmo.fr h5 hfrB
        obtain hb1 | ⟨b, hbn, hbe⟩ : b0 = -1 ∨ ∃ b, b < n ∧ b0 = nI b := by rw [hb0]; have := bo_lt (fv := fvF (okC lf) ot mo w) (ht := ht) (tall := g (100 + 10 * p) 1) n 0 (0, -1) (Or.inl rfl); rw [Nat.zero_add] at this; exact this
        · refine v_st (st' := [.null]) (by rw [hrB, hb1]; rfl) ?_
          have hno : plA (okC lf) ot ht (g (100 + 10 * p) 1) n (w :: wds wd p (q + 1) m) acc mo = none := by simp only [plA, pl1]; rw [← hb0, if_pos hb1]; rfl
          rw [hno] at he
          refine v_astoreN (lo' := [some (.ref (Z.ad 30)), some (.ref (Z.ad (100 + 10 * p))), some (.int (flS acc)), some (.int (nI q)), some (.ref (Z.ad (200 + 10 * (4 * p + q)))), some (.null)]) C dX3_layLines_38 (Nat.le_of_ble_eq_true rfl) rfl rfl ?_
          refine v_aloadN C dX3_layLines_40 rfl ?_
          refine v_ifnullN (tgt := 56) C dX3_layLines_42 (by decide) ?_
          refine v_iconst (v := (-1)) C dX3_layLines_56 (by decide) ?_
          exact ret _ _ _ _ dX3_layLines_57 ⟨hfr2, by rw [← he]; exact rfl⟩
        · obtain ⟨b9, hb9, hbe9, -, hfb9⟩ := (bo_ok (fv := fvF (okC lf) ot mo w) (ht := ht) (tall := g (100 + 10 * p) 1) n 0 (0, -1) (by omega) (Or.inl rfl)).resolve_left (by rw [show (bo (fvF (okC lf) ot mo w) ht (g (100 + 10 * p) 1) n 0 (0, -1)).2 = b0 from hb0.symm, hbe]; exact nI_m1 (by omega))
          have hbb : b9 = b := nI_inj (by omega) (by omega) (hbe9.symm.trans (hb0.symm.trans hbe))
          rw [hbb] at hfb9
          refine v_st (st' := [.ref (Z.ad (40 + 10 * b))]) (by rw [hrB, hbe, fR_nI (by omega)]; rfl) ?_
          have hb1 : ¬ b0 = -1 := by rw [hbe]; exact nI_m1 (by omega)
          obtain ⟨t, ht9⟩ : ∃ t, tlR (okC lf mo b) ot w (szw w) ts0 = some t := by
            cases hc : tlR (okC lf mo b) ot w (szw w) ts0 with
            | none => exact absurd (show trv (tlR (okC lf mo b) ot w (szw w) ts0) = -1 by rw [hc]; rfl) hfb9
            | some t => exact ⟨t, rfl⟩
          have hst : plA (okC lf) ot ht (g (100 + 10 * p) 1) n (w :: wds wd p (q + 1) m) acc mo = plA (okC lf) ot ht (g (100 + 10 * p) 1) n (wds wd p (q + 1) m) (acc ++ [(b, t)]) (spd mo (b, t)) := by simp only [plA, pl1]; rw [← hb0, if_neg hb1, hbe, iz_nI (by omega), ht9]; rfl
          rw [hst] at he
          have hFb := hfrB.F (FnP.mk hn1 hbn h5)
          have hoe2 : ∀ l, l < 10 → g35 33 l = ot l := by rw [hfrB.1 33 (by omega) (by omega)]; exact hoe1
          refine v_astore (lo' := [some (.ref (Z.ad 30)), some (.ref (Z.ad (100 + 10 * p))), some (.int (flS acc)), some (.int (nI q)), some (.ref (Z.ad (200 + 10 * (4 * p + q)))), some (.ref (Z.ad (40 + 10 * b)))]) C dX3_layLines_38 (Nat.le_of_ble_eq_true rfl) rfl rfl ?_
          refine v_aload C dX3_layLines_40 rfl ?_
          refine v_ifnull C dX3_layLines_42 ?_
          refine v_aload_n C dX3_layLines_45 rfl rfl ?_
          refine v_aload C dX3_layLines_46 rfl ?_
          refine v_aload C dX3_layLines_48 rfl ?_
          refine v_callVi (n := 2) (as := [.ref (Z.ad (200 + 10 * (4 * p + q))), .ref (Z.ad (40 + 10 * b))]) C (c_lay _ Z p q b w g35 hL2 hFb (hw1.fr hfrB) ot hot hoe2) (gv (tg1 217 rfl rfl) (tg1 219 rfl rfl) (tg0 6 rfl rfl) (tg1 1 rfl rfl) (tg1 220 rfl rfl)) (by decide +kernel) ⟨Nat.le_of_ble_eq_true rfl, Nat.le_of_ble_eq_true rfl⟩ rfl cx_T rfl rfl (Nat.le_of_ble_eq_true rfl) dX3_layLines_50 ⟨Nat.le_of_ble_eq_true rfl, Nat.le_of_ble_eq_true rfl⟩ (fun r50 g50 hp50 => ?_)
          have hq9 : layQ (tlR (okL g35 b) ot w (szw w) ts0) r50 g35 g50 p q b := hp50
          rw [hmo2.tl hot hbn w, ht9] at hq9
          refine v_if_ne (tgt := 58) C dX3_layLines_53 (by decide) (fun h53 => ?_) (fun h53 => ?_)
          · obtain ⟨t9, ht99, hla⟩ := hq9.yes h53
            cases ht99
            have hfr3 := hfr2.trans (hla.1.C (by omega))
            have hL3 := hla.1.L hL2
            have hP3 := hla.1.P hP2
            have hFb3 := hla.1.F hFb
            have hmo3 := hmo2.fr h5 hla.1
            refine v_aload C dX3_layLines_58 rfl ?_
            refine v_aload C dX3_layLines_60 rfl ?_
            refine v_callVv (n := 1) (as := [.ref (Z.ad (200 + 10 * (4 * p + q)))]) C (c_spendOn _ Z b p q g50 hFb3 hL3) (gv (tg1 234 rfl rfl) (tg1 235 rfl rfl) (tg1 236 rfl rfl) (tg1 12 rfl rfl) (tg1 237 rfl rfl)) (by decide +kernel) ⟨Nat.le_of_ble_eq_true rfl, Nat.le_of_ble_eq_true rfl⟩ rfl (cxF hFb3) rfl rfl (Nat.le_of_ble_eq_true rfl) dX3_layLines_62 ⟨Nat.le_of_ble_eq_true rfl, Nat.le_of_ble_eq_true rfl⟩ (fun g62 hp62 => ?_)
            have hg62 := hp62
            rw [hg62]
            refine v_iload_n C dX3_layLines_65 rfl rfl ?_
            refine v_aload C dX3_layLines_66 rfl ?_
            refine v_get C inG1 rfl 4 (by decide) (tg4 199 rfl rfl) rfl (cxLn (LnP.r hL3 (lk_n (by omega) (by omega) (by omega)))) rfl dX3_layLines_68 ?_
            refine v_topi (y := t.2.1) (by rw [rwr_ne _ _ _ (by omega)]; exact hla.2.2.1) ?_
            refine v_iadd C dX3_layLines_71 ?_
            refine v_topi (y := flS (acc ++ [(b, t)])) (flS_app acc (b, t)).symm ?_
            refine v_istore_n (lo' := [some (.ref (Z.ad 30)), some (.ref (Z.ad (100 + 10 * p))), some (.int (flS (acc ++ [(b, t)]))), some (.int (nI q)), some (.ref (Z.ad (200 + 10 * (4 * p + q)))), some (.ref (Z.ad (40 + 10 * b)))]) C dX3_layLines_72 rfl (Nat.le_of_ble_eq_true rfl) rfl rfl ?_
            refine v_iinc (lo' := [some (.ref (Z.ad 30)), some (.ref (Z.ad (100 + 10 * p))), some (.int (flS (acc ++ [(b, t)]))), some (.int ((nI q) + 1)), some (.ref (Z.ad (200 + 10 * (4 * p + q)))), some (.ref (Z.ad (40 + 10 * b)))]) C dX3_layLines_73 rfl rfl rfl rfl ?_
            refine v_lo (lo' := [some (.ref (Z.ad 30)), some (.ref (Z.ad (100 + 10 * p))), some (.int (flS (acc ++ [(b, t)]))), some (.int (nI (q + 1))), some (.ref (Z.ad (200 + 10 * (4 * p + q)))), some (.ref (Z.ad (40 + 10 * b)))]) (by rw [← nI_1 q]) ?_
            refine v_goto (tgt := 4) C dX3_layLines_76 (by decide) ?_
            have hfr4 : frC g50 (rwr g50 (40 + 10 * b + 4) (fun j => if j < 10 then g50 (40 + 10 * b + 4) j - g50 (200 + 10 * (4 * p + q) + 2) j else g50 (40 + 10 * b + 4) j)) p := ⟨fun k h1 h2 => rwr_ne _ _ _ (by omega), fun a j ha _ _ _ => by rw [rwr_ne _ _ _ (by omega)]⟩
            refine ih (q + 1) (acc ++ [(b, t)]) (spd mo (b, t)) _ _ _ (by omega) (by omega) (hfr3.trans hfr4) (by rw [List.length_append, hlen]; rfl) (fun i t9 hi => ?_) (hmo3.spend h5 hla.2.2.2.2) he
            by_cases hiq : i < q
            · rw [List.getElem?_append_left (by omega)] at hi
              exact (((hacc i t9 hi).fr hfrB (by omega)).fr hla.1 (by omega)).e (rwr_ne _ _ _ (by omega)) (rwr_ne _ _ _ (by omega))
            · have hi2 : i = q := by have := (List.getElem?_eq_some_iff.mp hi).1; rw [List.length_append, hlen] at this; simp at this; omega
              subst hi2
              rw [List.getElem?_append_right (by omega), hlen, Nat.sub_self] at hi
              cases hi
              exact lnO.e ⟨hla.2.1, hla.2.2.1, hla.2.2.2.1, hla.2.2.2.2⟩ (rwr_ne _ _ _ (by omega)) (rwr_ne _ _ _ (by omega))
          · exact absurd (hq9.no h53) (by intro z; cases z)
  refine v_iconst (v := 0) C dX3_layLines_0 (by decide) ?_
  refine v_topi (y := flS []) rfl ?_
  refine v_istore_n (lo' := [some (.ref (Z.ad 30)), some (.ref (Z.ad (100 + 10 * p))), some (.int (flS [])), none, none, none]) C dX3_layLines_1 rfl (Nat.le_of_ble_eq_true rfl) rfl rfl ?_
  refine v_iconst (v := 0) C dX3_layLines_2 (by decide) ?_
  refine v_topi (y := nI 0) rfl ?_
  refine v_istore_n (lo' := [some (.ref (Z.ad 30)), some (.ref (Z.ad (100 + 10 * p))), some (.int (flS [])), some (.int (nI 0)), none, none]) C dX3_layLines_3 rfl (Nat.le_of_ble_eq_true rfl) rfl rfl ?_
  exact loop (m + 1) 0 [] (fun _ => 0) g _ _ (by omega) (by omega) frC.rf rfl (fun i t hi => by cases hi) hlf rfl
