/-! THE CLASS: a line that is laid of a fount -/
def okL (g : MG) (i k : Nat) (x : Int32) : Bool := decide (x < g (40 + 10 * i + 4) k)
/-- the block that a letter takes, or -1 -/
def bfW (ok : Nat → Int32 → Bool) (ot tk : Nat → Int32) (d : Nat) : Int32 := if ok d (tk d) then nI d else if ot d = -1 then -1 else if ok (iz (ot d)) (tk (iz (ot d))) then ot d else -1
theorem bf_tl {ok : Nat → Int32 → Bool} {ot tk : Nat → Int32} (hot : otI ot) {d : Nat} (hd : d < 10) {s : TS} (ht : ∀ l, l < 10 → tk l = s.1 l) : (bfW ok ot tk d = -1 ∧ tl1 ok ot s d = none) ∨ ∃ b, b < 10 ∧ bfW ok ot tk d = nI b ∧ tl1 ok ot s d = some (upd s.1 b (s.1 b + 1), s.2.1 + (if b = d then 0 else 1), 10 * s.2.2 + nI b) := by
  unfold bfW tl1
  rw [ht d hd]
  by_cases h1 : ok d (s.1 d) = true
  · rw [if_pos h1, if_pos h1]
    exact Or.inr ⟨d, hd, rfl, by rw [if_pos rfl, Int32.add_zero]⟩
  · rw [if_neg h1, if_neg h1]
    rcases hot d hd with h2 | ⟨o, ho, hod, h2⟩
    · rw [if_pos h2, if_pos h2]
      exact Or.inl ⟨rfl, rfl⟩
    · rw [h2, if_neg (nI_m1 (by omega)), if_neg (nI_m1 (by omega)), iz_nI (by omega), ht o ho]
      by_cases h3 : ok o (s.1 o) = true
      · rw [if_pos h3, if_pos h3]
        exact Or.inr ⟨o, ho, rfl, by rw [if_neg hod]⟩
      · rw [if_neg h3, if_neg h3]
        exact Or.inl ⟨rfl, rfl⟩
/-- only how line q of poster p is laid is written -/
def frL (g g' : MG) (p q : Nat) : Prop := (∀ k, k ≠ 200 + 10 * (4 * p + q) → k ≠ 200 + 10 * (4 * p + q) + 2 → g' k = g k) ∧ ∀ j, j ≠ 3 → j ≠ 4 → j ≠ 5 → g' (200 + 10 * (4 * p + q)) j = g (200 + 10 * (4 * p + q)) j
theorem frL.rf {g : MG} {p q : Nat} : frL g g p q := ⟨fun _ _ _ => rfl, fun _ _ _ _ => rfl⟩
theorem frL.trans {a b c : MG} {p q : Nat} (h1 : frL a b p q) (h2 : frL b c p q) : frL a c p q := ⟨fun k x y => (h2.1 k x y).trans (h1.1 k x y), fun j x y z => (h2.2 j x y z).trans (h1.2 j x y z)⟩
theorem frL.F {g g' : MG} {p q i : Nat} (h : frL g g' p q) (hF : FnP g i) : FnP g' i := hF.e (h.1 31 (by omega) (by omega))
theorem frL.P {g g' : MG} {p q i : Nat} (h : frL g g' p q) (hF : PsP g i) : PsP g' i := hF.e (h.1 32 (by omega) (by omega))
theorem frL.L {g g' : MG} {p q a b : Nat} (h : frL g g' p q) (hL : LnP g a b) : LnP g' a b := hL.e (h.1 32 (by omega) (by omega)) (h.1 _ (by have := hL.lt; omega) (by have := hL.lt; omega))
/-- how far line q of poster p is laid of fount i -/
def laI (g g' : MG) (p q i : Nat) (s : TS) : Prop := frL g g' p q ∧ g' (200 + 10 * (4 * p + q)) 3 = nI i ∧ g' (200 + 10 * (4 * p + q)) 4 = s.2.1 ∧ g' (200 + 10 * (4 * p + q)) 5 = s.2.2 ∧ ∀ l, l < 10 → g' (200 + 10 * (4 * p + q) + 2) l = s.1 l
theorem laI_0 (g : MG) (p q i : Nat) : laI g (wr (wr (wr (rwr g (200 + 10 * (4 * p + q) + 2) (fun j => if j < 10 then 0 else g (200 + 10 * (4 * p + q) + 2) j)) (200 + 10 * (4 * p + q)) 3 (nI i)) (200 + 10 * (4 * p + q)) 4 0) (200 + 10 * (4 * p + q)) 5 0) p q i ts0 := by
  refine ⟨⟨fun k h1 h2 => ?_, fun j h1 h2 h3 => ?_⟩, ?_, ?_, ?_, fun l hl => ?_⟩
  · rw [wr_row _ _ _ _ h1, wr_row _ _ _ _ h1, wr_row _ _ _ _ h1, rwr_ne _ _ _ h2]
  · rw [wr_ne _ _ _ _ (Or.inr h3), wr_ne _ _ _ _ (Or.inr h2), wr_ne _ _ _ _ (Or.inr h1), rwr_ne _ _ _ (by omega)]
  · rw [wr_ne _ _ _ _ (Or.inr (by decide)), wr_ne _ _ _ _ (Or.inr (by decide)), wr_same]
  · rw [wr_ne _ _ _ _ (Or.inr (by decide)), wr_same]; rfl
  · rw [wr_same]; rfl
  · rw [wr_row _ _ _ _ (by omega), wr_row _ _ _ _ (by omega), wr_row _ _ _ _ (by omega), rwr_same, if_pos hl]; rfl
theorem laI_put {g g1 : MG} {p q i : Nat} {s : TS} (h : laI g g1 p q i s) {b : Nat} (hb : b < 10) {x : Int32} : laI g (wr (wr (wr g1 (200 + 10 * (4 * p + q) + 2) b (g1 (200 + 10 * (4 * p + q) + 2) b + 1)) (200 + 10 * (4 * p + q)) 5 (g1 (200 + 10 * (4 * p + q)) 5 * 10 + nI b)) (200 + 10 * (4 * p + q)) 4 (g1 (200 + 10 * (4 * p + q)) 4 + x)) p q i (upd s.1 b (s.1 b + 1), s.2.1 + x, 10 * s.2.2 + nI b) := by
  obtain ⟨⟨ha, hb1⟩, h3, h4, h5, h6⟩ := h
  refine ⟨⟨fun k h1 h2 => ?_, fun j h1 h2 h3 => ?_⟩, ?_, ?_, ?_, fun l hl => ?_⟩
  · rw [wr_row _ _ _ _ h1, wr_row _ _ _ _ h1, wr_row _ _ _ _ h2, ha k h1 h2]
  · rw [wr_ne _ _ _ _ (Or.inr h2), wr_ne _ _ _ _ (Or.inr h3), wr_row _ _ _ _ (by omega), hb1 j h1 h2 h3]
  · rw [wr_ne _ _ _ _ (Or.inr (by decide)), wr_ne _ _ _ _ (Or.inr (by decide)), wr_row _ _ _ _ (by omega), h3]
  · rw [wr_same, h4]
  · rw [wr_ne _ _ _ _ (Or.inr (by decide)), wr_same, h5, Int32.mul_comm]
  · rw [wr_row _ _ _ _ (by omega), wr_row _ _ _ _ (by omega), h6 b hb]
    exact up_row _ h6 l hl
def layQ (o : Option TS) (r : Int32) (g g' : MG) (p q i : Nat) : Prop := frL g g' p q ∧ match o with
  | none => r = 0
  | some s => r = 1 ∧ laI g g' p q i s
theorem layQ.fr {o : Option TS} {r : Int32} {g g' : MG} {p q i : Nat} (h : layQ o r g g' p q i) : frL g g' p q := h.1
theorem layQ.no {o : Option TS} {r : Int32} {g g' : MG} {p q i : Nat} (h : layQ o r g g' p q i) (hr : r = 0) : o = none := by
  cases o with
  | none => rfl
  | some s => rw [h.2.1] at hr; exact absurd hr (by decide)
theorem layQ.yes {o : Option TS} {r : Int32} {g g' : MG} {p q i : Nat} (h : layQ o r g g' p q i) (hr : ¬ r = 0) : ∃ s, o = some s ∧ laI g g' p q i s := by
  cases o with
  | none => exact absurd h.2 hr
  | some s => exact ⟨s, rfl, h.2.2⟩
/-- a line's word as it lies there -/
def LwP (g : MG) (p q w : Nat) : Prop := g (200 + 10 * (4 * p + q)) 1 = nI (szw w) ∧ szw w ≤ 8 ∧ ∀ c, c < szw w → g (200 + 10 * (4 * p + q) + 1) c = nI (w / 10 ^ (szw w - 1 - c) % 10)
theorem LwP.fr {g g' : MG} {p q a b w : Nat} (h : LwP g a b w) (hf : frL g g' p q) : LwP g' a b w := by
  have e2 : g' (200 + 10 * (4 * a + b) + 1) = g (200 + 10 * (4 * a + b) + 1) := hf.1 _ (by omega) (by omega)
  have e1 : g' (200 + 10 * (4 * a + b)) 1 = g (200 + 10 * (4 * a + b)) 1 := by
    by_cases hk : 200 + 10 * (4 * a + b) = 200 + 10 * (4 * p + q)
    · rw [hk]; exact hf.2 1 (by decide) (by decide) (by decide)
    · rw [hf.1 _ hk (by omega)]
  unfold LwP
  rw [e1, e2]
  exact h
theorem nI_0le {n : Nat} (h : n < 2 ^ 31) : ¬ nI n < 0 := nI_pos h
set_option maxRecDepth 100000 in
theorem c_blockFor (l : Launch) (Z : Zc) (d p q i : Nat) (g : MG) (hd : d < 10) (hL : LnP g p q) (hF : FnP g i) (ot : Nat → Int32) (hot : otI ot) (hoe : ∀ l, l < 10 → g 33 l = ot l) : MI l yX3_blockFor cX3_blockFor 5 (some .int) (rmz 0 0 0 0) Z [.ref (Z.ad 30), .int (nI d), .ref (Z.ad (200 + 10 * (4 * p + q))), .ref (Z.ad (40 + 10 * i))] g (fun r g' => r = bfW (okL g i) ot (g (200 + 10 * (4 * p + q) + 2)) d ∧ g' = g) := by
  refine ent_i (own := RX3) (lo := [some (.ref (Z.ad 30)), some (.int (nI d)), some (.ref (Z.ad (200 + 10 * (4 * p + q)))), some (.ref (Z.ad (40 + 10 * i))), none]) (by decide) rfl (by simp [lg_sl, Value.category]) rfl (fun P hl C ret => ?_)
  refine v_aload_n C dX3_blockFor_0 rfl rfl ?_
  refine v_get C inG1 rfl 2 (by decide) (tg4 194 rfl rfl) rfl (cxLn hL) rfl dX3_blockFor_1 ?_
  refine v_iload_n C dX3_blockFor_4 rfl rfl ?_
  refine v_ialdN (a := d) C (cxLt hL) ⟨hd, by decide⟩ dX3_blockFor_5 ?_
  refine v_aload_n C dX3_blockFor_6 rfl rfl ?_
  refine v_get C inG0 rfl 5 (by decide) (tg5 56 rfl rfl) rfl (cxF hF) rfl dX3_blockFor_7 ?_
  refine v_iload_n C dX3_blockFor_10 rfl rfl ?_
  refine v_ialdN (a := d) C (cxFa 4 hF (by decide)) ⟨hd, by decide⟩ dX3_blockFor_11 ?_
  refine v_icmp_ge (tgt := 17) C dX3_blockFor_12 (by decide) (fun h12 => ?_) (fun h12 => ?_)
  · have h12 : ¬ g (200 + 10 * (4 * p + q) + 2) d < g (40 + 10 * i + 4) d := fun z => lt_le.mpr z h12
    refine v_aload_n C dX3_blockFor_17 rfl rfl ?_
    refine v_get C inG3 rfl 2 (by decide) (tg1 68 rfl rfl) rfl cx_T rfl dX3_blockFor_18 ?_
    refine v_iload_n C dX3_blockFor_21 rfl rfl ?_
    refine v_ialdN (a := d) C cx_O ⟨hd, by decide⟩ dX3_blockFor_22 ?_
    refine v_topi (y := ot d) (hoe d hd) ?_
    refine v_istore (lo' := [some (.ref (Z.ad 30)), some (.int (nI d)), some (.ref (Z.ad (200 + 10 * (4 * p + q)))), some (.ref (Z.ad (40 + 10 * i))), some (.int (ot d))]) C dX3_blockFor_23 (Nat.le_of_ble_eq_true rfl) rfl rfl ?_
    obtain ho | ⟨o, ho, -, hoo⟩ := hot d hd
    · refine v_lo (lo' := [some (.ref (Z.ad 30)), some (.int (nI d)), some (.ref (Z.ad (200 + 10 * (4 * p + q)))), some (.ref (Z.ad (40 + 10 * i))), some (.int (-1))]) (by rw [ho]) ?_
      refine v_iload C dX3_blockFor_25 rfl ?_
      refine v_if_lt (tgt := 50) C dX3_blockFor_27 (by decide) (fun h27 => ?_) (fun h27 => ?_)
      · refine v_iconst (v := (-1)) C dX3_blockFor_50 (by decide) ?_
        exact ret _ _ _ _ dX3_blockFor_51 ⟨by unfold bfW; rw [if_neg (by unfold okL; exact fun z => h12 (of_decide_eq_true z)), if_pos ho], rfl⟩
      · exact absurd (show (-1 : Int32) < 0 by decide) h27
    · refine v_lo (lo' := [some (.ref (Z.ad 30)), some (.int (nI d)), some (.ref (Z.ad (200 + 10 * (4 * p + q)))), some (.ref (Z.ad (40 + 10 * i))), some (.int (nI o))]) (by rw [hoo]) ?_
      refine v_iload C dX3_blockFor_25 rfl ?_
      refine v_if_lt (tgt := 50) C dX3_blockFor_27 (by decide) (fun h27 => ?_) (fun h27 => ?_)
      · exact absurd h27 (nI_pos (by omega))
      · refine v_aload_n C dX3_blockFor_30 rfl rfl ?_
        refine v_get C inG1 rfl 2 (by decide) (tg4 194 rfl rfl) rfl (cxLn hL) rfl dX3_blockFor_31 ?_
        refine v_iload C dX3_blockFor_34 rfl ?_
        refine v_ialdN (a := o) C (cxLt hL) ⟨ho, by decide⟩ dX3_blockFor_36 ?_
        refine v_aload_n C dX3_blockFor_37 rfl rfl ?_
        refine v_get C inG0 rfl 5 (by decide) (tg5 56 rfl rfl) rfl (cxF hF) rfl dX3_blockFor_38 ?_
        refine v_iload C dX3_blockFor_41 rfl ?_
        refine v_ialdN (a := o) C (cxFa 4 hF (by decide)) ⟨ho, by decide⟩ dX3_blockFor_43 ?_
        refine v_icmp_ge (tgt := 50) C dX3_blockFor_44 (by decide) (fun h44 => ?_) (fun h44 => ?_)
        · refine v_iconst (v := (-1)) C dX3_blockFor_50 (by decide) ?_
          exact ret _ _ _ _ dX3_blockFor_51 ⟨by unfold bfW; rw [if_neg (by unfold okL; exact fun z => h12 (of_decide_eq_true z)), hoo, if_neg (nI_m1 (by omega)), iz_nI (by omega), if_neg (by unfold okL; exact fun z => lt_le.mpr (of_decide_eq_true z) h44)], rfl⟩
        · refine v_iload C dX3_blockFor_47 rfl ?_
          exact ret _ _ _ _ dX3_blockFor_49 ⟨by unfold bfW; rw [if_neg (by unfold okL; exact fun z => h12 (of_decide_eq_true z)), hoo, if_neg (nI_m1 (by omega)), iz_nI (by omega), if_pos (by unfold okL; exact decide_eq_true (lt_le.mp h44))], rfl⟩
  · have h12 := lt_le.mp h12
    refine v_iload_n C dX3_blockFor_15 rfl rfl ?_
    exact ret _ _ _ _ dX3_blockFor_16 ⟨by unfold bfW; rw [if_pos (by unfold okL; exact decide_eq_true h12)], rfl⟩
set_option maxRecDepth 100000 in
theorem c_lay (l : Launch) (Z : Zc) (p q i w : Nat) (g : MG) (hL : LnP g p q) (hF : FnP g i) (hw : LwP g p q w) (ot : Nat → Int32) (hot : otI ot) (hoe : ∀ l, l < 10 → g 33 l = ot l) : MI l yX3_lay cX3_lay 6 (some .boolean) (rmz 2 60 0 0) Z [.ref (Z.ad 30), .ref (Z.ad (200 + 10 * (4 * p + q))), .ref (Z.ad (40 + 10 * i))] g (fun r g' => layQ (tlR (okL g i) ot w (szw w) ts0) r g g' p q i) := by
  refine ent_z (own := RX3) (lo := [some (.ref (Z.ad 30)), some (.ref (Z.ad (200 + 10 * (4 * p + q)))), some (.ref (Z.ad (40 + 10 * i))), none, none, none]) (by decide) rfl (by simp [lg_sl, Value.category]) rfl (fun P hl C ret => ?_)
  have hp6 := hL.lt
  have hi5 := hF.lt
  have loop : ∀ (n : Nat) (c : Nat) (s : TS) (g1 : MG) (v v2 : Option Value), szw w - c < n → c ≤ szw w → laI g g1 p q i s → tlR (okL g i) ot w (szw w - c) s = tlR (okL g i) ot w (szw w) ts0 → V P (rmz 2 60 0 0) Z [some (.ref (Z.ad 30)), some (.ref (Z.ad (200 + 10 * (4 * p + q)))), some (.ref (Z.ad (40 + 10 * i))), some (.int (nI c)), v, v2] 7 [] g1 0 0 := by
    intro n
    induction n with
    | zero => intro c s g1 v v2 hn hc hI he; exact absurd hn (Nat.not_lt_zero _)
    | succ n ih =>
      intro c s g1 v v2 hn hc hI he
      have hL1 := hI.1.L hL
      have hF1 := hI.1.F hF
      refine v_iload_n C dX3_lay_7 rfl rfl ?_
      refine v_aload_n C dX3_lay_8 rfl rfl ?_
      refine v_get C inG1 rfl 1 (by decide) (tg4 190 rfl rfl) rfl (cxLn hL1) rfl dX3_lay_9 ?_
      refine v_topi (y := nI (szw w)) ((hI.1.2 1 (by decide) (by decide) (by decide)).trans hw.1) ?_
      refine v_icmp_ge (tgt := 65) C dX3_lay_12 (by decide) (fun h12 => ?_) (fun h12 => ?_)
      · have hcn : c = szw w := Nat.le_antisymm hc ((nI_leI (by have := hw.2.1; omega) (by have := hw.2.1; omega)).mp h12)
        rw [hcn, Nat.sub_self] at he
        refine v_iconst (v := 1) C dX3_lay_65 (by decide) ?_
        exact ret _ _ _ _ dX3_lay_66 (by decide) ⟨hI.1, by rw [← he]; exact ⟨rfl, hI⟩⟩
      · have hcn : c < szw w := Nat.lt_of_not_le fun z => h12 ((nI_leI (by have := hw.2.1; omega) (by have := hw.2.1; omega)).mpr z)
        obtain ⟨m, hm⟩ : ∃ m, szw w - c = m + 1 := ⟨szw w - c - 1, by omega⟩
        have hmc : szw w - 1 - c = m := by omega
        have hd : w / 10 ^ m % 10 < 10 := Nat.mod_lt _ (by decide)
        obtain ⟨d, hde⟩ : ∃ d, d = w / 10 ^ m % 10 := ⟨_, rfl⟩
        rw [← hde] at hd
        rw [hm] at he
        have he2 : (tl1 (okL g i) ot s d).bind (tlR (okL g i) ot w m) = tlR (okL g i) ot w (szw w) ts0 := by rw [hde]; exact he
        refine v_aload_n C dX3_lay_15 rfl rfl ?_
        refine v_get C inG1 rfl 0 (by decide) (tg4 187 rfl rfl) rfl (cxLn hL1) rfl dX3_lay_16 ?_
        refine v_iload_n C dX3_lay_19 rfl rfl ?_
        refine v_ialdN (a := c) C (cxLl hL1) ⟨by have := hw.2.1; omega, by decide⟩ dX3_lay_20 ?_
        refine v_topi (y := nI d) (by rw [hI.1.1 _ (by omega) (by omega), hw.2.2 c hcn, hmc, hde]) ?_
        refine v_istore (lo' := [some (.ref (Z.ad 30)), some (.ref (Z.ad (200 + 10 * (4 * p + q)))), some (.ref (Z.ad (40 + 10 * i))), some (.int (nI c)), some (.int (nI d)), v2]) C dX3_lay_21 (Nat.le_of_ble_eq_true rfl) rfl rfl ?_
        refine v_aload_n C dX3_lay_23 rfl rfl ?_
        refine v_iload C dX3_lay_24 rfl ?_
        refine v_aload_n C dX3_lay_26 rfl rfl ?_
        refine v_aload_n C dX3_lay_27 rfl rfl ?_
        have hoe1 : ∀ l, l < 10 → g1 33 l = ot l := by rw [hI.1.1 33 (by omega) (by omega)]; exact hoe
        have hok : okL g1 i = okL g i := by funext k x; unfold okL; rw [hI.1.1 _ (by omega) (by omega)]
        refine v_callVi (n := 3) (as := [.int (nI d), .ref (Z.ad (200 + 10 * (4 * p + q))), .ref (Z.ad (40 + 10 * i))]) C (c_blockFor _ Z d p q i g1 hd hL1 hF1 ot hot hoe1) (gv (tg1 226 rfl rfl) (tg1 228 rfl rfl) (tg0 7 rfl rfl) (tg1 1 rfl rfl) (tg1 229 rfl rfl)) (by decide +kernel) ⟨Nat.le_of_ble_eq_true rfl, Nat.le_of_ble_eq_true rfl⟩ rfl cx_T rfl rfl (Nat.le_of_ble_eq_true rfl) dX3_lay_28 ⟨Nat.le_of_ble_eq_true rfl, Nat.le_of_ble_eq_true rfl⟩ (fun r28 g28 hp28 => ?_)
        obtain ⟨rfl, hg28⟩ := hp28
        rw [hg28]
        obtain ⟨hbm, htn⟩ | ⟨b, hb, hbe, htl⟩ := bf_tl (ok := okL g i) (tk := g1 (200 + 10 * (4 * p + q) + 2)) hot hd hI.2.2.2.2
        · refine v_topi (y := -1) (by rw [hok]; exact hbm) ?_
          refine v_istore (lo' := [some (.ref (Z.ad 30)), some (.ref (Z.ad (200 + 10 * (4 * p + q)))), some (.ref (Z.ad (40 + 10 * i))), some (.int (nI c)), some (.int (nI d)), some (.int (-1))]) C dX3_lay_31 (Nat.le_of_ble_eq_true rfl) rfl rfl ?_
          refine v_iload C dX3_lay_33 rfl ?_
          refine v_iconst (v := (-1)) C dX3_lay_35 (by decide) ?_
          refine v_icmp_ne (tgt := 41) C dX3_lay_36 (by decide) (fun h36 => ?_) (fun h36 => ?_)
          · exact absurd rfl h36
          · rw [htn] at he2
            refine v_iconst (v := 0) C dX3_lay_39 (by decide) ?_
            exact ret _ _ _ _ dX3_lay_40 (by decide) ⟨hI.1, by rw [← he2]; exact rfl⟩
        · refine v_topi (y := nI b) (by rw [hok]; exact hbe) ?_
          refine v_istore (lo' := [some (.ref (Z.ad 30)), some (.ref (Z.ad (200 + 10 * (4 * p + q)))), some (.ref (Z.ad (40 + 10 * i))), some (.int (nI c)), some (.int (nI d)), some (.int (nI b))]) C dX3_lay_31 (Nat.le_of_ble_eq_true rfl) rfl rfl ?_
          refine v_iload C dX3_lay_33 rfl ?_
          refine v_iconst (v := (-1)) C dX3_lay_35 (by decide) ?_
          refine v_icmp_ne (tgt := 41) C dX3_lay_36 (by decide) (fun h36 => ?_) (fun h36 => ?_)
          · refine v_aload_n C dX3_lay_41 rfl rfl ?_
            refine v_iload C dX3_lay_42 rfl ?_
            refine v_iload C dX3_lay_44 rfl ?_
            refine v_iload C dX3_lay_46 rfl ?_
            refine v_icmp_eq (tgt := 55) C dX3_lay_48 (by decide) (fun h48 => ?_) (fun h48 => ?_)
            · have hbd : b = d := nI_inj (by omega) (by omega) h48
              refine v_iconst (v := 0) C dX3_lay_55 (by decide) ?_
              refine v_callVv (n := 2) (as := [.int (nI b), .int 0]) C (c_put _ Z p q b 0 g1 hL1 hb) (gv (tg1 230 rfl rfl) (tg1 231 rfl rfl) (tg1 232 rfl rfl) (tg1 28 rfl rfl) (tg1 233 rfl rfl)) (by decide +kernel) ⟨Nat.le_of_ble_eq_true rfl, Nat.le_of_ble_eq_true rfl⟩ rfl (cxLn hL1) rfl rfl (Nat.le_of_ble_eq_true rfl) dX3_lay_56 ⟨Nat.le_of_ble_eq_true rfl, Nat.le_of_ble_eq_true rfl⟩ (fun g56 hp56 => ?_)
              have hg56 := hp56
              rw [hg56]
              refine v_iinc (lo' := [some (.ref (Z.ad 30)), some (.ref (Z.ad (200 + 10 * (4 * p + q)))), some (.ref (Z.ad (40 + 10 * i))), some (.int ((nI c) + 1)), some (.int (nI d)), some (.int (nI b))]) C dX3_lay_59 rfl rfl rfl rfl ?_
              refine v_lo (lo' := [some (.ref (Z.ad 30)), some (.ref (Z.ad (200 + 10 * (4 * p + q)))), some (.ref (Z.ad (40 + 10 * i))), some (.int (nI (c + 1))), some (.int (nI d)), some (.int (nI b))]) (by rw [← nI_1 c]) ?_
              refine v_goto (tgt := 7) C dX3_lay_62 (by decide) ?_
              rw [htl] at he2
              have hxx : (if b = d then (0 : Int32) else 1) = (if (0 : Int32) = 0 then 0 else 1) := by rw [if_pos hbd]; rfl
              rw [hxx] at he2
              exact ih (c + 1) _ _ _ _ (by omega) (by omega) (laI_put hI hb) (by rw [show szw w - (c + 1) = m by omega]; exact he2)
            · have hbd : ¬ b = d := fun z => h48 (by rw [z])
              refine v_iconst (v := 1) C dX3_lay_51 (by decide) ?_
              refine v_goto (tgt := 56) C dX3_lay_52 (by decide) ?_
              refine v_callVv (n := 2) (as := [.int (nI b), .int 1]) C (c_put _ Z p q b 1 g1 hL1 hb) (gv (tg1 230 rfl rfl) (tg1 231 rfl rfl) (tg1 232 rfl rfl) (tg1 28 rfl rfl) (tg1 233 rfl rfl)) (by decide +kernel) ⟨Nat.le_of_ble_eq_true rfl, Nat.le_of_ble_eq_true rfl⟩ rfl (cxLn hL1) rfl rfl (Nat.le_of_ble_eq_true rfl) dX3_lay_56 ⟨Nat.le_of_ble_eq_true rfl, Nat.le_of_ble_eq_true rfl⟩ (fun g56 hp56 => ?_)
              have hg56 := hp56
              rw [hg56]
              refine v_iinc (lo' := [some (.ref (Z.ad 30)), some (.ref (Z.ad (200 + 10 * (4 * p + q)))), some (.ref (Z.ad (40 + 10 * i))), some (.int ((nI c) + 1)), some (.int (nI d)), some (.int (nI b))]) C dX3_lay_59 rfl rfl rfl rfl ?_
              refine v_lo (lo' := [some (.ref (Z.ad 30)), some (.ref (Z.ad (200 + 10 * (4 * p + q)))), some (.ref (Z.ad (40 + 10 * i))), some (.int (nI (c + 1))), some (.int (nI d)), some (.int (nI b))]) (by rw [← nI_1 c]) ?_
              refine v_goto (tgt := 7) C dX3_lay_62 (by decide) ?_
              rw [htl] at he2
              have hxx : (if b = d then (0 : Int32) else 1) = (if (1 : Int32) = 0 then 0 else 1) := by rw [if_neg hbd]; rfl
              rw [hxx] at he2
              exact ih (c + 1) _ _ _ _ (by omega) (by omega) (laI_put hI hb) (by rw [show szw w - (c + 1) = m by omega]; exact he2)
          · exact absurd h36 (nI_m1 (by omega))
  refine v_aload_n C dX3_lay_0 rfl rfl ?_
  refine v_aload_n C dX3_lay_1 rfl rfl ?_
  refine v_callVv (n := 1) (as := [.ref (Z.ad (40 + 10 * i))]) C (c_startIn _ Z i p q g hF hL) (gv (tg1 221 rfl rfl) (tg1 222 rfl rfl) (tg1 223 rfl rfl) (tg1 28 rfl rfl) (tg1 224 rfl rfl)) (by decide +kernel) ⟨Nat.le_of_ble_eq_true rfl, Nat.le_of_ble_eq_true rfl⟩ rfl (cxLn hL) rfl rfl (Nat.le_of_ble_eq_true rfl) dX3_lay_2 ⟨Nat.le_of_ble_eq_true rfl, Nat.le_of_ble_eq_true rfl⟩ (fun g2 hp2 => ?_)
  have hg2 := hp2
  rw [hg2]
  refine v_iconst (v := 0) C dX3_lay_5 (by decide) ?_
  refine v_topi (y := nI 0) rfl ?_
  refine v_istore_n (lo' := [some (.ref (Z.ad 30)), some (.ref (Z.ad (200 + 10 * (4 * p + q)))), some (.ref (Z.ad (40 + 10 * i))), some (.int (nI 0)), none, none]) C dX3_lay_6 rfl (Nat.le_of_ble_eq_true rfl) rfl rfl ?_
  exact loop (szw w + 1) 0 ts0 _ _ _ (by omega) (by omega) (laI_0 g p q i) (by rw [Nat.sub_zero])
