/-! THE CLASS: plans of a poster, its proof if it was set -/
theorem lfG_C {g : MG} {n p : Nat} (h5 : n ≤ 5) : frC g (lfG g n) p := ⟨fun k h1 _ => lfG_r (by omega), fun q j _ _ _ _ => by rw [lfG_r (by omega)]⟩
theorem lfG_I (g : MG) {n : Nat} : LfI (lfG g n) n (fun i j => g (40 + 10 * i + 2) j) (fun _ => 0) := by
  intro i hi j hj
  unfold lfG
  rw [if_pos (by omega), if_pos hj, show 40 + 10 * i + 4 - 2 = 40 + 10 * i + 2 by omega, Int32.sub_zero]
theorem lfG_I1 (g : MG) {n i c : Nat} (hi : i < n) : LfI (wr (lfG g n) (40 + 10 * i + 4) c (lfG g n (40 + 10 * i + 4) c + 1)) n (fun a j => if a = i ∧ j = c then g (40 + 10 * a + 2) j + 1 else g (40 + 10 * a + 2) j) (fun _ => 0) := by
  intro a ha j hj
  show wr (lfG g n) (40 + 10 * i + 4) c (lfG g n (40 + 10 * i + 4) c + 1) (40 + 10 * a + 4) j = (if a = i ∧ j = c then g (40 + 10 * a + 2) j + 1 else g (40 + 10 * a + 2) j) - 0
  by_cases e : a = i ∧ j = c
  · obtain ⟨e1, e2⟩ := e
    subst e1
    subst e2
    rw [if_pos ⟨rfl, rfl⟩, wr_same, lfG_I g a ha j hj, Int32.sub_zero, Int32.sub_zero]
  · rw [if_neg e, wr_ne _ _ _ _ (by omega)]
    exact lfG_I g a ha j hj
/-- the founts of a plan are there -/
theorem plA_n {okf : OK} {ot ht : Nat → Int32} {tall : Int32} {n : Nat} : ∀ (ws : List Nat) (acc : List (Nat × TS)) (mo : Nat → Int32) (a : List (Nat × TS) × (Nat → Int32)), n ≤ 5 → (∀ t ∈ acc, t.1 < n) → plA okf ot ht tall n ws acc mo = some a → ∀ t ∈ a.1, t.1 < n := by
  intro ws
  induction ws with
  | nil =>
    intro acc mo a h5 h e
    cases e
    exact h
  | cons w ws ih =>
    intro acc mo a h5 h e
    unfold plA at e
    cases hq : pl1 okf ot ht tall n mo w with
    | none => rw [hq] at e; cases e
    | some q =>
      rw [hq] at e
      refine ih _ _ _ h5 (fun t ht9 => ?_) e
      rw [List.mem_append] at ht9
      rcases ht9 with h9 | h9
      · exact h t h9
      · rw [List.mem_singleton] at h9
        subst h9
        unfold pl1 at hq
        split at hq
        · cases hq
        · next hn =>
          have hb := (bo_lt (fv := fvF okf ot mo w) (ht := ht) (tall := tall) n 0 (0, -1) (Or.inl rfl)).resolve_left hn
          obtain ⟨b, hb1, hb2⟩ := hb
          cases hc : tlR (okf mo (iz (boF okf ot ht tall n mo w))) ot w (szw w) ts0 with
          | none => rw [hc] at hq; cases hq
          | some s =>
            rw [hc] at hq
            cases hq
            show iz (boF okf ot ht tall n mo w) < n
            unfold boF
            rw [hb2, iz_nI (by omega)]
            omega
def plC (g : MG) (ot ht : Nat → Int32) (p m n : Nat) (wd : Nat → Nat) : Option (List (Nat × TS) × (Nat → Int32)) :=
  if g (100 + 10 * p) 3 = 0 ∧ ¬ m = 0 then plA (okC (fun i j => g (40 + 10 * i + 2) j)) ot ht (g (100 + 10 * p) 1) n (wds wd p 0 m) [] (fun _ => 0) else none
def plC1 (g : MG) (ot ht : Nat → Int32) (p m n : Nat) (wd : Nat → Nat) (i c : Nat) : Option (List (Nat × TS) × (Nat → Int32)) :=
  if (g (100 + 10 * p) 3 = 0 ∧ ¬ m = 0) ∧ g (40 + 10 * i + 1) c < 9 then plA (okC (fun a j => if a = i ∧ j = c then g (40 + 10 * a + 2) j + 1 else g (40 + 10 * a + 2) j)) ot ht (g (100 + 10 * p) 1) n (wds wd p 0 m) [] (fun _ => 0) else none
theorem rdy {x y : Int32} {m : Nat} (hy : y = nI m) (h4 : m ≤ 4) : (decide (x = 0) && !decide (y = 0)) = true ↔ x = 0 ∧ ¬ m = 0 := by
  have h : y = 0 ↔ m = 0 := by rw [hy]; exact nI_eq (b := 0) (by omega) (by decide)
  simp [h]
set_option maxRecDepth 100000 in
theorem c_plan (l : Launch) (Z : Zc) (p m n : Nat) (g : MG) (hP : PsP g p) (hm : g (100 + 10 * p + 1) 2 = nI m) (h4 : m ≤ 4) (hn : g 31 2 = nI n) (h5 : n ≤ 5) (ot : Nat → Int32) (hot : otI ot) (hoe : ∀ l, l < 10 → g 33 l = ot l) (ht : Nat → Int32) (hht : ∀ i, i < n → g (40 + 10 * i) 1 = ht i) (wd : Nat → Nat) (hW : ∀ q, q < m → LwP g p q (wd (4 * p + q))) : MI l yX3_plan cX3_plan 2 (some .int) (rmz 5 160 0 0) Z [.ref (Z.ad 30), .ref (Z.ad (100 + 10 * p))] g (fun r g' => frC g g' p ∧ (¬ g (100 + 10 * p) 3 = 0 → g' = g) ∧ plQC (plC g ot ht p m n wd) r g' p) := by
  refine ent_i (own := RX3) (lo := [some (.ref (Z.ad 30)), some (.ref (Z.ad (100 + 10 * p)))]) (by decide) rfl (by simp [lg_sl, Value.category]) rfl (fun P hl C ret => ?_)
  have hm4 := h4
  have hp6 := hP.lt
  have hC9 : frC g (lfG g n) p := lfG_C h5
  refine v_aload_n C dX3_plan_0 rfl rfl ?_
  refine v_callVi (n := 0) (as := []) C (c_isReady _ Z p g hP) (gv (tg1 188 rfl rfl) (tg1 189 rfl rfl) (tg1 190 rfl rfl) (tg1 20 rfl rfl) (tg1 191 rfl rfl)) (by decide +kernel) ⟨Nat.le_of_ble_eq_true rfl, Nat.le_of_ble_eq_true rfl⟩ rfl (cxP hP) rfl rfl (Nat.le_of_ble_eq_true rfl) dX3_plan_1 ⟨Nat.le_of_ble_eq_true rfl, Nat.le_of_ble_eq_true rfl⟩ (fun r1 g1 hp1 => ?_)
  obtain ⟨rfl, hg1⟩ := hp1
  rw [hg1]
  refine v_if_ne (tgt := 9) C dX3_plan_4 (by decide) (fun h4 => ?_) (fun h4 => ?_)
  · have hr9 := (rdy hm hm4).mp (bI_1.mp h4)
    have hpl : plC g ot ht p m n wd = plA (okC (fun i j => g (40 + 10 * i + 2) j)) ot ht (g (100 + 10 * p) 1) n (wds wd p 0 m) [] (fun _ => 0) := if_pos hr9
    rw [hpl] at ret
    refine v_aload_n C dX3_plan_9 rfl rfl ?_
    refine v_callVv (n := 0) (as := []) C (c_leaveAllFree _ Z n g hn h5) (gv (tg1 196 rfl rfl) (tg1 198 rfl rfl) (tg0 3 rfl rfl) (tg1 1 rfl rfl) (tg1 199 rfl rfl)) (by decide +kernel) ⟨Nat.le_of_ble_eq_true rfl, Nat.le_of_ble_eq_true rfl⟩ rfl cx_T rfl rfl (Nat.le_of_ble_eq_true rfl) dX3_plan_10 ⟨Nat.le_of_ble_eq_true rfl, Nat.le_of_ble_eq_true rfl⟩ (fun g10 hp10 => ?_)
    have hg10 := hp10
    rw [hg10]
    refine v_aload_n C dX3_plan_13 rfl rfl ?_
    refine v_aload_n C dX3_plan_14 rfl rfl ?_
    refine v_callVi (n := 1) (as := [.ref (Z.ad (100 + 10 * p))]) C (c_layLines _ Z p m n (lfG g n) _ (hC9.P hP) (by rw [hC9.1 _ (by omega) (by omega)]; exact hm) hm4 (by rw [hC9.1 31 (by omega) (by omega)]; exact hn) h5 ot hot (by rw [hC9.1 33 (by omega) (by omega)]; exact hoe) ht (fun i hi => by rw [hC9.1 _ (by omega) (by omega)]; exact hht i hi) wd (fun q hq => (hW q hq).frC hC9 (by omega)) (lfG_I g)) (gv (tg1 208 rfl rfl) (tg1 210 rfl rfl) (tg0 4 rfl rfl) (tg1 1 rfl rfl) (tg1 211 rfl rfl)) (by decide +kernel) ⟨Nat.le_of_ble_eq_true rfl, Nat.le_of_ble_eq_true rfl⟩ rfl cx_T rfl rfl (Nat.le_of_ble_eq_true rfl) dX3_plan_15 ⟨Nat.le_of_ble_eq_true rfl, Nat.le_of_ble_eq_true rfl⟩ (fun r15 g15 hp15 => ?_)
    obtain ⟨hfr9, hq9⟩ := hp15
    rw [hC9.1 (100 + 10 * p) (by omega) (by omega)] at hq9
    exact ret _ _ _ _ dX3_plan_18 ⟨hC9.trans hfr9, fun z => absurd hr9.1 z, hq9⟩
  · have hr9 := mt (rdy hm hm4).mpr (ne_true_of_eq_false (bI_0.mp h4))
    have hpl : plC g ot ht p m n wd = none := if_neg hr9
    refine v_iconst (v := (-1)) C dX3_plan_7 (by decide) ?_
    exact ret _ _ _ _ dX3_plan_8 ⟨frC.rf, fun _ => rfl, by rw [hpl]; exact rfl⟩
def prC (g : MG) (ht : Nat → Int32) (p m t : Nat) (wd : Nat → Nat) (o : Option (List (Nat × TS) × (Nat → Int32))) : Int32 := match o with
  | none => -1
  | some a => mx0 (sumI (fun k => ht (lfn a.1 k) * nI (szw (wd (4 * p + k)))) m * g 34 t - flS a.1 * g 35 t)
theorem flS_sum (L : List (Nat × TS)) : ∀ n, n ≤ L.length → sumI (fun k => lfl L k) n = flS (L.take n) := by
  intro n
  induction n with
  | zero => intro _; rfl
  | succ n ih =>
    intro h
    have hlt : n < L.length := by omega
    rw [sumI, ih (by omega), List.take_succ_eq_append_getElem hlt, flS_app]
    unfold lfl
    rw [List.getElem?_eq_getElem hlt]
theorem plC_I {g : MG} {ot ht : Nat → Int32} (hot : otI ot) {p m n : Nat} (h5 : n ≤ 5) {wd : Nat → Nat} {a : List (Nat × TS) × (Nat → Int32)} (h : plC g ot ht p m n wd = some a) : plI (wds wd p 0 m) a.1 ∧ (∀ t ∈ a.1, t.1 < n) ∧ a.1.length = m ∧ g (100 + 10 * p) 3 = 0 := by
  unfold plC at h
  split at h
  · next hr =>
    have h1 := plA_I h5 hot (wds wd p 0 m) [] [] (fun _ => 0) a ⟨rfl, fun i q hq => by cases hq⟩ h
    refine ⟨h1, plA_n (wds wd p 0 m) [] (fun _ => 0) a h5 (fun t ht9 => by cases ht9) h, ?_, hr.1⟩
    rw [h1.1, List.nil_append, wds_len, Nat.sub_zero]
  · cases h
set_option maxRecDepth 100000 in
theorem c_proofIfSet (l : Launch) (Z : Zc) (p m n t : Nat) (g : MG) (hP : PsP g p) (hm : g (100 + 10 * p + 1) 2 = nI m) (h4 : m ≤ 4) (hn : g 31 2 = nI n) (h5 : n ≤ 5) (ot : Nat → Int32) (hot : otI ot) (hoe : ∀ l, l < 10 → g 33 l = ot l) (ht : Nat → Int32) (hht : ∀ i, i < n → g (40 + 10 * i) 1 = ht i) (wd : Nat → Nat) (hW : ∀ q, q < m → LwP g p q (wd (4 * p + q))) (ht4 : t < 4) (het : g (100 + 10 * p) 0 = nI t) : MI l yX3_proofIfSet cX3_proofIfSet 2 (some .int) (rmz 6 190 0 0) Z [.ref (Z.ad 30), .ref (Z.ad (100 + 10 * p))] g (fun r g' => frC g g' p ∧ (¬ g (100 + 10 * p) 3 = 0 → g' = g) ∧ r = prC g ht p m t wd (plC g ot ht p m n wd)) := by
  refine ent_i (own := RX3) (lo := [some (.ref (Z.ad 30)), some (.ref (Z.ad (100 + 10 * p)))]) (by decide) rfl (by simp [lg_sl, Value.category]) rfl (fun P hl C ret => ?_)
  have hm4 := h4
  have hp6 := hP.lt
  refine v_aload_n C dX3_proofIfSet_0 rfl rfl ?_
  refine v_aload_n C dX3_proofIfSet_1 rfl rfl ?_
  refine v_callVi (n := 1) (as := [.ref (Z.ad (100 + 10 * p))]) C (c_plan _ Z p m n g hP hm hm4 hn h5 ot hot hoe ht hht wd hW) (gv (tg1 184 rfl rfl) (tg1 186 rfl rfl) (tg0 2 rfl rfl) (tg1 1 rfl rfl) (tg1 187 rfl rfl)) (by decide +kernel) ⟨Nat.le_of_ble_eq_true rfl, Nat.le_of_ble_eq_true rfl⟩ rfl cx_T rfl rfl (Nat.le_of_ble_eq_true rfl) dX3_proofIfSet_2 ⟨Nat.le_of_ble_eq_true rfl, Nat.le_of_ble_eq_true rfl⟩ (fun r2 g2 hp2 => ?_)
  obtain ⟨hfr9, hst9, hq9⟩ := hp2
  have hP2 := hfr9.P hP
  obtain ⟨o, ho⟩ : ∃ o, o = plC g ot ht p m n wd := ⟨_, rfl⟩
  rw [← ho] at hq9 ret
  refine v_iconst (v := (-1)) C dX3_proofIfSet_5 (by decide) ?_
  refine v_icmp_ne (tgt := 13) C dX3_proofIfSet_6 (by decide) (fun h6 => ?_) (fun h6 => ?_)
  · cases o with
    | none => exact absurd hq9 h6
    | some a =>
      obtain ⟨hI9, hn9, hlen9, hs9⟩ := plC_I hot h5 ho.symm
      have hln9 := hq9.2
      have hg9 : ∀ q, q < m → ∃ t9, a.1[q]? = some t9 ∧ t9.1 < n := fun q hq => ⟨a.1[q]'(by omega), List.getElem?_eq_getElem (by omega), hn9 _ (List.getElem_mem (by omega))⟩
      have hfo9 : ∀ q, q < m → ∃ i, FnP g2 i ∧ g2 (200 + 10 * (4 * p + q)) 3 = nI i := fun q hq => by obtain ⟨t9, h1, h2⟩ := hg9 q hq; exact ⟨t9.1, hfr9.F (FnP.mk hn h2 h5), (hln9 q t9 h1).1⟩
      refine v_aload_n C dX3_proofIfSet_13 rfl rfl ?_
      refine v_aload_n C dX3_proofIfSet_14 rfl rfl ?_
      refine v_callVi (n := 1) (as := [.ref (Z.ad (100 + 10 * p))]) C (c_proofAsLaid _ Z p m t g2 hP2 (by rw [hfr9.1 _ (by omega) (by omega)]; exact hm) hm4 hfo9 ht4 (by rw [hfr9.1 _ (by omega) (by omega)]; exact het)) (gv (tg2 62 rfl rfl) (tg2 64 rfl rfl) (tg0 9 rfl rfl) (tg1 1 rfl rfl) (tg2 65 rfl rfl)) (by decide +kernel) ⟨Nat.le_of_ble_eq_true rfl, Nat.le_of_ble_eq_true rfl⟩ rfl cx_T rfl rfl (Nat.le_of_ble_eq_true rfl) dX3_proofIfSet_15 ⟨Nat.le_of_ble_eq_true rfl, Nat.le_of_ble_eq_true rfl⟩ (fun r15 g15 hp15 => ?_)
      obtain ⟨rfl, hg15⟩ := hp15
      rw [hg15]
      have hpr : paL g2 p m t = prC g ht p m t wd (some a) := by
        unfold paL prC
        rw [hfr9.1 34 (by omega) (by omega), hfr9.1 35 (by omega) (by omega)]
        have e1 : sumI (fun q => g2 (40 + 10 * iz (g2 (200 + 10 * (4 * p + q)) 3)) 1 * g2 (200 + 10 * (4 * p + q)) 1) m = sumI (fun k => ht (lfn a.1 k) * nI (szw (wd (4 * p + k)))) m := sumI_cong m (fun q hq => by
          obtain ⟨t9, h1, h2⟩ := hg9 q hq
          have h3 := (hln9 q t9 h1).1
          show g2 (40 + 10 * iz (g2 (200 + 10 * (4 * p + q)) 3)) 1 * g2 (200 + 10 * (4 * p + q)) 1 = ht (lfn a.1 q) * nI (szw (wd (4 * p + q)))
          rw [h3, iz_nI (by omega), hfr9.2 q 1 (by omega) (by decide) (by decide) (by decide), (hW q hq).1, hfr9.1 _ (by omega) (by omega), hht t9.1 h2]
          unfold lfn
          rw [h1])
        have e2 : sumI (fun q => g2 (200 + 10 * (4 * p + q)) 4) m = flS a.1 := by
          rw [sumI_cong (h := fun k => lfl a.1 k) m (fun q hq => by obtain ⟨t9, h1, h2⟩ := hg9 q hq; show g2 (200 + 10 * (4 * p + q)) 4 = lfl a.1 q; unfold lfl; rw [h1]; exact (hln9 q t9 h1).2.1), flS_sum a.1 m (by omega), ← hlen9, List.take_length]
        rw [e1, e2]
      exact ret _ _ _ _ dX3_proofIfSet_18 ⟨hfr9, hst9, hpr⟩
  · have hon : o = none := by
      cases o with
      | none => rfl
      | some a =>
        exfalso
        obtain ⟨C, hC, hCe⟩ := plI_fl (plC_I hot h5 ho.symm).1
        have hlen := (plC_I hot h5 ho.symm).2.2.1
        exact nI_m1 (o := C) (by omega) ((hCe.symm.trans hq9.1.symm).trans h6)
    refine v_iconst (v := (-1)) C dX3_proofIfSet_9 (by decide) ?_
    refine v_goto (tgt := 18) C dX3_proofIfSet_10 (by decide) ?_
    exact ret _ _ _ _ dX3_proofIfSet_18 ⟨hfr9, hst9, by rw [hon]; rfl⟩
