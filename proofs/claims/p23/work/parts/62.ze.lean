/-! THE INVARIANTS: set, print, strike -/
/-- a try takes no more than there is -/
theorem tlR_le {F : Nat → Int32} (hF : ∀ k, k < 10 → -100000 ≤ (F k).toInt ∧ (F k).toInt ≤ 100000) {ot : Nat → Int32} (hot : otI ot) (w : Nat) : ∀ (n m : Nat) (s s' : TS), TSI m s → m + n ≤ 20 → (∀ l, l < 10 → (s.1 l).toInt ≤ (F l).toInt) → tlR (fun k x => decide (0 < F k - x)) ot w n s = some s' → ∀ l, l < 10 → (s'.1 l).toInt ≤ (F l).toInt := by
  have z0 : (0 : Int32).toInt = 0 := rfl
  have z1 : (1 : Int32).toInt = 1 := rfl
  intro n
  induction n with
  | zero => intro m s s' _ _ hs he; cases he; exact hs
  | succ n ih =>
    intro m s s' hT hmn hs he
    unfold tlR at he
    cases h1 : tl1 (fun k x => decide (0 < F k - x)) ot s (w / 10 ^ n % 10) with
    | none => rw [h1] at he; cases he
    | some s1 =>
      rw [h1] at he
      have hd : w / 10 ^ n % 10 < 10 := Nat.mod_lt _ (by decide)
      refine ih (m + 1) s1 s' (TSI_step hot hT hd h1) (by omega) ?_ he
      have up : ∀ b, b < 10 → decide (0 < F b - s.1 b) = true → ∀ l, l < 10 → (upd s.1 b (s.1 b + 1) l).toInt ≤ (F l).toInt := by
        intro b hb hok l hl
        unfold upd
        by_cases hlb : l = b
        · rw [if_pos hlb, hlb]
          obtain ⟨x, hx, hxe⟩ := hT.2.2 b
          obtain ⟨f1, f2⟩ := hF b hb
          have hx2 : (s.1 b).toInt = x := by rw [hxe]; exact nI_toInt (by omega)
          have h2 := of_decide_eq_true hok
          rw [i_lt, ti_sub (by omega) (by omega), z0] at h2
          rw [ti_add (by rw [z1]; omega) (by rw [z1]; omega), z1]
          omega
        · rw [if_neg hlb]; exact hs l hl
      unfold tl1 at h1
      split at h1
      · next hok => cases h1; exact up _ hd hok
      · split at h1
        · cases h1
        · next hne =>
          split at h1
          · next hok =>
            cases h1
            obtain ⟨o, ho, -, hoe⟩ := (hot _ hd).resolve_left hne
            have : iz (ot (w / 10 ^ n % 10)) < 10 := by rw [hoe, iz_nI (by omega)]; exact ho
            exact up _ this hok
          · cases h1
theorem pl1_tl {okf : OK} {ot ht : Nat → Int32} {tall : Int32} {nf : Nat} {mo : Nat → Int32} {w : Nat} {q : Nat × TS} (h : pl1 okf ot ht tall nf mo w = some q) : tlR (okf mo q.1) ot w (szw w) ts0 = some q.2 := by
  unfold pl1 at h
  split at h
  · cases h
  · cases hc : tlR (okf mo (iz (boF okf ot ht tall nf mo w))) ot w (szw w) ts0 with
    | none => rw [hc] at h; cases h
    | some s => rw [hc] at h; cases h; exact hc
/-- a plan takes no more than there is -/
theorem plA_le {bl ou : Nat → Int32} (hb : ∀ j, j < 50 → (-90000 ≤ (ou j).toInt ∧ (ou j).toInt ≤ 90000) ∧ (ou j).toInt ≤ (bl j).toInt ∧ (bl j).toInt ≤ 9) {ot ht : Nat → Int32} {tall : Int32} {nf : Nat} (h5 : nf ≤ 5) (hot : otI ot) : ∀ (ws : List Nat) (acc : List (Nat × TS)) (mo : Nat → Int32) (a : List (Nat × TS) × (Nat → Int32)) (c : Nat), Rm c mo mo → c + 10 * ws.length ≤ 40 → (∀ j, j < 50 → 0 ≤ (bl j - ou j - mo j).toInt) → plA (okA bl ou) ot ht tall nf ws acc mo = some a → Rm 40 a.2 a.2 ∧ ∀ j, j < 50 → 0 ≤ (bl j - ou j - a.2 j).toInt := by
  intro ws
  induction ws with
  | nil => intro acc mo a c hR hc hm he; cases he; exact ⟨hR.mono (by simpa using hc), hm⟩
  | cons w ws ih =>
    intro acc mo a c hR hc hm he
    rw [List.length_cons] at hc
    unfold plA at he
    cases hq : pl1 (okA bl ou) ot ht tall nf mo w with
    | none => rw [hq] at he; cases he
    | some q =>
      rw [hq] at he
      have hT := pl1_TSI hot hq
      refine ih _ _ a (c + 10) (Rm_spd hR hT szw_le) (by omega) (fun j hj => ?_) he
      have hq5 := pl1_lt h5 hq
      have key : ∀ k, k < 10 → (bl (10 * q.1 + k) - ou (10 * q.1 + k) - mo (10 * q.1 + k)).toInt = (bl (10 * q.1 + k)).toInt - (ou (10 * q.1 + k)).toInt - (mo (10 * q.1 + k)).toInt ∧ 0 ≤ (mo (10 * q.1 + k)).toInt ∧ (mo (10 * q.1 + k)).toInt ≤ 40 := by
        intro k hk
        obtain ⟨-, x, hx, hxe⟩ := hR (10 * q.1 + k) (by omega)
        obtain ⟨⟨b1, b2⟩, b3, b4⟩ := hb (10 * q.1 + k) (by omega)
        have hx2 : (mo (10 * q.1 + k)).toInt = x := by rw [hxe]; exact nI_toInt (by omega)
        have t1 : (bl (10 * q.1 + k) - ou (10 * q.1 + k)).toInt = (bl (10 * q.1 + k)).toInt - (ou (10 * q.1 + k)).toInt := ti_sub (by omega) (by omega)
        exact ⟨by rw [ti_sub (by omega) (by omega), t1], by omega, by omega⟩
      by_cases hin : 10 * q.1 ≤ j ∧ j < 10 * q.1 + 10
      · have hle := tlR_le (F := fun k => bl (10 * q.1 + k) - ou (10 * q.1 + k) - mo (10 * q.1 + k)) (fun k hk => by
            obtain ⟨e1, e2, e3⟩ := key k hk
            obtain ⟨⟨b1, b2⟩, b3, b4⟩ := hb (10 * q.1 + k) (by omega)
            show -100000 ≤ (bl (10 * q.1 + k) - ou (10 * q.1 + k) - mo (10 * q.1 + k)).toInt ∧ _ ≤ (100000 : Int)
            rw [e1]; omega) hot w (szw w) 0 ts0 q.2 TSI_0 (by have := @szw_le w; omega) (fun l hl => hm (10 * q.1 + l) (by omega)) (pl1_tl hq) (j - 10 * q.1) (by omega)
        unfold spd
        rw [if_pos hin]
        obtain ⟨e1, e2, e3⟩ := key (j - 10 * q.1) (by omega)
        have hje : 10 * q.1 + (j - 10 * q.1) = j := by omega
        rw [hje] at e1 e2 e3
        have hle : (q.2.1 (j - 10 * q.1)).toInt ≤ (bl (10 * q.1 + (j - 10 * q.1)) - ou (10 * q.1 + (j - 10 * q.1)) - mo (10 * q.1 + (j - 10 * q.1))).toInt := hle
        rw [hje, e1] at hle
        obtain ⟨x, hx, hxe⟩ := hT.2.2 (j - 10 * q.1)
        have hx9 := @szw_le w
        have hx2 : (q.2.1 (j - 10 * q.1)).toInt = x := by rw [hxe]; exact nI_toInt (by omega)
        obtain ⟨⟨b1, b2⟩, b3, b4⟩ := hb j hj
        have t2 : (mo j + q.2.1 (j - 10 * q.1)).toInt = (mo j).toInt + (q.2.1 (j - 10 * q.1)).toInt := ti_add (by omega) (by omega)
        have t1 : (bl j - ou j).toInt = (bl j).toInt - (ou j).toInt := ti_sub (by omega) (by omega)
        rw [ti_sub (by omega) (by omega), t1, t2]
        omega
      · unfold spd
        rw [if_neg hin]
        exact hm j hj
theorem spd_far {n j : Nat} (hj : 10 * n ≤ j) : ∀ (L : List (Nat × TS)) (mo : Nat → Int32), (∀ t ∈ L, t.1 < n) → L.foldl spd mo j = mo j := by
  intro L
  induction L with
  | nil => intro mo _; rfl
  | cons t L ih =>
    intro mo h
    have h1 := h t List.mem_cons_self
    rw [List.foldl_cons, ih _ (fun q hq => h q (List.mem_cons_of_mem _ hq))]
    unfold spd
    rw [if_neg (by omega)]
theorem LI_set {N : Nat} {s : MG} (h : LI N s) (hN : N + 1 ≤ 2048) (p : Int32) : LI (N + 1) (stSet s p) := by
  unfold stSet
  by_cases h1 : isN (npO s) p = false
  · rw [if_pos h1]; exact h.rf hN
  · rw [if_neg h1]
    have k1 : isN (npO s) p = true := by cases z : isN (npO s) p; (· exact absurd z h1); (· rfl)
    obtain ⟨-, hp9⟩ := isN_nI k1
    generalize iz p = i at hp9
    cases hpl : plO s i with
    | none => exact h.rf hN
    | some a =>
      show LI (N + 1) (setG s i a)
      have hf5 := (IvM_nf h.1).1
      have hp6 := (IvM_np h.1).1
      have h4 := (IvM_nl h.1 (show i < 6 by omega)).2
      have hI9 := plM_I hf5 h.1.2.2.1 hpl
      unfold plO plM at hpl
      split at hpl
      · cases hpl
      · next hne =>
        have hlen : a.1.length = nlO s i := by rw [hI9.1, wds_len, Nat.sub_zero]
        have hn9 := plA_n _ [] _ a hf5 (fun t ht => by cases ht) hpl
        obtain ⟨L, hL1, hL2⟩ := plA_mo _ _ _ _ hpl
        rw [List.nil_append] at hL1
        subst hL1
        have hN1 := h.2.2.2.2.1
        have hB := h.2.2.2.2.2
        obtain ⟨hRm, hle⟩ := plA_le (fun j hj => by obtain ⟨⟨b1, b2⟩, b3, b4, -, -⟩ := hB j hj; exact ⟨⟨by omega, by omega⟩, b3, b4⟩) hf5 h.1.2.2.1 _ [] (moZ s) a 0 (Rm_0 s s) (by rw [wds_len]; omega) (fun j hj => by
          obtain ⟨⟨b1, b2⟩, b3, b4, -, -⟩ := hB j hj
          have t1 : (s 6 j - s 7 j).toInt = (s 6 j).toInt - (s 7 j).toInt := ti_sub (by omega) (by omega)
          unfold moZ
          rw [if_pos hj, Int32.sub_zero, t1]
          omega) hpl
        have hnl : ∀ q, nlO (setG s i a) q = nlO s q := fun q => by unfold nlO; rw [setG_r (by decide)]
        obtain ⟨b1, b2, b3, b4, b5, b6, b7, b8⟩ := h.1
        have hin : ∀ k, k < nlO s i → 4 * i ≤ 4 * i + k ∧ 4 * i + k < 4 * i + a.1.length := fun k hk => by omega
        have hget : ∀ k, k < nlO s i → ∃ t, a.1[k]? = some t := fun k hk => ⟨a.1[k]'(by omega), List.getElem?_eq_getElem (by omega)⟩
        refine ⟨⟨by rw [setG_r (by decide)]; exact b1, by rw [setG_r (by decide)]; exact b2, by rw [setG_r (by decide)]; exact b3, by rw [setG_r (by decide)]; exact b4, by rw [setG_r (by decide)]; exact b5, fun q hq => ?_, by rw [setG_r (by decide)]; exact b7, fun q k hq hz hk => ?_⟩, fun q k hq hz hk => ?_, fun j j1 j2 => ?_, fun q hq hq9 => ?_, hN, fun j hj => ?_⟩
        · rw [setG_15]
          split
          · exact Or.inr rfl
          · exact b6 q hq
        · rw [hnl] at hk
          by_cases hqi : q = i
          · subst hqi
            obtain ⟨t, ht⟩ := hget k hk
            obtain ⟨ht5, w, hw, ⟨⟨tt, htt, hte, -⟩, -, -⟩⟩ := hI9.2 k t ht
            rw [wds_get _ _ hk] at hw
            cases hw
            have hs8 : szw (wdO s (4 * q + k)) ≤ 8 := by
              obtain ⟨w9, hw9, hwe⟩ := b7 (4 * q + k) (by omega)
              refine szw_8 ?_
              unfold wdO
              rw [hwe, iz_nI (by omega)]
              exact hw9
            have htt2 : tt < 10 ^ 8 := Nat.lt_of_lt_of_le htt (Nat.pow_le_pow_right (by decide) hs8)
            refine ⟨⟨t.1, ht5, ?_⟩, ⟨tt, by omega, ?_⟩⟩
            · rw [setG_18, if_pos (hin k hk), Nat.add_sub_cancel_left]
              unfold lfn
              rw [ht]
            · rw [setG_20, if_pos (hin k hk), Nat.add_sub_cancel_left]
              unfold lwd
              rw [ht]
              exact hte
          · rw [setG_15, if_neg hqi] at hz
            have hout : ¬ (4 * i ≤ 4 * q + k ∧ 4 * q + k < 4 * i + a.1.length) := by have := (IvM_nl h.1 hq).2; omega
            rw [setG_18, if_neg hout, setG_20, if_neg hout]
            exact b8 q k hq hz hk
        · have hq' : q < npO s := by unfold npO at hq ⊢; rw [setG_r (by decide)] at hq; exact hq
          rw [hnl] at hk
          have e3 : nfO (setG s i a) = nfO s := by unfold nfO; rw [setG_r (by decide)]
          rw [e3]
          by_cases hqi : q = i
          · subst hqi
            obtain ⟨t, ht⟩ := hget k hk
            refine ⟨t.1, hn9 t (List.mem_of_getElem? ht), ?_⟩
            rw [setG_18, if_pos (hin k hk), Nat.add_sub_cancel_left]
            unfold lfn
            rw [ht]
          · rw [setG_15, if_neg hqi] at hz
            have hout : ¬ (4 * i ≤ 4 * q + k ∧ 4 * q + k < 4 * i + a.1.length) := by have := (IvM_nl h.1 (show q < 6 by omega)).2; omega
            rw [setG_18, if_neg hout]
            exact h.2.1 q k hq' hz hk
        · have e3 : nfO (setG s i a) = nfO s := by unfold nfO; rw [setG_r (by decide)]
          rw [e3] at j1
          obtain ⟨c6, c7, c8⟩ := h.2.2.1 j j1 j2
          rw [setG_r (show 6 ≠ 18 ∧ 6 ≠ 19 ∧ 6 ≠ 20 ∧ 6 ≠ 7 ∧ 6 ≠ 15 by decide), setG_r (show 8 ≠ 18 ∧ 8 ≠ 19 ∧ 8 ≠ 20 ∧ 8 ≠ 7 ∧ 8 ≠ 15 by decide), setG_7, if_pos j2, c7, hL2, spd_far j1 _ _ hn9]
          unfold moZ
          rw [if_pos j2]
          exact ⟨c6, rfl, c8⟩
        · have hq' : npO s ≤ q := by unfold npO at hq ⊢; rw [setG_r (by decide)] at hq; exact hq
          rw [setG_r (show 14 ≠ 18 ∧ 14 ≠ 19 ∧ 14 ≠ 20 ∧ 14 ≠ 7 ∧ 14 ≠ 15 by decide), setG_r (show 16 ≠ 18 ∧ 16 ≠ 19 ∧ 16 ≠ 20 ∧ 16 ≠ 7 ∧ 16 ≠ 15 by decide), setG_15, if_neg (by omega)]
          exact h.2.2.2.1 q hq' hq9
        · obtain ⟨⟨c1, c2⟩, c3, c4, c5, c6⟩ := hB j hj
          obtain ⟨-, x, hx, hxe⟩ := hRm j hj
          have h9 := hle j hj
          have hx2 : (a.2 j).toInt = x := by rw [hxe]; exact nI_toInt (by omega)
          have t1 : (s 6 j - s 7 j).toInt = (s 6 j).toInt - (s 7 j).toInt := ti_sub (by omega) (by omega)
          rw [ti_sub (by omega) (by omega), t1] at h9
          have t2 : (s 7 j + a.2 j).toInt = (s 7 j).toInt + (a.2 j).toInt := ti_add (by omega) (by omega)
          rw [setG_7, if_pos hj, setG_r (show 6 ≠ 18 ∧ 6 ≠ 19 ∧ 6 ≠ 20 ∧ 6 ≠ 7 ∧ 6 ≠ 15 by decide), setG_r (show 8 ≠ 18 ∧ 8 ≠ 19 ∧ 8 ≠ 20 ∧ 8 ≠ 7 ∧ 8 ≠ 15 by decide), t2]
          exact ⟨⟨by omega, by omega⟩, by omega, c4, c5, by omega⟩
theorem wd_8 {s : MG} (hI : IvM s) {j : Nat} (hj : j < 24) : szw (wdO s j) ≤ 8 := by
  obtain ⟨w9, hw9, hwe⟩ := hI.2.2.2.2.2.2.1 j hj
  refine szw_8 ?_
  unfold wdO
  rw [hwe, iz_nI (by omega)]
  exact hw9
theorem outO_32 {s : MG} (hI : IvM s) {p : Nat} (hp : p < 6) (f c : Nat) : outO s p f c ≤ 32 := by
  have h4 := (IvM_nl hI hp).2
  have key : ∀ k, k ≤ 4 → outN (s 18) (tkO s) (wdO s) p f c k ≤ 8 * k := by
    intro k
    induction k with
    | zero => intro _; exact Nat.le_refl 0
    | succ k ih =>
      intro hk
      have h1 := ih (by omega)
      have h2 := cntD_le (tkO s (4 * p + k)) c (szw (wdO s (4 * p + k)))
      have h3 := wd_8 hI (show 4 * p + k < 24 by omega)
      unfold outN
      split <;> omega
  have := key (nlO s p) h4
  unfold outO
  omega
theorem LI_print {N : Nat} {s : MG} (h : LI N s) (hN : N + 1 ≤ 2048) (p c : Int32) : LI (N + 1) (stPrint s p c) := by
  unfold stPrint
  by_cases hc : cdPrint s p c = 0
  · rw [if_pos hc]
    unfold cdPrint at hc
    by_cases h1 : isN (npO s) p = false
    · rw [if_pos h1] at hc; cases hc
    · by_cases h2 : inB c 1 500 = false
      · rw [if_neg h1, if_pos h2] at hc; cases hc
      · by_cases h3 : s 15 (iz p) = 0
        · rw [if_neg h1, if_neg h2, if_pos h3] at hc; cases hc
        · have k1 : isN (npO s) p = true := by cases z : isN (npO s) p; (· exact absurd z h1); (· rfl)
          have k2 : inB c 1 500 = true := by cases z : inB c 1 500; (· exact absurd z h2); (· rfl)
          obtain ⟨-, hp9⟩ := isN_nI k1
          have hp6 := (IvM_np h.1).1
          have hf5 := (IvM_nf h.1).1
          generalize iz p = i at hp9 h3
          obtain ⟨c1, c2⟩ := inB_t.mp k2
          have z1 : (1 : Int32).toInt = 1 := rfl
          have z9 : (500 : Int32).toInt = 500 := rfl
          have h15 : s 15 i = 1 := (IvM_01 h.1 (by omega)).resolve_left h3
          generalize gtO s i c = e
          generalize hfe : (fun j => if j < 50 then s 8 j + c * nI (outO s i (j / 10) (j % 10)) else s 8 j) = f
          have es : ∀ z, z ≠ 8 → z ≠ 0 → z ≠ 16 → wr (wr (rwr s 8 f) 0 3 (s 0 3 + e)) 16 i (s 16 i + c) z = s z := fun z z1 z2 z3 => by rw [wr_row _ _ _ _ z3, wr_row _ _ _ _ z2, rwr_ne _ _ _ z1]
          have e0 : ∀ j, j ≠ 3 → wr (wr (rwr s 8 f) 0 3 (s 0 3 + e)) 16 i (s 16 i + c) 0 j = s 0 j := fun j hj => by rw [wr_row _ _ _ _ (by decide), wr_ne _ _ _ _ (Or.inr hj), rwr_ne _ _ _ (by decide)]
          have e8 : wr (wr (rwr s 8 f) 0 3 (s 0 3 + e)) 16 i (s 16 i + c) 8 = f := by rw [wr_row _ _ _ _ (by decide), wr_row _ _ _ _ (by decide), rwr_same]
          have e3 : nfO (wr (wr (rwr s 8 f) 0 3 (s 0 3 + e)) 16 i (s 16 i + c)) = nfO s := by unfold nfO; rw [e0 1 (by decide)]
          have hnl : ∀ q, nlO (wr (wr (rwr s 8 f) 0 3 (s 0 3 + e)) 16 i (s 16 i + c)) q = nlO s q := fun q => by unfold nlO; rw [es 14 (by decide) (by decide) (by decide)]
          have hnp : npO (wr (wr (rwr s 8 f) 0 3 (s 0 3 + e)) 16 i (s 16 i + c)) = npO s := by unfold npO; rw [e0 2 (by decide)]
          obtain ⟨b1, b2, b3, b4, b5, b6, b7, b8⟩ := h.1
          refine ⟨⟨by rw [e0 1 (by decide)]; exact b1, by rw [e0 2 (by decide)]; exact b2, by rw [es 9 (by decide) (by decide) (by decide)]; exact b3, by rw [es 14 (by decide) (by decide) (by decide)]; exact b4, by rw [es 12 (by decide) (by decide) (by decide)]; exact b5, by rw [es 15 (by decide) (by decide) (by decide)]; exact b6, by rw [es 17 (by decide) (by decide) (by decide)]; exact b7, fun q k hq hz hk => ?_⟩, fun q k hq hz hk => ?_, fun j j1 j2 => ?_, fun q hq hq9 => ?_, hN, fun j hj => ?_⟩
          · rw [es 15 (by decide) (by decide) (by decide)] at hz
            rw [hnl] at hk
            rw [es 18 (by decide) (by decide) (by decide), es 20 (by decide) (by decide) (by decide)]
            exact b8 q k hq hz hk
          · rw [hnp] at hq
            rw [es 15 (by decide) (by decide) (by decide)] at hz
            rw [hnl] at hk
            rw [e3, es 18 (by decide) (by decide) (by decide)]
            exact h.2.1 q k hq hz hk
          · rw [e3] at j1
            obtain ⟨d6, d7, d8⟩ := h.2.2.1 j j1 j2
            rw [es 6 (by decide) (by decide) (by decide), es 7 (by decide) (by decide) (by decide), e8, ← hfe]
            refine ⟨d6, d7, ?_⟩
            show (if j < 50 then s 8 j + c * nI (outO s i (j / 10) (j % 10)) else s 8 j) = 0
            rw [if_pos j2, d8, show outO s i (j / 10) (j % 10) = 0 from outN_far h.2.1 hp9 h15 hf5 (by omega) (by omega) _ (Nat.le_refl _)]
            show 0 + c * 0 = 0
            rw [Int32.mul_zero]
            rfl
          · rw [hnp] at hq
            rw [es 14 (by decide) (by decide) (by decide), es 15 (by decide) (by decide) (by decide), wr_ne _ _ _ _ (Or.inr (show q ≠ i by omega)), wr_row _ _ _ _ (by decide), rwr_ne _ _ _ (by decide)]
            exact h.2.2.2.1 q hq hq9
          · obtain ⟨⟨d1, d2⟩, d3, d4, d5, d6⟩ := h.2.2.2.2.2 j hj
            have hN1 := h.2.2.2.2.1
            rw [es 6 (by decide) (by decide) (by decide), es 7 (by decide) (by decide) (by decide), e8, ← hfe]
            have ho := outO_32 h.1 (show i < 6 by omega) (j / 10) (j % 10)
            have hm1 : (c * nI (outO s i (j / 10) (j % 10))).toInt = c.toInt * (outO s i (j / 10) (j % 10) : Int) := by
              have hb1 : c.toInt * (outO s i (j / 10) (j % 10) : Int) ≤ 500 * 32 := Int.mul_le_mul (by omega) (by omega) (by omega) (by omega)
              have hb0 : 0 ≤ c.toInt * (outO s i (j / 10) (j % 10) : Int) := Int.mul_nonneg (by omega) (by omega)
              rw [Int32.toInt_mul, nI_toInt (by omega), Int.bmod_eq_of_le] <;> omega
            have hb1 : c.toInt * (outO s i (j / 10) (j % 10) : Int) ≤ 500 * 32 := Int.mul_le_mul (by omega) (by omega) (by omega) (by omega)
            have hb0 : 0 ≤ c.toInt * (outO s i (j / 10) (j % 10) : Int) := Int.mul_nonneg (by omega) (by omega)
            have t9 : (if j < 50 then s 8 j + c * nI (outO s i (j / 10) (j % 10)) else s 8 j).toInt = (s 8 j).toInt + c.toInt * (outO s i (j / 10) (j % 10) : Int) := by
              rw [if_pos hj, ti_add (by rw [hm1]; omega) (by rw [hm1]; omega), hm1]
            refine ⟨⟨by omega, by omega⟩, d3, d4, ?_, ?_⟩
            · show 0 ≤ (if j < 50 then s 8 j + c * nI (outO s i (j / 10) (j % 10)) else s 8 j).toInt
              rw [t9]; omega
            · show (if j < 50 then s 8 j + c * nI (outO s i (j / 10) (j % 10)) else s 8 j).toInt ≤ _
              rw [t9]; omega
  · rw [if_neg hc]; exact h.rf hN
theorem LI_strike {N : Nat} {s : MG} (h : LI N s) (hN : N + 1 ≤ 2048) (p : Int32) : LI (N + 1) (stStrike s p) := by
  by_cases hc : cdStrike s p = 0
  · have hc2 := hc
    unfold cdStrike at hc
    by_cases h1 : isN (npO s) p = false
    · rw [if_pos h1] at hc; cases hc
    · by_cases h3 : s 15 (iz p) = 0
      · rw [if_neg h1, if_pos h3] at hc; cases hc
      · have k1 : isN (npO s) p = true := by cases z : isN (npO s) p; (· exact absurd z h1); (· rfl)
        obtain ⟨-, hp9⟩ := isN_nI k1
        have hp6 := (IvM_np h.1).1
        have hf5 := (IvM_nf h.1).1
        have h15 : s 15 (iz p) = 1 := (IvM_01 h.1 (by omega)).resolve_left h3
        have hs : ∀ k, k ≠ 7 → k ≠ 6 → k ≠ 8 → k ≠ 15 → k ≠ 0 → stStrike s p k = s k := fun k q1 q2 q3 q4 q5 => by
          funext j
          unfold stStrike
          rw [if_pos hc2, if_neg q1, if_neg q2, if_neg q3, if_neg q4, if_neg q5]
        have h0 : ∀ j, j ≠ 4 → stStrike s p 0 j = s 0 j := fun j hj => by
          unfold stStrike
          rw [if_pos hc2, if_neg (by decide), if_neg (by decide), if_neg (by decide), if_neg (by decide), if_pos rfl, if_neg hj]
        have h7 : ∀ j, j < 50 → stStrike s p 7 j = skO s (iz p) j := fun j hj => by
          unfold stStrike
          rw [if_pos hc2, if_pos rfl, if_pos hj]
        have h6 : ∀ j, j < 50 → stStrike s p 6 j = s 6 j - brO s (iz p) j := fun j hj => by
          unfold stStrike
          rw [if_pos hc2, if_neg (by decide), if_pos rfl, if_pos hj]
        have h8 : ∀ j, j < 50 → stStrike s p 8 j = s 8 j - 400 * brO s (iz p) j := fun j hj => by
          unfold stStrike
          rw [if_pos hc2, if_neg (by decide), if_neg (by decide), if_pos rfl, if_pos hj]
        have e15 : ∀ j, stStrike s p 15 j = if j = iz p then 0 else s 15 j := fun j => by
          unfold stStrike
          rw [if_pos hc2, if_neg (by decide), if_neg (by decide), if_neg (by decide), if_pos rfl]
        generalize stStrike s p = s' at *
        generalize iz p = i at *
        have e3 : nfO s' = nfO s := by unfold nfO; rw [h0 1 (by decide)]
        have hnp : npO s' = npO s := by unfold npO; rw [h0 2 (by decide)]
        have hnl : ∀ q, nlO s' q = nlO s q := fun q => by unfold nlO; rw [hs 14 (by decide) (by decide) (by decide) (by decide) (by decide)]
        have hz15 : ∀ q, s' 15 q = 1 → q ≠ i ∧ s 15 q = 1 := fun q hq => by
          rw [e15] at hq
          by_cases hqi : q = i
          · rw [if_pos hqi] at hq; exact absurd hq (by decide)
          · rw [if_neg hqi] at hq; exact ⟨hqi, hq⟩
        obtain ⟨b1, b2, b3, b4, b5, b6, b7, b8⟩ := h.1
        refine ⟨⟨by rw [h0 1 (by decide)]; exact b1, by rw [h0 2 (by decide)]; exact b2, by rw [hs 9 (by decide) (by decide) (by decide) (by decide) (by decide)]; exact b3, by rw [hs 14 (by decide) (by decide) (by decide) (by decide) (by decide)]; exact b4, by rw [hs 12 (by decide) (by decide) (by decide) (by decide) (by decide)]; exact b5, fun q hq => ?_, by rw [hs 17 (by decide) (by decide) (by decide) (by decide) (by decide)]; exact b7, fun q k hq hz hk => ?_⟩, fun q k hq hz hk => ?_, fun j j1 j2 => ?_, fun q hq hq9 => ?_, hN, fun j hj => ?_⟩
        · rw [e15]
          split
          · exact Or.inl rfl
          · exact b6 q hq
        · rw [hnl] at hk
          rw [hs 18 (by decide) (by decide) (by decide) (by decide) (by decide), hs 20 (by decide) (by decide) (by decide) (by decide) (by decide)]
          exact b8 q k hq (hz15 q hz).2 hk
        · rw [hnp] at hq
          rw [hnl] at hk
          rw [e3, hs 18 (by decide) (by decide) (by decide) (by decide) (by decide)]
          exact h.2.1 q k hq (hz15 q hz).2 hk
        · rw [e3] at j1
          obtain ⟨d6, d7, d8⟩ := h.2.2.1 j j1 j2
          have hbr : brO s i j = 0 := br_0 h.2.2.1 h.2.1 hp9 h15 hf5 j1 j2
          have hout : outO s i (j / 10) (j % 10) = 0 := outN_far h.2.1 hp9 h15 hf5 (by omega) (by omega) _ (Nat.le_refl _)
          rw [h6 j j2, h7 j j2, h8 j j2, hbr, d6, d8]
          unfold skO
          rw [d7, hout]
          exact ⟨rfl, rfl, rfl⟩
        · rw [hnp] at hq
          rw [hs 14 (by decide) (by decide) (by decide) (by decide) (by decide), hs 16 (by decide) (by decide) (by decide) (by decide) (by decide), e15, if_neg (show q ≠ i by omega)]
          exact h.2.2.2.1 q hq hq9
        · obtain ⟨⟨d1, d2⟩, d3, d4, d5, d6⟩ := h.2.2.2.2.2 j hj
          have hN1 := h.2.2.2.2.1
          have ho := outO_32 h.1 (show i < 6 by omega) (j / 10) (j % 10)
          have t7 : (skO s i j).toInt = (s 7 j).toInt - (outO s i (j / 10) (j % 10) : Int) := by
            unfold skO
            rw [ti_sub (by rw [nI_toInt (by omega)]; omega) (by rw [nI_toInt (by omega)]; omega), nI_toInt (by omega)]
          have t6 : (s 6 j - skO s i j).toInt = (s 6 j).toInt - (skO s i j).toInt := ti_sub (by omega) (by omega)
          have t8 : (s 8 j / 400).toInt = (s 8 j).toInt.tdiv 400 := ti_div (by decide) (by omega)
          have t8a : (s 8 j).toInt.tdiv 400 = (s 8 j).toInt / 400 := Int.tdiv_eq_ediv_of_nonneg d5
          have hbr : (brO s i j).toInt ≤ (s 6 j).toInt - (skO s i j).toInt ∧ 0 ≤ (brO s i j).toInt ∧ 400 * (brO s i j).toInt ≤ (s 8 j).toInt := by
            unfold brO mn
            split
            · next hlt => rw [i_lt, t6, t8, t8a] at hlt; rw [t6]; omega
            · next hlt => rw [i_lt, t6, t8, t8a] at hlt; rw [t8, t8a]; omega
          have u6 : (s 6 j - brO s i j).toInt = (s 6 j).toInt - (brO s i j).toInt := ti_sub (by omega) (by omega)
          have z4 : (400 : Int32).toInt = 400 := rfl
          have u8a : (400 * brO s i j).toInt = 400 * (brO s i j).toInt := by rw [Int32.toInt_mul, z4, Int.bmod_eq_of_le] <;> omega
          have u8 : (s 8 j - 400 * brO s i j).toInt = (s 8 j).toInt - 400 * (brO s i j).toInt := by rw [ti_sub (by rw [u8a]; omega) (by rw [u8a]; omega), u8a]
          rw [h6 j hj, h7 j hj, h8 j hj, u6, u8, t7]
          exact ⟨⟨by omega, by omega⟩, by omega, by omega, by omega, by omega⟩
  · have : stStrike s p = s := by unfold stStrike; rw [if_neg hc]
    rw [this]; exact h.rf hN
