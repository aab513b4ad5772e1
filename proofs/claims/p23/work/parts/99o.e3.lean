/-! WHAT THE LAW ASKS BESIDES: kept by set, print, strike -/
theorem setG_ou {s : MG} {p : Nat} {a : List (Nat × TS) × (Nat → Int32)} (hI : IvM s) (hp : p < npO s) (hpl : plO s p = some a) : ∀ x, x < 50 → nI (outO (setG s p a) p (x / 10) (x % 10)) = a.2 x := by
  have hf5 := (IvM_nf hI).1
  have hp6 := (IvM_np hI).1
  have h4 := (IvM_nl hI (show p < 6 by omega)).2
  have hI9 := plM_I hf5 hI.2.2.1 hpl
  have hlen : a.1.length = nlO s p := by rw [hI9.1, wds_len, Nat.sub_zero]
  have hnl : nlO (setG s p a) p = nlO s p := by unfold nlO; rw [setG_r (by decide)]
  have hin : ∀ k, k < nlO s p → 4 * p ≤ 4 * p + k ∧ 4 * p + k < 4 * p + a.1.length := fun k hk => by omega
  have hwd : wdO (setG s p a) = wdO s := by
    funext j
    unfold wdO
    rw [setG_r (by decide)]
  have h18 : ∀ i, i < nlO s p → setG s p a 18 (4 * p + i) = nI (lfn a.1 i) ∧ lfn a.1 i < 5 := fun i hi => by
    rw [setG_18, if_pos (hin i hi), Nat.add_sub_cancel_left]
    refine ⟨rfl, ?_⟩
    have hq := List.getElem?_eq_getElem (show i < a.1.length by omega)
    unfold lfn
    rw [hq]
    exact (hI9.2 i _ hq).1
  have hk : ∀ i q, a.1[i]? = some q → ∀ d, d < 10 → q.2.1 d = nI (cntD (tkO (setG s p a) (4 * p + i)) d (szw (wdO s (4 * p + i)))) := fun i q hq d hd => by
    have hi : i < nlO s p := by rw [← hlen]; exact (List.getElem?_eq_some_iff.mp hq).1
    obtain ⟨-, w, hw, ⟨t, ht, hte, htc⟩, -⟩ := hI9.2 i q hq
    rw [wds_get _ _ hi] at hw
    cases hw
    have ht8 : t < 10 ^ 8 := Nat.lt_of_lt_of_le ht (Nat.pow_le_pow_right (by decide) (wd_8 hI (show 4 * p + i < 24 by omega)))
    have e : tkO (setG s p a) (4 * p + i) = t := by
      unfold tkO
      rw [setG_20, if_pos (hin i hi), Nat.add_sub_cancel_left]
      unfold lwd
      rw [hq]
      show iz q.2.2.2 = t
      rw [hte]
      exact iz_nI (by omega)
    rw [e]
    exact htc d hd
  intro x hx
  have h1 := addP_v 1 (lfn a.1) (setG s p a 18) (tkO (setG s p a)) (wdO s) p (nlO s p) h18 (fun _ => 0) (nlO s p) (Nat.le_refl _) x hx
  have h2 := spd_addP (L := a.1) (tk := tkO (setG s p a)) (wd := wdO s) (p := p) (fun _ => 0) hk (nlO s p) (by omega) x
  rw [h1] at h2
  rw [plO_mo hpl x hx]
  unfold outO
  rw [hnl, hwd]
  rw [← hlen, List.take_length] at h2
  rw [← hlen]
  have h3 : (0 : Int32) + 1 * nI (outN (setG s p a 18) (tkO (setG s p a)) (wdO s) p (x / 10) (x % 10) a.1.length) = 0 + List.foldl spd (fun _ => 0) a.1 x := h2
  rw [Int32.zero_add, Int32.zero_add, Int32.one_mul] at h3
  exact h3
theorem LE_set {N : Nat} {s : MG} (h : LE N s) (hN : N + 1 ≤ 2048) (p : Int32) : LE (N + 1) (stSet s p) ∧ Mo s (stSet s p) := by
  have hL := LI_set h.1 hN p
  unfold stSet at hL ⊢
  by_cases h1 : isN (npO s) p = false
  · rw [if_pos h1]; exact h.rf hN
  · rw [if_neg h1] at hL ⊢
    have k1 : isN (npO s) p = true := by cases z : isN (npO s) p; (· exact absurd z h1); (· rfl)
    obtain ⟨-, hp9⟩ := isN_nI k1
    generalize iz p = i at *
    cases hpl : plO s i with
    | none => exact h.rf hN
    | some a =>
      rw [hpl] at hL
      have hL : LI (N + 1) (setG s i a) := hL
      show LE (N + 1) (setG s i a) ∧ Mo s (setG s i a)
      have hI := h.1.1
      have hf5 := (IvM_nf hI).1
      have hp6 := (IvM_np hI).1
      have hI9 := plM_I hf5 hI.2.2.1 hpl
      have hou := setG_ou hI hp9 hpl
      have hlen : a.1.length = nlO s i := by rw [hI9.1, wds_len, Nat.sub_zero]
      have hJ : plJ (s 5) (s 13 i) (wds (wdO s) i 0 (nlO s i)) a.1 ∧ ¬ s 15 i = 1 := by
        unfold plO plM at hpl
        split at hpl
        · cases hpl
        · next hne => exact ⟨plA_J hf5 hI.2.2.1 _ [] [] _ a ⟨rfl, fun k q hq => by cases hq⟩ hpl, fun z => hne (Or.inl z)⟩
      have hnl : ∀ q, nlO (setG s i a) q = nlO s q := fun q => by unfold nlO; rw [setG_r (by decide)]
      have hin : ∀ k, k < nlO s i → 4 * i ≤ 4 * i + k ∧ 4 * i + k < 4 * i + a.1.length := fun k hk => by omega
      have h0 : setG s i a 0 = s 0 := setG_r (by decide)
      have hnp : npO (setG s i a) = npO s := by unfold npO; rw [h0]
      have hnf : nfO (setG s i a) = nfO s := by unfold nfO; rw [h0]
      have hout : ∀ q k, q < npO s → q ≠ i → k < nlO s q → ¬ (4 * i ≤ 4 * q + k ∧ 4 * q + k < 4 * i + a.1.length) := fun q k hq hqi hk => by
        have := (IvM_nl hI (show q < 6 by omega)).2
        have := (IvM_nl hI (show i < 6 by omega)).2
        omega
      refine ⟨⟨hL, ⟨fun q k hq hz hk => ?_, fun x hx => ?_, fun f hf => ?_, by rw [setG_r (by decide), setG_r (by decide)]; exact h.2.1.2.2.2⟩, h.2.2.up (by rw [h0]) (by rw [h0])⟩, Mo.eq (by rw [h0]) (by rw [h0])⟩
      · rw [hnp] at hq
        rw [hnl] at hk
        by_cases hqi : q = i
        · subst hqi
          have h4 := (IvM_nl hI (show q < 6 by omega)).2
          have hq9 := List.getElem?_eq_getElem (show k < a.1.length by omega)
          generalize a.1[k] = t at hq9
          obtain ⟨g1, w, hw, u, hu, hue, huf⟩ := hJ.1.2 k t hq9
          rw [wds_get _ _ hk] at hw
          cases hw
          have hu8 : u < 10 ^ 8 := Nat.lt_of_lt_of_le hu (Nat.pow_le_pow_right (by decide) (wd_8 hI (show 4 * q + k < 24 by omega)))
          have e20 : tkO (setG s q a) (4 * q + k) = u := by
            unfold tkO
            rw [setG_20, if_pos (hin k hk), Nat.add_sub_cancel_left]
            unfold lwd
            rw [hq9]
            show iz t.2.2.2 = u
            rw [hue]
            exact iz_nI (by omega)
          have e17 : wdO (setG s q a) (4 * q + k) = wdO s (4 * q + k) := by unfold wdO; rw [setG_r (by decide)]
          have t5 := (hI9.2 k t hq9).1
          refine ⟨by rw [e20, e17]; exact hu, ?_, ?_⟩
          · rw [e20, e17, setG_19, if_pos (hin k hk), Nat.add_sub_cancel_left]
            unfold lfl
            rw [hq9]
            exact huf
          · rw [setG_r (show 5 ≠ 18 ∧ 5 ≠ 19 ∧ 5 ≠ 20 ∧ 5 ≠ 7 ∧ 5 ≠ 15 by decide), setG_r (show 13 ≠ 18 ∧ 13 ≠ 19 ∧ 13 ≠ 20 ∧ 13 ≠ 7 ∧ 13 ≠ 15 by decide), setG_18, if_pos (hin k hk), Nat.add_sub_cancel_left]
            unfold lfn
            rw [hq9]
            show ¬ s 5 (iz (nI t.1)) < s 13 q
            rw [iz_nI (by omega)]
            exact g1
        · rw [setG_15, if_neg hqi] at hz
          have ho := hout q k hq hqi hk
          exact (h.2.1.1 q k hq hz hk).c (by rw [setG_r (by decide)]) (by rw [setG_18, if_neg ho]) (by rw [setG_19, if_neg ho]) (by rw [setG_20, if_neg ho]) (by rw [setG_r (by decide)]) (by rw [setG_r (by decide)])
      · rw [hnp, setG_7, if_pos hx, h.2.1.2.1 x hx, ← hou x hx]
        have e := sumI_one (f := fun q => if q < npO s then ouT (setG s i a) x q else ouT s x q) (h := ouT s x) (p := i) (npO s) hp9 (fun q hqi => by
          by_cases hq : q < npO s
          · show (if q < npO s then ouT (setG s i a) x q else ouT s x q) = _
            rw [if_pos hq]
            exact ouT_c (by rw [setG_15, if_neg hqi]) (hnl q) (fun k hk => by
              have ho := hout q k hq hqi hk
              exact ⟨by rw [setG_18, if_neg ho], by rw [setG_20, if_neg ho], by rw [setG_r (by decide)]⟩)
          · exact if_neg hq)
        have e1 : sumI (fun q => if q < npO s then ouT (setG s i a) x q else ouT s x q) (npO s) = sumI (ouT (setG s i a) x) (npO s) := sumI_cong _ (fun q hq => if_pos hq)
        rw [e1] at e
        have e2 : (if i < npO s then ouT (setG s i a) x i else ouT s x i) = nI (outO (setG s i a) i (x / 10) (x % 10)) := by
          rw [if_pos hp9]
          unfold ouT
          rw [setG_15, if_pos rfl, if_pos rfl]
        have e3 : ouT s x i = 0 := by unfold ouT; rw [if_neg hJ.2]
        have e : sumI (ouT (setG s i a) x) (npO s) = sumI (ouT s x) (npO s) + ((if i < npO s then ouT (setG s i a) x i else ouT s x i) - ouT s x i) := e
        rw [e, e2, e3, Int32.sub_zero]
      · rw [hnf] at hf; rw [setG_r (by decide)]; exact h.2.1.2.2.1 f hf
theorem ti_nI {x : Int32} {b : Nat} (h0 : 0 ≤ x.toInt) (hb : x.toInt ≤ b) (h31 : b < 2147483648) : ∃ a, a ≤ b ∧ x = nI a := ⟨iz x, by
  have : (iz x : Int) = x.toInt := by unfold iz; rw [Int32.toNatClampNeg]; omega
  omega, (nI_iz h0).symm⟩
/-- a proof lies between 0 and 5760 -/
theorem prO_b {N : Nat} {s : MG} (h : LE N s) {p : Nat} (hp : p < npO s) : ∃ r, r ≤ 5760 ∧ prO s (wdO s) p (nlO s p) (iz (s 12 p)) = nI r := by
  have hI := h.1.1
  have hp6 := (IvM_np hI).1
  have hf5 := (IvM_nf hI).1
  have h4 := (IvM_nl hI (show p < 6 by omega)).2
  obtain ⟨t, ht, hte⟩ := hI.2.2.2.2.1 p (by omega)
  rw [hte, iz_nI (by omega)]
  unfold prO
  by_cases h15 : s 15 p = 0
  · rw [if_pos h15]; exact ⟨0, by omega, rfl⟩
  · rw [if_neg h15]
    have h151 : s 15 p = 1 := (IvM_01 hI (by omega)).resolve_left h15
    obtain ⟨A, hA, hAe⟩ := sumI_n (f := fun k => s 5 (iz (s 18 (4 * p + k))) * nI (szw (wdO s (4 * p + k)))) (b := 160) (nlO s p) (fun k hk => by
      obtain ⟨f, hf, hfe⟩ := h.1.2.1 p k hp h151 hk
      obtain ⟨b1, b2⟩ := h.2.1.2.2.1 f hf
      obtain ⟨a, ha, hae⟩ := ti_nI (x := s 5 f) (b := 20) (by omega) (by omega) (by decide)
      have h8 := wd_8 hI (show 4 * p + k < 24 by omega)
      refine ⟨a * szw (wdO s (4 * p + k)), by have := Nat.mul_le_mul ha h8; omega, ?_⟩
      show s 5 (iz (s 18 (4 * p + k))) * nI (szw (wdO s (4 * p + k))) = _
      rw [hfe, iz_nI (by omega), hae, nI_mul])
    obtain ⟨B, hB, hBe⟩ := sumI_n (f := fun k => s 19 (4 * p + k)) (b := 8) (nlO s p) (fun k hk => by
      have h8 := wd_8 hI (show 4 * p + k < 24 by omega)
      exact ⟨_, by have := dfD_le (wdO s (4 * p + k)) (tkO s (4 * p + k)) (szw (wdO s (4 * p + k))); omega, (h.2.1.1 p k hp h151 hk).2.1⟩)
    obtain ⟨⟨c1, c2⟩, c3, c4⟩ := h.2.1.2.2.2 t ht
    obtain ⟨py, hpy, hpe⟩ := ti_nI (b := 9) c1 (by omega) (by decide)
    obtain ⟨sc, hsc, hse⟩ := ti_nI (b := 30) c3 (by omega) (by decide)
    have hA6 : A ≤ 640 := by have := Nat.mul_le_mul_left 160 h4; omega
    have hB6 : B ≤ 32 := by have := Nat.mul_le_mul_left 8 h4; omega
    have hAp : A * py ≤ 5760 := by have := Nat.mul_le_mul hA6 hpy; omega
    have hBp : B * sc ≤ 960 := by have := Nat.mul_le_mul hB6 hsc; omega
    unfold flO
    rw [if_pos h151, hAe, hBe, hpe, hse, nI_mul, nI_mul]
    have e : (nI (A * py) - nI (B * sc)).toInt = (A * py : Nat) - (B * sc : Nat) := by
      rw [ti_sub (by rw [nI_toInt (by omega), nI_toInt (by omega)]; omega) (by rw [nI_toInt (by omega), nI_toInt (by omega)]; omega), nI_toInt (by omega), nI_toInt (by omega)]
    unfold mx0
    split
    · next hlt =>
      rw [i_lt, e, show (0 : Int32).toInt = 0 from rfl] at hlt
      exact ti_nI (by rw [e]; omega) (by rw [e]; omega) (by decide)
    · exact ⟨0, by omega, rfl⟩
theorem gtO_b {N : Nat} {s : MG} (h : LE N s) {p : Nat} (hp : p < npO s) {c : Int32} (hc : 1 ≤ c.toInt ∧ c.toInt ≤ 500) : 0 ≤ (gtO s p c).toInt ∧ (gtO s p c).toInt ≤ 28800 := by
  obtain ⟨r, hr, hre⟩ := prO_b h hp
  obtain ⟨c', hc', hce⟩ := ti_nI (b := 500) (show 0 ≤ c.toInt by omega) (by omega) (by decide)
  have hm : r * c' ≤ 2880000 := by have := Nat.mul_le_mul hr hc'; omega
  unfold gtO
  rw [hre, hce, nI_mul, ti_div (by decide) (by rw [nI_toInt (by omega)]; omega), nI_toInt (by omega), show (100 : Int32).toInt = 100 from rfl, Int.tdiv_eq_ediv_of_nonneg (by omega)]
  omega
theorem LE_print {N : Nat} {s : MG} (h : LE N s) (hN : N + 1 ≤ 2048) (p c : Int32) : LE (N + 1) (stPrint s p c) ∧ Mo s (stPrint s p c) := by
  have hL := LI_print h.1 hN p c
  unfold stPrint at hL ⊢
  by_cases hc : cdPrint s p c = 0
  · rw [if_pos hc] at hL ⊢
    unfold cdPrint at hc
    by_cases h1 : isN (npO s) p = false
    · rw [if_pos h1] at hc; cases hc
    · by_cases h2 : inB c 1 500 = false
      · rw [if_neg h1, if_pos h2] at hc; cases hc
      · have k1 : isN (npO s) p = true := by cases z : isN (npO s) p; (· exact absurd z h1); (· rfl)
        have k2 : inB c 1 500 = true := by cases z : inB c 1 500; (· exact absurd z h2); (· rfl)
        obtain ⟨-, hp9⟩ := isN_nI k1
        generalize iz p = i at *
        obtain ⟨c1, c2⟩ := inB_t.mp k2
        have z1 : (1 : Int32).toInt = 1 := rfl
        have z9 : (500 : Int32).toInt = 500 := rfl
        obtain ⟨g1, g2⟩ := gtO_b h hp9 (c := c) ⟨by omega, by omega⟩
        generalize gtO s i c = e at *
        generalize hfe : (fun j => if j < 50 then s 8 j + c * nI (outO s i (j / 10) (j % 10)) else s 8 j) = f at *
        have es : ∀ z, z ≠ 8 → z ≠ 0 → z ≠ 16 → wr (wr (rwr s 8 f) 0 3 (s 0 3 + e)) 16 i (s 16 i + c) z = s z := fun z z1 z2 z3 => by rw [wr_row _ _ _ _ z3, wr_row _ _ _ _ z2, rwr_ne _ _ _ z1]
        have e0 : ∀ j, j ≠ 3 → wr (wr (rwr s 8 f) 0 3 (s 0 3 + e)) 16 i (s 16 i + c) 0 j = s 0 j := fun j hj => by rw [wr_row _ _ _ _ (by decide), wr_ne _ _ _ _ (Or.inr hj), rwr_ne _ _ _ (by decide)]
        have e3 : wr (wr (rwr s 8 f) 0 3 (s 0 3 + e)) 16 i (s 16 i + c) 0 3 = s 0 3 + e := by rw [wr_row _ _ _ _ (by decide), wr_same]
        have hE := h.2.1.same (s' := wr (wr (rwr s 8 f) 0 3 (s 0 3 + e)) 16 i (s 16 i + c)) (e0 1 (by decide)) (e0 2 (by decide)) (fun k hk => es k (by omega) (by omega) (by omega)) (by rw [es 10 (by decide) (by decide) (by decide), es 11 (by decide) (by decide) (by decide)]; exact h.2.1.2.2.2)
        obtain ⟨⟨d1, d2⟩, d3, d4⟩ := h.2.2
        have t3 : (s 0 3 + e).toInt = (s 0 3).toInt + e.toInt := ti_add (by omega) (by omega)
        refine ⟨⟨hL, hE, ?_⟩, ?_⟩
        · unfold IvC
          rw [e3, e0 4 (by decide), t3]
          exact ⟨⟨by omega, by omega⟩, d3, by omega⟩
        · unfold Mo
          rw [e3, e0 4 (by decide), t3]
          exact ⟨by omega, by omega⟩
  · rw [if_neg hc]; exact h.rf hN
theorem ou_nI {s : MG} (hI : IvM s) (hE : IvE s) {x : Nat} (hx : x < 50) : ∃ a, a ≤ 192 ∧ s 7 x = nI a := by
  have hp6 := (IvM_np hI).1
  obtain ⟨a, ha, hae⟩ := sumI_n (f := ouT s x) (b := 32) (npO s) (fun p hp => by
    unfold ouT
    split
    · exact ⟨_, outO_32 hI (by omega) _ _, rfl⟩
    · exact ⟨0, by omega, rfl⟩)
  exact ⟨a, by omega, (hE.2.1 x hx).trans hae⟩
theorem LE_strike {N : Nat} {s : MG} (h : LE N s) (hN : N + 1 ≤ 2048) (p : Int32) : LE (N + 1) (stStrike s p) ∧ Mo s (stStrike s p) := by
  have hL := LI_strike h.1 hN p
  by_cases hc : cdStrike s p = 0
  · have hc2 := hc
    unfold cdStrike at hc
    by_cases h1 : isN (npO s) p = false
    · rw [if_pos h1] at hc; cases hc
    · by_cases h3 : s 15 (iz p) = 0
      · rw [if_neg h1, if_pos h3] at hc; cases hc
      · have k1 : isN (npO s) p = true := by cases z : isN (npO s) p; (· exact absurd z h1); (· rfl)
        obtain ⟨-, hp9⟩ := isN_nI k1
        have hI := h.1.1
        have hp6 := (IvM_np hI).1
        have hf5 := (IvM_nf hI).1
        have h15 : s 15 (iz p) = 1 := (IvM_01 hI (by omega)).resolve_left h3
        have hs : ∀ k, k ≠ 7 → k ≠ 6 → k ≠ 8 → k ≠ 15 → k ≠ 0 → stStrike s p k = s k := fun k q1 q2 q3 q4 q5 => by
          funext j
          unfold stStrike
          rw [if_pos hc2, if_neg q1, if_neg q2, if_neg q3, if_neg q4, if_neg q5]
        have h0 : ∀ j, j ≠ 4 → stStrike s p 0 j = s 0 j := fun j hj => by
          unfold stStrike
          rw [if_pos hc2, if_neg (by decide), if_neg (by decide), if_neg (by decide), if_neg (by decide), if_pos rfl, if_neg hj]
        have h04 : stStrike s p 0 4 = s 0 4 + sumI (brO s (iz p)) 50 := by
          unfold stStrike
          rw [if_pos hc2, if_neg (by decide), if_neg (by decide), if_neg (by decide), if_neg (by decide), if_pos rfl, if_pos rfl]
        have h7 : ∀ j, j < 50 → stStrike s p 7 j = skO s (iz p) j := fun j hj => by
          unfold stStrike
          rw [if_pos hc2, if_pos rfl, if_pos hj]
        have e15 : ∀ j, stStrike s p 15 j = if j = iz p then 0 else s 15 j := fun j => by
          unfold stStrike
          rw [if_pos hc2, if_neg (by decide), if_neg (by decide), if_neg (by decide), if_pos rfl]
        generalize stStrike s p = s' at *
        generalize iz p = i at *
        have e3 : nfO s' = nfO s := by unfold nfO; rw [h0 1 (by decide)]
        have hnp : npO s' = npO s := by unfold npO; rw [h0 2 (by decide)]
        have hr : ∀ k, k = 5 ∨ (9 ≤ k ∧ k ≤ 14) ∨ (17 ≤ k ∧ k ≤ 20) → s' k = s k := fun k hk => hs k (by omega) (by omega) (by omega) (by omega) (by omega)
        have hnl : ∀ q, nlO s' q = nlO s q := fun q => by unfold nlO; rw [hr 14 (by omega)]
        have hz15 : ∀ q, s' 15 q = 1 → q ≠ i ∧ s 15 q = 1 := fun q hq => by
          rw [e15] at hq
          by_cases hqi : q = i
          · rw [if_pos hqi] at hq; exact absurd hq (by decide)
          · rw [if_neg hqi] at hq; exact ⟨hqi, hq⟩
        have hE : IvE s' := by
          refine ⟨fun q k hq hz hk => ?_, fun x hx => ?_, fun f hf => ?_, by rw [hr 10 (by omega), hr 11 (by omega)]; exact h.2.1.2.2.2⟩
          · rw [hnp] at hq; rw [hnl] at hk
            exact (h.2.1.1 q k hq (hz15 q hz).2 hk).c (by rw [hr 17 (by omega)]) (by rw [hr 18 (by omega)]) (by rw [hr 19 (by omega)]) (by rw [hr 20 (by omega)]) (by rw [hr 13 (by omega)]) (by rw [hr 5 (by omega)])
          · rw [hnp, h7 x hx]
            unfold skO
            rw [h.2.1.2.1 x hx]
            have e := sumI_one (f := ouT s x) (h := ouT s' x) (p := i) (npO s) hp9 (fun q hqi => (ouT_c (by rw [e15, if_neg hqi]) (hnl q) (fun k hk => ⟨by rw [hr 18 (by omega)], by rw [hr 20 (by omega)], by rw [hr 17 (by omega)]⟩)).symm)
            have e1 : ouT s x i = nI (outO s i (x / 10) (x % 10)) := by unfold ouT; rw [if_pos h15]
            have e2 : ouT s' x i = 0 := by unfold ouT; rw [e15, if_pos rfl]; rfl
            rw [e, e1, e2, Int32.sub_zero, Int32.add_sub_cancel]
          · rw [e3] at hf; rw [hr 5 (by omega)]; exact h.2.1.2.2.1 f hf
        have hb : ∀ j, j < 50 → ∃ a, a ≤ 9 ∧ brO s i j = nI a := fun j hj => by
          obtain ⟨⟨d1, d2⟩, d3, d4, d5, d6⟩ := h.1.2.2.2.2.2 j hj
          obtain ⟨a, ha, hae⟩ := ou_nI hL.1 hE hj
          rw [h7 j hj] at hae
          have ta : (skO s i j).toInt = a := by rw [hae]; exact nI_toInt (by omega)
          have hN1 := h.1.2.2.2.2.1
          have t6 : (s 6 j - skO s i j).toInt = (s 6 j).toInt - (skO s i j).toInt := ti_sub (by omega) (by omega)
          have t8 : (s 8 j / 400).toInt = (s 8 j).toInt.tdiv 400 := ti_div (by decide) (by omega)
          have t8a : (s 8 j).toInt.tdiv 400 = (s 8 j).toInt / 400 := Int.tdiv_eq_ediv_of_nonneg d5
          have ho := outO_32 hI (show i < 6 by omega) (j / 10) (j % 10)
          have t7 : (skO s i j).toInt = (s 7 j).toInt - (outO s i (j / 10) (j % 10) : Int) := by
            unfold skO
            rw [ti_sub (by rw [nI_toInt (by omega)]; omega) (by rw [nI_toInt (by omega)]; omega), nI_toInt (by omega)]
          have hbr : (brO s i j).toInt ≤ (s 6 j).toInt - (skO s i j).toInt ∧ 0 ≤ (brO s i j).toInt := by
            unfold brO mn
            split
            · next hlt => rw [i_lt, t6, t8, t8a] at hlt; rw [t6]; omega
            · next hlt => rw [i_lt, t6, t8, t8a] at hlt; rw [t8, t8a]; omega
          exact ti_nI hbr.2 (by omega) (by decide)
        obtain ⟨b, hb4, hbe⟩ := sumI_n 50 hb
        obtain ⟨⟨d1, d2⟩, d3, d4⟩ := h.2.2
        have hN1 := h.1.2.2.2.2.1
        have t4 : (s 0 4 + sumI (brO s i) 50).toInt = (s 0 4).toInt + (b : Int) := by
          rw [hbe, ti_add (by rw [nI_toInt (by omega)]; omega) (by rw [nI_toInt (by omega)]; omega), nI_toInt (by omega)]
        refine ⟨⟨hL, hE, ?_⟩, ?_⟩
        · unfold IvC
          rw [h0 3 (by decide), h04, t4]
          exact ⟨⟨d1, by omega⟩, by omega, by omega⟩
        · unfold Mo
          rw [h0 3 (by decide), h04, t4]
          exact ⟨by omega, by omega⟩
  · have : stStrike s p = s := by unfold stStrike; rw [if_neg hc]
    rw [this]; exact h.rf hN
