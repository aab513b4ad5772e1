/-! THE INVARIANTS, all together: kept by buy, buyAll, setOther, setTown, fount, poster, line -/
def LI (N : Nat) (s : MG) : Prop := IvM s ∧ IvF s ∧ IvZ s ∧ IvY s ∧ IvB N s
theorem IvY.c {s s' : MG} (h : IvY s) (h0 : s' 0 2 = s 0 2) (hs : ∀ k, 14 ≤ k → k ≤ 16 → s' k = s k) : IvY s' := by
  intro p hp hp6
  have e : npO s' = npO s := by unfold npO; rw [h0]
  rw [e] at hp
  rw [hs 14 (by decide) (by decide), hs 15 (by decide) (by decide), hs 16 (by decide) (by decide)]
  exact h p hp hp6
theorem LI.same {N : Nat} {s s' : MG} (h : LI N s) (hN : N + 1 ≤ 2048) (hM : IvM s') (h1 : s' 0 1 = s 0 1) (h2 : s' 0 2 = s 0 2) (h6 : ∀ k, 6 ≤ k → k ≤ 8 → s' k = s k) (h14 : ∀ k, 14 ≤ k → k ≤ 18 → s' k = s k) : LI (N + 1) s' :=
  ⟨hM, h.2.1.c (by unfold nfO; rw [h1]; exact Nat.le_refl _) h2 h14, h.2.2.1.c h1 h6, h.2.2.2.1.c h2 (fun k k1 k2 => h14 k k1 (by omega)), h.2.2.2.2.c hN h6⟩
theorem LI.rf {N : Nat} {s : MG} (h : LI N s) (hN : N + 1 ≤ 2048) : LI (N + 1) s := h.same hN h.1 rfl rfl (fun _ _ _ => rfl) (fun _ _ _ => rfl)
theorem LI_setOther {N : Nat} {s : MG} (h : LI N s) (hN : N + 1 ≤ 2048) (k o : Int32) : LI (N + 1) (stSetOther s k o) := by
  have hM := IvM_setOther h.1 k o
  unfold stSetOther at hM ⊢
  by_cases hc : cdSetOther k o = 0
  · rw [if_pos hc] at hM ⊢
    exact h.same hN hM (by rw [wr_row _ _ _ _ (by decide)]) (by rw [wr_row _ _ _ _ (by decide)]) (fun k k1 k2 => wr_row _ _ _ _ (by omega)) (fun k k1 k2 => wr_row _ _ _ _ (by omega))
  · rw [if_neg hc]; exact h.rf hN
theorem LI_setTown {N : Nat} {s : MG} (h : LI N s) (hN : N + 1 ≤ 2048) (t p v : Int32) : LI (N + 1) (stSetTown s t p v) := by
  have hM := IvM_setTown h.1 t p v
  unfold stSetTown at hM ⊢
  by_cases hc : cdSetTown t p v = 0
  · rw [if_pos hc] at hM ⊢
    exact h.same hN hM (by rw [wr_row _ _ _ _ (by decide), wr_row _ _ _ _ (by decide)]) (by rw [wr_row _ _ _ _ (by decide), wr_row _ _ _ _ (by decide)]) (fun k k1 k2 => by rw [wr_row _ _ _ _ (by omega), wr_row _ _ _ _ (by omega)]) (fun k k1 k2 => by rw [wr_row _ _ _ _ (by omega), wr_row _ _ _ _ (by omega)])
  · rw [if_neg hc]; exact h.rf hN
/-- blocks more, up to 9: what buy and buyAll leave -/
theorem LI_blocks {N : Nat} {s : MG} (h : LI N s) (hN : N + 1 ≤ 2048) {f : Nat} (hf : f < nfO s) {b : Nat → Int32} (hb : ∀ j, ¬ (10 * f ≤ j ∧ j < 10 * f + 10) → b j = s 6 j) (hb2 : ∀ j, 10 * f ≤ j → j < 10 * f + 10 → (s 6 j).toInt ≤ (b j).toInt ∧ (b j).toInt ≤ 9) {s' : MG} (h6 : s' 6 = b) (hs : ∀ k, k ≠ 6 → s' k = s k) : LI (N + 1) s' := by
  have hf5 := (IvM_nf h.1).1
  refine ⟨IvM_eq h.1 (by rw [hs 0 (by decide)]) (by rw [hs 0 (by decide)]) (fun k k1 k2 => hs k (by omega)), h.2.1.c (by unfold nfO; rw [hs 0 (by decide)]; exact Nat.le_refl _) (by rw [hs 0 (by decide)]) (fun k k1 k2 => hs k (by omega)), fun j j1 j2 => ?_, h.2.2.2.1.c (by rw [hs 0 (by decide)]) (fun k k1 k2 => hs k (by omega)), hN, fun j hj => ?_⟩
  · have e : nfO s' = nfO s := by unfold nfO; rw [hs 0 (by decide)]
    rw [e] at j1
    rw [h6, hs 7 (by decide), hs 8 (by decide), hb j (by omega)]
    exact h.2.2.1 j j1 j2
  · obtain ⟨⟨b1, b2⟩, b3, b4, b5, b6⟩ := h.2.2.2.2.2 j hj
    rw [h6, hs 7 (by decide), hs 8 (by decide)]
    by_cases hin : 10 * f ≤ j ∧ j < 10 * f + 10
    · obtain ⟨c1, c2⟩ := hb2 j hin.1 hin.2
      exact ⟨⟨by omega, by omega⟩, by omega, c2, b5, by omega⟩
    · rw [hb j hin]
      exact ⟨⟨by omega, by omega⟩, b3, b4, b5, by omega⟩
theorem LI_buy {N : Nat} {s : MG} (h : LI N s) (hN : N + 1 ≤ 2048) (f k v : Int32) : LI (N + 1) (stBuy s f k v) := by
  unfold stBuy
  by_cases hc : cdBuy s f k v = 0
  · rw [if_pos hc]
    unfold cdBuy at hc
    by_cases h1 : isFL s f k = false
    · rw [if_pos h1] at hc; cases hc
    · by_cases h2 : inB v 1 9 = false
      · rw [if_neg h1, if_pos h2] at hc; cases hc
      · by_cases h3 : 9 < s 6 (atO f k) + v
        · rw [if_neg h1, if_neg h2, if_pos h3] at hc; cases hc
        · have k1 : isFL s f k = true := by cases z : isFL s f k; (· exact absurd z h1); (· rfl)
          have k2 : inB v 1 9 = true := by cases z : inB v 1 9; (· exact absurd z h2); (· rfl)
          unfold isFL at k1
          rw [Bool.and_eq_true] at k1
          obtain ⟨-, hf⟩ := isN_nI k1.1
          obtain ⟨-, hk⟩ := isN_nI k1.2
          have hf5 := (IvM_nf h.1).1
          obtain ⟨v1, v2⟩ := inB_t.mp k2
          have z1 : (1 : Int32).toInt = 1 := rfl
          have z9 : (9 : Int32).toInt = 9 := rfl
          obtain ⟨⟨b1, b2⟩, b3, b4, -, -⟩ := h.2.2.2.2.2 (atO f k) (by unfold atO; omega)
          have hN1 := h.2.2.2.2.1
          have e9 : (s 6 (atO f k) + v).toInt = (s 6 (atO f k)).toInt + v.toInt := ti_add (by omega) (by omega)
          rw [i_lt, e9, z9] at h3
          refine LI_blocks h hN hf (b := upd (s 6) (atO f k) (s 6 (atO f k) + v)) (fun j hj => ?_) (fun j j1 j2 => ?_) (wr_own _ _ _ _) (fun q hq => wr_row _ _ _ _ hq)
          · unfold upd
            rw [if_neg]
            rintro rfl
            exact hj (by unfold atO; omega)
          · unfold upd
            by_cases hja : j = atO f k
            · rw [if_pos hja, hja, e9]; omega
            · rw [if_neg hja]
              obtain ⟨-, -, c4, -, -⟩ := h.2.2.2.2.2 j (by omega)
              exact ⟨Int.le_refl _, c4⟩
  · rw [if_neg hc]; exact h.rf hN
theorem LI_buyAll {N : Nat} {s : MG} (h : LI N s) (hN : N + 1 ≤ 2048) (f v : Int32) : LI (N + 1) (stBuyAll s f v) := by
  unfold stBuyAll
  by_cases hc : cdBuyAll s f v = 0
  · rw [if_pos hc]
    unfold cdBuyAll at hc
    by_cases h1 : isN (nfO s) f = false
    · rw [if_pos h1] at hc; cases hc
    · by_cases h2 : inB v 1 9 = false
      · rw [if_neg h1, if_pos h2] at hc; cases hc
      · have k1 : isN (nfO s) f = true := by cases z : isN (nfO s) f; (· exact absurd z h1); (· rfl)
        have k2 : inB v 1 9 = true := by cases z : inB v 1 9; (· exact absurd z h2); (· rfl)
        obtain ⟨-, hf⟩ := isN_nI k1
        have hf5 := (IvM_nf h.1).1
        obtain ⟨v1, v2⟩ := inB_t.mp k2
        have z1 : (1 : Int32).toInt = 1 := rfl
        have z9 : (9 : Int32).toInt = 9 := rfl
        have hN1 := h.2.2.2.2.1
        refine LI_blocks h hN hf (b := fun j => if 10 * iz f ≤ j ∧ j < 10 * iz f + 10 then s 6 j + moB s v j else s 6 j) (fun j hj => if_neg hj) (fun j j1 j2 => ?_) (rwr_same _ _ _) (fun q hq => rwr_ne _ _ _ hq)
        rw [if_pos ⟨j1, j2⟩]
        obtain ⟨⟨b1, b2⟩, b3, b4, -, -⟩ := h.2.2.2.2.2 j (by omega)
        have t1 : (9 - s 6 j).toInt = 9 - (s 6 j).toInt := by rw [ti_sub (by rw [z9]; omega) (by rw [z9]; omega), z9]
        have t2 : (moB s v j).toInt = v.toInt ∧ v.toInt ≤ 9 - (s 6 j).toInt ∨ (moB s v j).toInt = 9 - (s 6 j).toInt := by
          unfold moB mn
          split
          · right; exact t1
          · next hq => left; rw [i_lt, t1] at hq; exact ⟨rfl, by omega⟩
        have t3 : (s 6 j + moB s v j).toInt = (s 6 j).toInt + (moB s v j).toInt := ti_add (by omega) (by omega)
        rw [t3]
        omega
  · rw [if_neg hc]; exact h.rf hN
theorem LI_fount {N : Nat} {s : MG} (h : LI N s) (hN : N + 1 ≤ 2048) (x : Int32) : LI (N + 1) (stFount s x) := by
  unfold stFount
  by_cases hc : cdFount s x = 0
  · rw [if_pos hc]
    unfold cdFount at hc
    by_cases h1 : inB x 1 20 = false
    · rw [if_pos h1] at hc; cases hc
    · by_cases h2 : nfO s = 5
      · rw [if_neg h1, if_pos h2] at hc; cases hc
      · have hf5 := (IvM_nf h.1).1
        have es : ∀ k, k ≠ 5 → k ≠ 0 → wr (wr s 5 (nfO s) x) 0 1 (nI (nfO s + 1)) k = s k := fun k k1 k2 => by rw [wr_row _ _ _ _ k2, wr_row _ _ _ _ k1]
        have e0 : wr (wr s 5 (nfO s) x) 0 1 (nI (nfO s + 1)) 0 2 = s 0 2 := by rw [wr_ne _ _ _ _ (Or.inr (by decide)), wr_row _ _ _ _ (by decide)]
        have e1 : nfO (wr (wr s 5 (nfO s) x) 0 1 (nI (nfO s + 1))) = nfO s + 1 := by
          show iz (wr (wr s 5 (nfO s) x) 0 1 (nI (nfO s + 1)) 0 1) = _
          rw [wr_same]; exact iz_nI (by omega)
        obtain ⟨b1, b2, b3, b4, b5, b6, b7, b8⟩ := h.1
        refine ⟨⟨⟨nfO s + 1, by omega, wr_same _ _ _ _⟩, by rw [e0]; exact b2, by rw [es 9 (by decide) (by decide)]; exact b3, by rw [es 14 (by decide) (by decide)]; exact b4, by rw [es 12 (by decide) (by decide)]; exact b5, by rw [es 15 (by decide) (by decide)]; exact b6, by rw [es 17 (by decide) (by decide)]; exact b7, fun p k hp hz hk => ?_⟩, h.2.1.c (by rw [e1]; omega) e0 (fun k k1 k2 => es k (by omega) (by omega)), fun j j1 j2 => ?_, h.2.2.2.1.c e0 (fun k k1 k2 => es k (by omega) (by omega)), h.2.2.2.2.c hN (fun k k1 k2 => es k (by omega) (by omega))⟩
        · rw [es 15 (by decide) (by decide)] at hz
          have hk' : k < nlO s p := by unfold nlO at hk ⊢; rw [es 14 (by decide) (by decide)] at hk; exact hk
          rw [es 18 (by decide) (by decide), es 20 (by decide) (by decide)]
          exact b8 p k hp hz hk'
        · rw [e1] at j1
          rw [es 6 (by decide) (by decide), es 7 (by decide) (by decide), es 8 (by decide) (by decide)]
          exact h.2.2.1 j (by omega) j2
  · rw [if_neg hc]; exact h.rf hN
theorem LI_poster {N : Nat} {s : MG} (h : LI N s) (hN : N + 1 ≤ 2048) (t x : Int32) : LI (N + 1) (stPoster s t x) := by
  unfold stPoster
  by_cases hc : cdPoster s t x = 0
  · rw [if_pos hc]
    unfold cdPoster at hc
    by_cases h1 : isN 4 t = false
    · rw [if_pos h1] at hc; cases hc
    · by_cases h2 : inB x 1 20 = false
      · rw [if_neg h1, if_pos h2] at hc; cases hc
      · by_cases h3 : npO s = 6
        · rw [if_neg h1, if_neg h2, if_pos h3] at hc; cases hc
        · have k1 : isN 4 t = true := by cases z : isN 4 t; (· exact absurd z h1); (· rfl)
          obtain ⟨ht1, ht2⟩ := isN_nI k1
          have hp6 := (IvM_np h.1).1
          have es : ∀ z, z ≠ 12 → z ≠ 13 → z ≠ 0 → wr (wr (wr s 12 (npO s) t) 13 (npO s) x) 0 2 (nI (npO s + 1)) z = s z := fun z z1 z2 z3 => by rw [wr_row _ _ _ _ z3, wr_row _ _ _ _ z2, wr_row _ _ _ _ z1]
          have e0 : wr (wr (wr s 12 (npO s) t) 13 (npO s) x) 0 2 (nI (npO s + 1)) 0 1 = s 0 1 := by rw [wr_ne _ _ _ _ (Or.inr (by decide)), wr_row _ _ _ _ (by decide), wr_row _ _ _ _ (by decide)]
          have e12 : wr (wr (wr s 12 (npO s) t) 13 (npO s) x) 0 2 (nI (npO s + 1)) 12 = wr s 12 (npO s) t 12 := by rw [wr_row _ _ _ _ (by decide), wr_row _ _ _ _ (by decide)]
          have e2 : npO (wr (wr (wr s 12 (npO s) t) 13 (npO s) x) 0 2 (nI (npO s + 1))) = npO s + 1 := by
            show iz (wr (wr (wr s 12 (npO s) t) 13 (npO s) x) 0 2 (nI (npO s + 1)) 0 2) = _
            rw [wr_same]; exact iz_nI (by omega)
          have e3 : nfO (wr (wr (wr s 12 (npO s) t) 13 (npO s) x) 0 2 (nI (npO s + 1))) = nfO s := by unfold nfO; rw [e0]
          have hnl : ∀ p, nlO (wr (wr (wr s 12 (npO s) t) 13 (npO s) x) 0 2 (nI (npO s + 1))) p = nlO s p := fun p => by unfold nlO; rw [es 14 (by decide) (by decide) (by decide)]
          obtain ⟨b1, b2, b3, b4, b5, b6, b7, b8⟩ := h.1
          refine ⟨⟨by rw [e0]; exact b1, ⟨npO s + 1, by omega, wr_same _ _ _ _⟩, by rw [es 9 (by decide) (by decide) (by decide)]; exact b3, by rw [es 14 (by decide) (by decide) (by decide)]; exact b4, fun p hp => ?_, by rw [es 15 (by decide) (by decide) (by decide)]; exact b6, by rw [es 17 (by decide) (by decide) (by decide)]; exact b7, fun p k hp hz hk => ?_⟩, fun p k hp hz hk => ?_, h.2.2.1.c e0 (fun k k1 k2 => es k (by omega) (by omega) (by omega)), fun p hp hp9 => ?_, h.2.2.2.2.c hN (fun k k1 k2 => es k (by omega) (by omega) (by omega))⟩
          · rw [e12]
            by_cases hpn : p = npO s
            · rw [hpn, wr_same]; exact ⟨iz t, ht2, ht1⟩
            · rw [wr_ne _ _ _ _ (Or.inr hpn)]; exact b5 p hp
          · rw [es 15 (by decide) (by decide) (by decide)] at hz
            rw [hnl] at hk
            rw [es 18 (by decide) (by decide) (by decide), es 20 (by decide) (by decide) (by decide)]
            exact b8 p k hp hz hk
          · rw [e2] at hp
            rw [es 15 (by decide) (by decide) (by decide)] at hz
            rw [hnl] at hk
            rw [e3, es 18 (by decide) (by decide) (by decide)]
            by_cases hpn : p = npO s
            · exact absurd ((h.2.2.2.1 p (by omega) (by omega)).2.1.symm.trans hz) (by decide)
            · exact h.2.1 p k (by omega) hz hk
          · rw [e2] at hp
            rw [es 14 (by decide) (by decide) (by decide), es 15 (by decide) (by decide) (by decide), es 16 (by decide) (by decide) (by decide)]
            exact h.2.2.2.1 p (by omega) hp9
  · rw [if_neg hc]; exact h.rf hN
theorem LI_line {N : Nat} {s : MG} (h : LI N s) (hN : N + 1 ≤ 2048) (p v : Int32) : LI (N + 1) (stLine s p v) := by
  unfold stLine
  by_cases hc : cdLine s p v = 0
  · rw [if_pos hc]
    unfold cdLine at hc
    by_cases h1 : isN (npO s) p = false
    · rw [if_pos h1] at hc; cases hc
    · by_cases h2 : inB v 0 99999999 = false
      · rw [if_neg h1, if_pos h2] at hc; cases hc
      · by_cases h3 : s 15 (iz p) = 1 ∨ nlO s (iz p) = 4
        · rw [if_neg h1, if_neg h2, if_pos h3] at hc; cases hc
        · have k1 : isN (npO s) p = true := by cases z : isN (npO s) p; (· exact absurd z h1); (· rfl)
          have k2 : inB v 0 99999999 = true := by cases z : inB v 0 99999999; (· exact absurd z h2); (· rfl)
          obtain ⟨-, hp9⟩ := isN_nI k1
          have hp6 := (IvM_np h.1).1
          generalize iz p = i at hp9 h3
          have h4 := (IvM_nl h.1 (show i < 6 by omega)).2
          have es : ∀ z, z ≠ 17 → z ≠ 14 → wr (wr s 17 (4 * i + nlO s i) v) 14 i (nI (nlO s i + 1)) z = s z := fun z z1 z2 => by rw [wr_row _ _ _ _ z2, wr_row _ _ _ _ z1]
          have e17 : wr (wr s 17 (4 * i + nlO s i) v) 14 i (nI (nlO s i + 1)) 17 = wr s 17 (4 * i + nlO s i) v 17 := wr_row _ _ _ _ (by decide)
          have hnl : ∀ q, q ≠ i → nlO (wr (wr s 17 (4 * i + nlO s i) v) 14 i (nI (nlO s i + 1))) q = nlO s q := fun q hq => by unfold nlO; rw [wr_ne _ _ _ _ (Or.inr hq), wr_row _ _ _ _ (by decide)]
          have h3a : ¬ s 15 i = 1 := fun z => h3 (Or.inl z)
          have h3b : ¬ nlO s i = 4 := fun z => h3 (Or.inr z)
          obtain ⟨b1, b2, b3, b4, b5, b6, b7, b8⟩ := h.1
          refine ⟨⟨by rw [es 0 (by decide) (by decide)]; exact b1, by rw [es 0 (by decide) (by decide)]; exact b2, by rw [es 9 (by decide) (by decide)]; exact b3, fun q hq => ?_, by rw [es 12 (by decide) (by decide)]; exact b5, by rw [es 15 (by decide) (by decide)]; exact b6, fun j hj => ?_, fun q k hq hz hk => ?_⟩, fun q k hq hz hk => ?_, h.2.2.1.c (by rw [es 0 (by decide) (by decide)]) (fun k k1 k2 => es k (by omega) (by omega)), fun q hq hq9 => ?_, h.2.2.2.2.c hN (fun k k1 k2 => es k (by omega) (by omega))⟩
          · by_cases hqi : q = i
            · rw [hqi, wr_same]; exact ⟨nlO s i + 1, by omega, rfl⟩
            · rw [wr_ne _ _ _ _ (Or.inr hqi), wr_row _ _ _ _ (by decide)]; exact b4 q hq
          · rw [e17]
            by_cases hji : j = 4 * i + nlO s i
            · rw [hji, wr_same]
              obtain ⟨v1, v2⟩ := inB_t.mp k2
              exact ⟨iz v, iz_le v1 v2, (nI_iz v1).symm⟩
            · rw [wr_ne _ _ _ _ (Or.inr hji)]; exact b7 j hj
          · rw [es 15 (by decide) (by decide)] at hz
            have hqi : q ≠ i := by rintro rfl; exact h3a hz
            rw [hnl q hqi] at hk
            rw [es 18 (by decide) (by decide), es 20 (by decide) (by decide)]
            exact b8 q k hq hz hk
          · rw [es 15 (by decide) (by decide)] at hz
            have hqi : q ≠ i := by rintro rfl; exact h3a hz
            rw [hnl q hqi] at hk
            have hq' : q < npO s := by unfold npO at hq ⊢; rw [es 0 (by decide) (by decide)] at hq; exact hq
            rw [es 18 (by decide) (by decide), show nfO (wr (wr s 17 (4 * i + nlO s i) v) 14 i (nI (nlO s i + 1))) = nfO s by unfold nfO; rw [es 0 (by decide) (by decide)]]
            exact h.2.1 q k hq' hz hk
          · have hq' : npO s ≤ q := by unfold npO at hq ⊢; rw [es 0 (by decide) (by decide)] at hq; exact hq
            have hqi : q ≠ i := by omega
            rw [wr_ne _ _ _ _ (Or.inr hqi), wr_row _ _ _ _ (by decide), es 15 (by decide) (by decide), es 16 (by decide) (by decide)]
            exact h.2.2.2.1 q hq' hq9
  · rw [if_neg hc]; exact h.rf hN
