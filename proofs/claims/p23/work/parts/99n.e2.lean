/-! WHAT THE LAW ASKS BESIDES: kept by every call -/
theorem LE.same {N : Nat} {s s' : MG} (h : LE N s) (hL : LI (N + 1) s') (h0 : s' 0 = s 0) (hs : ∀ k, (k = 5 ∨ k = 7 ∨ (12 ≤ k ∧ k ≤ 15) ∨ (17 ≤ k ∧ k ≤ 20)) → s' k = s k) (ht : ∀ t, t < 4 → (0 ≤ (s' 10 t).toInt ∧ (s' 10 t).toInt ≤ 9) ∧ 0 ≤ (s' 11 t).toInt ∧ (s' 11 t).toInt ≤ 30) : LE (N + 1) s' ∧ Mo s s' :=
  ⟨⟨hL, h.2.1.same (by rw [h0]) (by rw [h0]) hs ht, h.2.2.up (by rw [h0]) (by rw [h0])⟩, Mo.eq (by rw [h0]) (by rw [h0])⟩
theorem LE.rf {N : Nat} {s : MG} (h : LE N s) (hN : N + 1 ≤ 2048) : LE (N + 1) s ∧ Mo s s := h.same (h.1.rf hN) rfl (fun _ _ => rfl) h.2.1.2.2.2
theorem LE_setOther {N : Nat} {s : MG} (h : LE N s) (hN : N + 1 ≤ 2048) (k o : Int32) : LE (N + 1) (stSetOther s k o) ∧ Mo s (stSetOther s k o) := by
  have hL := LI_setOther h.1 hN k o
  unfold stSetOther at hL ⊢
  by_cases hc : cdSetOther k o = 0
  · rw [if_pos hc] at hL ⊢
    exact h.same hL (wr_row _ _ _ _ (by decide)) (fun q hq => wr_row _ _ _ _ (by omega)) (by rw [wr_row _ _ _ _ (by decide), wr_row _ _ _ _ (by decide)]; exact h.2.1.2.2.2)
  · rw [if_neg hc]; exact h.rf hN
theorem LE_setTown {N : Nat} {s : MG} (h : LE N s) (hN : N + 1 ≤ 2048) (t p v : Int32) : LE (N + 1) (stSetTown s t p v) ∧ Mo s (stSetTown s t p v) := by
  have hL := LI_setTown h.1 hN t p v
  unfold stSetTown at hL ⊢
  by_cases hc : cdSetTown t p v = 0
  · rw [if_pos hc] at hL ⊢
    unfold cdSetTown at hc
    by_cases h1 : isN 4 t = false
    · rw [if_pos h1] at hc; cases hc
    · by_cases h2 : inB p 0 9 = false ∨ inB v 0 30 = false
      · rw [if_neg h1, if_pos h2] at hc; cases hc
      · have k2 : inB p 0 9 = true := by cases z : inB p 0 9; (· exact absurd (Or.inl z) h2); (· rfl)
        have k3 : inB v 0 30 = true := by cases z : inB v 0 30; (· exact absurd (Or.inr z) h2); (· rfl)
        have k2 := inB_t.mp k2
        have k3 := inB_t.mp k3
        have z0 : (0 : Int32).toInt = 0 := rfl
        have z9 : (9 : Int32).toInt = 9 := rfl
        have z30 : (30 : Int32).toInt = 30 := rfl
        refine h.same hL (by rw [wr_row _ _ _ _ (by decide), wr_row _ _ _ _ (by decide)]) (fun q hq => by rw [wr_row _ _ _ _ (by omega), wr_row _ _ _ _ (by omega)]) (fun q hq => ?_)
        obtain ⟨⟨a1, a2⟩, a3, a4⟩ := h.2.1.2.2.2 q hq
        by_cases hqt : q = iz t
        · rw [hqt, wr_same, wr_row _ _ _ _ (by decide), wr_same]
          exact ⟨⟨by omega, by omega⟩, by omega, by omega⟩
        · have e10 : wr (wr s 10 (iz t) p) 11 (iz t) v 10 q = s 10 q := by rw [wr_row _ _ _ _ (by decide), wr_ne _ _ _ _ (Or.inr hqt)]
          have e11 : wr (wr s 10 (iz t) p) 11 (iz t) v 11 q = s 11 q := by rw [wr_ne _ _ _ _ (Or.inr hqt), wr_row _ _ _ _ (by decide)]
          rw [e10, e11]
          exact ⟨⟨a1, a2⟩, a3, a4⟩
  · rw [if_neg hc]; exact h.rf hN
theorem LE_buy {N : Nat} {s : MG} (h : LE N s) (hN : N + 1 ≤ 2048) (f k v : Int32) : LE (N + 1) (stBuy s f k v) ∧ Mo s (stBuy s f k v) := by
  have hL := LI_buy h.1 hN f k v
  unfold stBuy at hL ⊢
  by_cases hc : cdBuy s f k v = 0
  · rw [if_pos hc] at hL ⊢
    exact h.same hL (wr_row _ _ _ _ (by decide)) (fun q hq => wr_row _ _ _ _ (by omega)) (by rw [wr_row _ _ _ _ (by decide), wr_row _ _ _ _ (by decide)]; exact h.2.1.2.2.2)
  · rw [if_neg hc]; exact h.rf hN
theorem LE_buyAll {N : Nat} {s : MG} (h : LE N s) (hN : N + 1 ≤ 2048) (f v : Int32) : LE (N + 1) (stBuyAll s f v) ∧ Mo s (stBuyAll s f v) := by
  have hL := LI_buyAll h.1 hN f v
  unfold stBuyAll at hL ⊢
  by_cases hc : cdBuyAll s f v = 0
  · rw [if_pos hc] at hL ⊢
    exact h.same hL (rwr_ne _ _ _ (by decide)) (fun q hq => rwr_ne _ _ _ (by omega)) (by rw [rwr_ne _ _ _ (by decide), rwr_ne _ _ _ (by decide)]; exact h.2.1.2.2.2)
  · rw [if_neg hc]; exact h.rf hN
theorem LE_fount {N : Nat} {s : MG} (h : LE N s) (hN : N + 1 ≤ 2048) (x : Int32) : LE (N + 1) (stFount s x) ∧ Mo s (stFount s x) := by
  have hL := LI_fount h.1 hN x
  have hf5 := (IvM_nf h.1.1).1
  unfold stFount at hL ⊢
  by_cases hc : cdFount s x = 0
  · rw [if_pos hc] at hL ⊢
    unfold cdFount at hc
    by_cases h1 : inB x 1 20 = false
    · rw [if_pos h1] at hc; cases hc
    · by_cases h2 : nfO s = 5
      · rw [if_neg h1, if_pos h2] at hc; cases hc
      · have k1 : inB x 1 20 = true := by cases z : inB x 1 20; (· exact absurd z h1); (· rfl)
        have k1 := inB_t.mp k1
        have z1 : (1 : Int32).toInt = 1 := rfl
        have z20 : (20 : Int32).toInt = 20 := rfl
        have es : ∀ k, k ≠ 5 → k ≠ 0 → wr (wr s 5 (nfO s) x) 0 1 (nI (nfO s + 1)) k = s k := fun k k1 k2 => by rw [wr_row _ _ _ _ k2, wr_row _ _ _ _ k1]
        have e0 : ∀ j, j ≠ 1 → wr (wr s 5 (nfO s) x) 0 1 (nI (nfO s + 1)) 0 j = s 0 j := fun j hj => by rw [wr_ne _ _ _ _ (Or.inr hj), wr_row _ _ _ _ (by decide)]
        have e1 : nfO (wr (wr s 5 (nfO s) x) 0 1 (nI (nfO s + 1))) = nfO s + 1 := by
          show iz (wr (wr s 5 (nfO s) x) 0 1 (nI (nfO s + 1)) 0 1) = _
          rw [wr_same]; exact iz_nI (by omega)
        have e5 : ∀ j, j ≠ nfO s → wr (wr s 5 (nfO s) x) 0 1 (nI (nfO s + 1)) 5 j = s 5 j := fun j hj => by rw [wr_row _ _ _ _ (by decide), wr_ne _ _ _ _ (Or.inr hj)]
        have e55 : wr (wr s 5 (nfO s) x) 0 1 (nI (nfO s + 1)) 5 (nfO s) = x := by rw [wr_row _ _ _ _ (by decide), wr_same]
        generalize wr (wr s 5 (nfO s) x) 0 1 (nI (nfO s + 1)) = s' at *
        have e2 : npO s' = npO s := by unfold npO; rw [e0 2 (by decide)]
        have e4 : ∀ p, nlO s' p = nlO s p := fun p => by unfold nlO; rw [es 14 (by decide) (by decide)]
        refine ⟨⟨hL, ⟨fun p q hp hz hq => ?_, fun x hx => ?_, fun f hf => ?_, by rw [es 10 (by decide) (by decide), es 11 (by decide) (by decide)]; exact h.2.1.2.2.2⟩, h.2.2.up (e0 3 (by decide)) (e0 4 (by decide))⟩, Mo.eq (e0 3 (by decide)) (e0 4 (by decide))⟩
        · rw [e2] at hp; rw [e4] at hq; rw [es 15 (by decide) (by decide)] at hz
          obtain ⟨f, hf, hfe⟩ := h.1.2.1 p q hp hz hq
          exact (h.2.1.1 p q hp hz hq).c (by rw [es 17 (by decide) (by decide)]) (by rw [es 18 (by decide) (by decide)]) (by rw [es 19 (by decide) (by decide)]) (by rw [es 20 (by decide) (by decide)]) (by rw [es 13 (by decide) (by decide)]) (e5 _ (by rw [hfe, iz_nI (by omega)]; omega))
        · rw [e2, es 7 (by decide) (by decide), h.2.1.2.1 x hx]
          exact (sumI_cong _ (fun p _ => ouT_c (by rw [es 15 (by decide) (by decide)]) (e4 p) (fun q _ => ⟨by rw [es 18 (by decide) (by decide)], by rw [es 20 (by decide) (by decide)], by rw [es 17 (by decide) (by decide)]⟩))).symm
        · rw [e1] at hf
          by_cases hfn : f = nfO s
          · rw [hfn, e55]; omega
          · rw [e5 f hfn]; exact h.2.1.2.2.1 f (by omega)
  · rw [if_neg hc]; exact h.rf hN
theorem LE_poster {N : Nat} {s : MG} (h : LE N s) (hN : N + 1 ≤ 2048) (t x : Int32) : LE (N + 1) (stPoster s t x) ∧ Mo s (stPoster s t x) := by
  have hL := LI_poster h.1 hN t x
  have hp6 := (IvM_np h.1.1).1
  unfold stPoster at hL ⊢
  by_cases hc : cdPoster s t x = 0
  · rw [if_pos hc] at hL ⊢
    unfold cdPoster at hc
    by_cases h1 : isN 4 t = false
    · rw [if_pos h1] at hc; cases hc
    · by_cases h2 : inB x 1 20 = false
      · rw [if_neg h1, if_pos h2] at hc; cases hc
      · by_cases h3 : npO s = 6
        · rw [if_neg h1, if_neg h2, if_pos h3] at hc; cases hc
        · have es : ∀ z, z ≠ 12 → z ≠ 13 → z ≠ 0 → wr (wr (wr s 12 (npO s) t) 13 (npO s) x) 0 2 (nI (npO s + 1)) z = s z := fun z z1 z2 z3 => by rw [wr_row _ _ _ _ z3, wr_row _ _ _ _ z2, wr_row _ _ _ _ z1]
          have e0 : ∀ j, j ≠ 2 → wr (wr (wr s 12 (npO s) t) 13 (npO s) x) 0 2 (nI (npO s + 1)) 0 j = s 0 j := fun j hj => by rw [wr_ne _ _ _ _ (Or.inr hj), wr_row _ _ _ _ (by decide), wr_row _ _ _ _ (by decide)]
          have e2 : npO (wr (wr (wr s 12 (npO s) t) 13 (npO s) x) 0 2 (nI (npO s + 1))) = npO s + 1 := by
            show iz (wr (wr (wr s 12 (npO s) t) 13 (npO s) x) 0 2 (nI (npO s + 1)) 0 2) = _
            rw [wr_same]; exact iz_nI (by omega)
          have e13 : ∀ p, p ≠ npO s → wr (wr (wr s 12 (npO s) t) 13 (npO s) x) 0 2 (nI (npO s + 1)) 13 p = s 13 p := fun p hp => by rw [wr_row _ _ _ _ (by decide), wr_ne _ _ _ _ (Or.inr hp), wr_row _ _ _ _ (by decide)]
          generalize wr (wr (wr s 12 (npO s) t) 13 (npO s) x) 0 2 (nI (npO s + 1)) = s' at *
          have e1 : nfO s' = nfO s := by unfold nfO; rw [e0 1 (by decide)]
          have e15 : s' 15 = s 15 := es 15 (by decide) (by decide) (by decide)
          have e4 : ∀ p, nlO s' p = nlO s p := fun p => by unfold nlO; rw [es 14 (by decide) (by decide) (by decide)]
          have hn : s 15 (npO s) = 0 := (h.1.2.2.2.1 (npO s) (Nat.le_refl _) (by omega)).2.1
          refine ⟨⟨hL, ⟨fun p q hp hz hq => ?_, fun x hx => ?_, fun f hf => ?_, by rw [es 10 (by decide) (by decide) (by decide), es 11 (by decide) (by decide) (by decide)]; exact h.2.1.2.2.2⟩, h.2.2.up (e0 3 (by decide)) (e0 4 (by decide))⟩, Mo.eq (e0 3 (by decide)) (e0 4 (by decide))⟩
          · rw [e2] at hp; rw [e4] at hq; rw [e15] at hz
            have hpn : p ≠ npO s := fun z => by rw [z, hn] at hz; exact absurd hz (by decide)
            exact (h.2.1.1 p q (by omega) hz hq).c (by rw [es 17 (by decide) (by decide) (by decide)]) (by rw [es 18 (by decide) (by decide) (by decide)]) (by rw [es 19 (by decide) (by decide) (by decide)]) (by rw [es 20 (by decide) (by decide) (by decide)]) (e13 p hpn) (by rw [es 5 (by decide) (by decide) (by decide)])
          · rw [e2, es 7 (by decide) (by decide) (by decide), h.2.1.2.1 x hx, sumI]
            have e9 : ouT s' x (npO s) = 0 := by
              unfold ouT
              rw [e15, hn]
              rfl
            rw [e9, Int32.add_zero]
            exact (sumI_cong _ (fun p _ => ouT_c (by rw [e15]) (e4 p) (fun q _ => ⟨by rw [es 18 (by decide) (by decide) (by decide)], by rw [es 20 (by decide) (by decide) (by decide)], by rw [es 17 (by decide) (by decide) (by decide)]⟩))).symm
          · rw [e1] at hf; rw [es 5 (by decide) (by decide) (by decide)]; exact h.2.1.2.2.1 f hf
  · rw [if_neg hc]; exact h.rf hN
theorem LE_line {N : Nat} {s : MG} (h : LE N s) (hN : N + 1 ≤ 2048) (p v : Int32) : LE (N + 1) (stLine s p v) ∧ Mo s (stLine s p v) := by
  have hL := LI_line h.1 hN p v
  have hp6 := (IvM_np h.1.1).1
  unfold stLine at hL ⊢
  by_cases hc : cdLine s p v = 0
  · rw [if_pos hc] at hL ⊢
    unfold cdLine at hc
    by_cases h1 : isN (npO s) p = false
    · rw [if_pos h1] at hc; cases hc
    · by_cases h2 : inB v 0 99999999 = false
      · rw [if_neg h1, if_pos h2] at hc; cases hc
      · by_cases h3 : s 15 (iz p) = 1 ∨ nlO s (iz p) = 4
        · rw [if_neg h1, if_neg h2, if_pos h3] at hc; cases hc
        · have k1 : isN (npO s) p = true := by cases z : isN (npO s) p; (· exact absurd z h1); (· rfl)
          obtain ⟨-, hp9⟩ := isN_nI k1
          generalize iz p = i at *
          have h15 : ¬ s 15 i = 1 := fun z => h3 (Or.inl z)
          have h4 := (IvM_nl h.1.1 (show i < 6 by omega)).2
          have es : ∀ z, z ≠ 17 → z ≠ 14 → wr (wr s 17 (4 * i + nlO s i) v) 14 i (nI (nlO s i + 1)) z = s z := fun z z1 z2 => by rw [wr_row _ _ _ _ z2, wr_row _ _ _ _ z1]
          have hnl : ∀ q, q ≠ i → nlO (wr (wr s 17 (4 * i + nlO s i) v) 14 i (nI (nlO s i + 1))) q = nlO s q := fun q hq => by unfold nlO; rw [wr_ne _ _ _ _ (Or.inr hq), wr_row _ _ _ _ (by decide)]
          have e17 : ∀ j, j ≠ 4 * i + nlO s i → wr (wr s 17 (4 * i + nlO s i) v) 14 i (nI (nlO s i + 1)) 17 j = s 17 j := fun j hj => by rw [wr_row _ _ _ _ (by decide), wr_ne _ _ _ _ (Or.inr hj)]
          generalize wr (wr s 17 (4 * i + nlO s i) v) 14 i (nI (nlO s i + 1)) = s' at *
          have e0 : s' 0 = s 0 := es 0 (by decide) (by decide)
          have e1 : nfO s' = nfO s := by unfold nfO; rw [e0]
          have e2 : npO s' = npO s := by unfold npO; rw [e0]
          have e15 : s' 15 = s 15 := es 15 (by decide) (by decide)
          refine ⟨⟨hL, ⟨fun q k hq hz hk => ?_, fun x hx => ?_, fun f hf => ?_, by rw [es 10 (by decide) (by decide), es 11 (by decide) (by decide)]; exact h.2.1.2.2.2⟩, h.2.2.up (by rw [e0]) (by rw [e0])⟩, Mo.eq (by rw [e0]) (by rw [e0])⟩
          · rw [e2] at hq; rw [e15] at hz
            have hqi : q ≠ i := fun z => h15 (by rw [← z]; exact hz)
            rw [hnl q hqi] at hk
            have hq4 := (IvM_nl h.1.1 (show q < 6 by omega)).2
            exact (h.2.1.1 q k hq hz hk).c (e17 _ (by omega)) (by rw [es 18 (by decide) (by decide)]) (by rw [es 19 (by decide) (by decide)]) (by rw [es 20 (by decide) (by decide)]) (by rw [es 13 (by decide) (by decide)]) (by rw [es 5 (by decide) (by decide)])
          · rw [e2, es 7 (by decide) (by decide), h.2.1.2.1 x hx]
            refine (sumI_cong _ (fun q hq => ?_)).symm
            by_cases hqi : q = i
            · unfold ouT
              rw [e15, hqi, if_neg h15, if_neg h15]
            · have hq4 := (IvM_nl h.1.1 (show q < 6 by omega)).2
              exact ouT_c (by rw [e15]) (hnl q hqi) (fun k hk => ⟨by rw [es 18 (by decide) (by decide)], by rw [es 20 (by decide) (by decide)], e17 _ (by omega)⟩)
          · rw [e1] at hf; rw [es 5 (by decide) (by decide)]; exact h.2.1.2.2.1 f hf
  · rw [if_neg hc]; exact h.rf hN
