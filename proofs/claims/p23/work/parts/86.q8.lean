/-! THE LAW'S SHOP, every row where it belongs: it is the shop still -/
section CN2
variable {s m : MG} {σ ad : Nat → Nat}
theorem cnM_p0 {p : Nat} (h5 : nfO s ≤ 5) (hp : p < npO s) : cnM s m σ (700 + 20 * p) = cnQ p (m (σ (700 + 20 * p))) := (cnM_P (q := 0) h5 hp (by decide)).trans (if_pos rfl)
theorem cnM_p1 {p : Nat} (h5 : nfO s ≤ 5) (hp : p < npO s) : cnM s m σ (701 + 20 * p) = rfN (nlO s p) (fun j => 705 + 20 * p + j) (m (σ (701 + 20 * p))) := (congrArg (cnM s m σ) (show 701 + 20 * p = 700 + 20 * p + 1 by omega)).trans ((cnM_P h5 hp (by decide)).trans rfl)
theorem cnM_p4 {p : Nat} (h5 : nfO s ≤ 5) (hp : p < npO s) (h15 : s 15 p = 1) : cnM s m σ (704 + 20 * p) = rfN (nlO s p) (fun j => 710 + 20 * p + j) (m (σ (704 + 20 * p))) := (congrArg (cnM s m σ) (show 704 + 20 * p = 700 + 20 * p + 4 by omega)).trans ((cnM_P h5 hp (by decide)).trans (if_pos h15))
theorem cnM_pi {p q k : Nat} (h5 : nfO s ≤ 5) (hp : p < npO s) (h4 : nlO s p ≤ 4) (hk : k = 700 + 20 * p + q) (hq : q = 2 ∨ q = 3 ∨ (5 ≤ q ∧ q < 5 + nlO s p) ∨ (10 ≤ q ∧ q < 10 + nlO s p ∧ s 15 p = 1)) : cnM s m σ k = m (σ k) := by
  subst hk
  rw [cnM_P h5 hp (by omega)]
  unfold cnP
  rw [if_neg (by omega), if_neg (by omega), if_neg (by omega), if_pos hq]
theorem nI_fW {k : Nat} (hk : 600 ≤ k ∧ k < 900) (hσ : ∀ k, 600 ≤ k → k < 900 → 600 ≤ σ k ∧ σ k < 1200) {x : Int32} (hx : x = nI (σ k)) : fW (fun k => if k < 600 then ad k else ad (σ k)) (nI k) = fW ad x := by
  rw [hx, fW_nI ⟨hk.1, by omega⟩, fW_nI (hσ _ hk.1 hk.2), if_neg (by omega)]
theorem Cn_E (hC : Cn s m σ) (h5 : nfO s ≤ 5) (hp6 : npO s ≤ 6) (h4 : ∀ p, p < npO s → nlO s p ≤ 4) (hσ : ∀ k, 600 ≤ k → k < 900 → 600 ≤ σ k ∧ σ k < 1200) : ∀ k, cnM s m σ k 100000 ≠ 0 → (600 ≤ k ∧ k < 900) ∧ RwE ad (fun k => if k < 600 then ad k else ad (σ k)) (m (σ k)) (cnM s m σ k) := by
  obtain ⟨⟨a0, a1, a2, a3, a4, a5, a6, a7⟩, ⟨⟨b1, b2⟩, ⟨b3, b4⟩, b5⟩, c1, ⟨d1, d2⟩, ⟨e1, e2⟩, ⟨f1, f2⟩, g1⟩ := hC
  refine cnM_all (m := m) (σ := σ) h5 ?_ ?_ ?_ ?_ ?_ ?_ ?_ ?_
  · refine fun _ => ⟨by decide, ?_⟩
    rw [cnM_600]
    refine Or.inr (Or.inr (Or.inr ⟨a0, a0, ?_⟩))
    show [_, _, va_rf (fW _ (nI 601)), va_rf (fW _ (nI 602)), va_rf (fW _ (nI 603)), va_rf (fW _ (nI 604)), va_rf (fW _ (nI 605))] = [_, _, _, _, _, _, _]
    rw [nI_fW (ad := ad) (by decide) hσ a3, nI_fW (ad := ad) (by decide) hσ a4, nI_fW (ad := ad) (by decide) hσ a5, nI_fW (ad := ad) (by decide) hσ a6, nI_fW (ad := ad) (by decide) hσ a7]
    rfl
  · refine fun _ => ⟨by decide, ?_⟩
    rw [cnM_602]
    exact rfN_E (Or.inr (Or.inl b3.1)) b3.2 (by omega) (fun j hj => ⟨b4 j hj, by omega, by omega⟩) hσ
  · refine fun _ => ⟨by decide, ?_⟩
    rw [cnM_604]
    exact rfN_E (Or.inl e1.1) e1.2 (by omega) (fun j hj => ⟨(e2 j hj).1, by omega, by omega⟩) hσ
  · refine fun _ => ⟨by decide, ?_⟩
    rw [cnM_605]
    exact rfN_E (Or.inr (Or.inr f1.1)) f1.2 (by omega) (fun j hj => ⟨f2 j hj, by omega, by omega⟩) hσ
  · refine fun f hf _ => ⟨by omega, ?_⟩
    rw [cnM_610 hf h5]
    exact rfN_E (Or.inl (b5 f hf).1.1) (b5 f hf).1.2 (by omega) (fun j hj => ⟨(b5 f hf).2 j hj, by omega, by omega⟩) hσ
  · refine fun k hk _ => ⟨by omega, ?_⟩
    rw [cnM_i h5 hk]
    refine Or.inl ⟨?_, rfl⟩
    rcases hk with rfl | rfl | hk | hk
    · exact b1.1
    · exact d1.1
    · have := (e2 (k - 606) (by omega)).2.1.1
      rwa [show 606 + (k - 606) = k by omega] at this
    · have := (c1 ((k - 620) / 10) ((k - 620) % 10) (by omega) (by omega)).1.1
      rwa [show 620 + 10 * ((k - 620) / 10) + (k - 620) % 10 = k by omega] at this
  · refine fun p q hp hq hz => ⟨by omega, ?_⟩
    obtain ⟨⟨p0, p1, p2, p3, p4, p5, p6, p7, p8⟩, ⟨l1, l2⟩, ⟨n1, -, x1⟩, ⟨n2, -, x2, -⟩, x3⟩ := g1 p hp
    have hn4 := h4 p hp
    rw [cnM_P h5 hp hq] at hz ⊢
    unfold cnP at hz ⊢
    by_cases h0 : q = 0
    · subst h0
      rw [if_pos rfl]
      refine Or.inr (Or.inr (Or.inl ⟨p0, p0, ?_⟩))
      show [_, _, va_rf (fW _ (nI (701 + 20 * p))), _, _, va_rf (fW _ (nI (702 + 20 * p))), va_rf (fW _ (nI (703 + 20 * p))), va_rf (fW _ (nI (704 + 20 * p)))] = [_, _, _, _, _, _, _, _]
      rw [nI_fW (ad := ad) (by omega) hσ p3, nI_fW (ad := ad) (by omega) hσ p6, nI_fW (ad := ad) (by omega) hσ p7, nI_fW (ad := ad) (by omega) hσ p8]
      rfl
    rw [if_neg h0] at hz ⊢
    by_cases h1 : q = 1
    · subst h1
      rw [if_pos rfl, show 700 + 20 * p + 1 = 701 + 20 * p by omega]
      exact rfN_E (Or.inl l1.1) l1.2 (by omega) (fun j hj => ⟨(l2 j hj).1, by omega, by omega⟩) hσ
    rw [if_neg h1] at hz ⊢
    by_cases h3 : q = 4
    · subst h3
      rw [if_pos rfl] at hz ⊢
      by_cases h15 : s 15 p = 1
      · rw [if_pos h15, show 700 + 20 * p + 4 = 704 + 20 * p by omega]
        obtain ⟨-, y1, y2⟩ := x3 h15
        exact rfN_E (Or.inl y1.1) y1.2 (by omega) (fun j hj => ⟨(y2 j hj).2.2.1, by omega, by omega⟩) hσ
      · rw [if_neg h15] at hz
        exact absurd rfl hz
    rw [if_neg h3] at hz ⊢
    by_cases h9 : q = 2 ∨ q = 3 ∨ (5 ≤ q ∧ q < 5 + nlO s p) ∨ (10 ≤ q ∧ q < 10 + nlO s p ∧ s 15 p = 1)
    · rw [if_pos h9]
      refine Or.inl ⟨?_, rfl⟩
      rcases h9 with rfl | rfl | h9 | h9
      · rw [show 700 + 20 * p + 2 = 702 + 20 * p by omega]; exact x1.1
      · rw [show 700 + 20 * p + 3 = 703 + 20 * p by omega]; exact x2.1
      · have := (l2 (q - 5) (by omega)).2.1.1
        rwa [show 705 + 20 * p + (q - 5) = 700 + 20 * p + q by omega] at this
      · have := ((x3 h9.2.2).2.2 (q - 10) (by omega)).2.2.2.1.1
        rwa [show 710 + 20 * p + (q - 10) = 700 + 20 * p + q by omega] at this
    · rw [if_neg h9] at hz
      exact absurd rfl hz
  · refine fun k hk hz => ?_
    rw [hk] at hz
    exact absurd rfl hz
theorem RfR_1 {r : Nat → Int32} {T : Nat} (h : r 100000 = 1) : RfR r T := fun j hj => by rw [h] at hj; exact absurd hj (by simp [isrf])
theorem Cn_Fr (hC : Cn s m σ) (h5 : nfO s ≤ 5) (hp6 : npO s ≤ 6) (h4 : ∀ p, p < npO s → nlO s p ≤ 4) (hσ : ∀ k, 600 ≤ k → k < 900 → 600 ≤ σ k ∧ σ k < 1200) : Fr (cnM s m σ) 900 := by
  have hE := Cn_E (ad := id) hC h5 hp6 h4 hσ
  have iz1 : iz (1 : Int32) = 1 := rfl
  have iz2 : iz (2 : Int32) = 2 := rfl
  have iz3 : iz (3 : Int32) = 3 := rfl
  have iz4 : iz (4 : Int32) = 4 := rfl
  obtain ⟨⟨a0, a1, a2, a3, a4, a5, a6, a7⟩, ⟨⟨b1, b2⟩, ⟨b3, b4⟩, b5⟩, c1, ⟨d1, d2⟩, ⟨e1, e2⟩, ⟨f1, f2⟩, g1⟩ := hC
  have hz0 : RfR (fun _ => (0 : Int32)) 900 := fun j hj => by
    have : isrf (0 : Int32) j = true := hj
    exact absurd this (by simp [isrf])
  refine ⟨⟨by decide, by decide⟩, fun k hk => ?_, fun k _ _ => ?_⟩
  · by_cases hz : cnM s m σ k 100000 = 0
    · exact hz
    · have := (hE k hz).1.2; omega
  revert k
  have : ∀ k, RfR (cnM s m σ k) 900 := by
    refine cnM_all (m := m) (σ := σ) h5 ?_ ?_ ?_ ?_ ?_ ?_ ?_ ?_
    · rw [cnM_600]
      intro j hj
      rw [show cnS (m (σ 600)) 100000 = 6 from a0] at hj
      have hj : j = 2 ∨ j = 3 ∨ j = 4 ∨ j = 5 ∨ j = 6 := by simpa [isrf, or_assoc] using hj
      rcases hj with rfl | rfl | rfl | rfl | rfl
      · show iz (nI 601) < 900; rw [iz_nI (by decide)]; decide
      · show iz (nI 602) < 900; rw [iz_nI (by decide)]; decide
      · show iz (nI 603) < 900; rw [iz_nI (by decide)]; decide
      · show iz (nI 604) < 900; rw [iz_nI (by decide)]; decide
      · show iz (nI 605) < 900; rw [iz_nI (by decide)]; decide
    · rw [cnM_602]; exact rfN_R (by rw [b3.1, iz3]; decide) b3.2 (by omega) (fun j hj => by show 610 + j < 900; omega)
    · rw [cnM_604]; exact rfN_R (by rw [e1.1, iz2]; decide) e1.2 (by omega) (fun j hj => by show 606 + j < 900; omega)
    · rw [cnM_605]; exact rfN_R (by rw [f1.1, iz4]; decide) f1.2 (by omega) (fun j hj => by show 700 + 20 * j < 900; omega)
    · intro f hf
      rw [cnM_610 hf h5]
      exact rfN_R (by rw [(b5 f hf).1.1, iz2]; decide) (b5 f hf).1.2 (by omega) (fun j hj => by show 620 + 10 * f + j < 900; omega)
    · intro k hk
      rw [cnM_i h5 hk]
      refine RfR_1 ?_
      rcases hk with rfl | rfl | hk | hk
      · exact b1.1
      · exact d1.1
      · have := (e2 (k - 606) (by omega)).2.1.1
        rwa [show 606 + (k - 606) = k by omega] at this
      · have := (c1 ((k - 620) / 10) ((k - 620) % 10) (by omega) (by omega)).1.1
        rwa [show 620 + 10 * ((k - 620) / 10) + (k - 620) % 10 = k by omega] at this
    · intro p q hp hq
      obtain ⟨⟨p0, p1, p2, p3, p4, p5, p6, p7, p8⟩, ⟨l1, l2⟩, ⟨n1, -, x1⟩, ⟨n2, -, x2, -⟩, x3⟩ := g1 p hp
      have hn4 := h4 p hp
      rw [cnM_P h5 hp hq]
      unfold cnP
      by_cases h0 : q = 0
      · rw [if_pos h0]
        intro j hj
        rw [show cnQ p (m (σ (700 + 20 * p))) 100000 = 5 from p0] at hj
        have hj : j = 2 ∨ j = 5 ∨ j = 6 ∨ j = 7 := by simpa [isrf, or_assoc] using hj
        rcases hj with rfl | rfl | rfl | rfl
        · show iz (nI (701 + 20 * p)) < 900; rw [iz_nI (by omega)]; omega
        · show iz (nI (702 + 20 * p)) < 900; rw [iz_nI (by omega)]; omega
        · show iz (nI (703 + 20 * p)) < 900; rw [iz_nI (by omega)]; omega
        · show iz (nI (704 + 20 * p)) < 900; rw [iz_nI (by omega)]; omega
      rw [if_neg h0]
      by_cases h1 : q = 1
      · rw [if_pos h1]
        exact rfN_R (by rw [l1.1, iz2]; decide) l1.2 (by omega) (fun j hj => by show 705 + 20 * p + j < 900; omega)
      rw [if_neg h1]
      by_cases h3 : q = 4
      · rw [if_pos h3]
        by_cases h15 : s 15 p = 1
        · rw [if_pos h15]
          obtain ⟨-, y1, y2⟩ := x3 h15
          exact rfN_R (by rw [y1.1, iz2]; decide) y1.2 (by omega) (fun j hj => by show 710 + 20 * p + j < 900; omega)
        · rw [if_neg h15]; exact hz0
      rw [if_neg h3]
      by_cases h9 : q = 2 ∨ q = 3 ∨ (5 ≤ q ∧ q < 5 + nlO s p) ∨ (10 ≤ q ∧ q < 10 + nlO s p ∧ s 15 p = 1)
      · rw [if_pos h9]
        refine RfR_1 ?_
        rcases h9 with rfl | rfl | h9 | h9
        · rw [show 700 + 20 * p + 2 = 702 + 20 * p by omega]; exact x1.1
        · rw [show 700 + 20 * p + 3 = 703 + 20 * p by omega]; exact x2.1
        · have := (l2 (q - 5) (by omega)).2.1.1
          rwa [show 705 + 20 * p + (q - 5) = 700 + 20 * p + q by omega] at this
        · have := ((x3 h9.2.2).2.2 (q - 10) (by omega)).2.2.2.1.1
          rwa [show 710 + 20 * p + (q - 10) = 700 + 20 * p + q by omega] at this
      · rw [if_neg h9]; exact hz0
    · intro k hk
      rw [hk]; exact hz0
  exact fun k _ _ => this k
theorem Cn_Sim (hC : Cn s m σ) (h5 : nfO s ≤ 5) (hp6 : npO s ≤ 6) (h4 : ∀ p, p < npO s → nlO s p ≤ 4) : SimR s (cnM s m σ) := by
  obtain ⟨a, ⟨⟨b1, b2⟩, ⟨b3, b4⟩, b5⟩, c1, ⟨d1, d2⟩, ⟨e1, e2⟩, ⟨f1, f2⟩, g1⟩ := hC
  refine ⟨?_, ⟨?_, ?_, fun f hf => ?_⟩, fun f k hf hk => ?_, ?_, ⟨?_, fun t ht => ?_⟩, ⟨⟨?_, fun p hp => ?_⟩, fun p hp => ⟨?_, ?_, ?_⟩⟩⟩
  · unfold SmS
    rw [cnM_600]
    exact ⟨a.1, a.2.1, a.2.2.1, rfl, rfl, rfl, rfl, rfl⟩
  · unfold isA
    rw [cnM_i h5 (Or.inl rfl)]
    exact ⟨b1, b2⟩
  · unfold isQ
    rw [cnM_602]
    exact ⟨b3, fun f hf => rfN_j (by omega) hf⟩
  · unfold isQ
    rw [cnM_610 hf h5]
    exact ⟨(b5 f hf).1, fun k hk => rfN_j (by omega) hk⟩
  · unfold isA
    rw [cnM_i h5 (Or.inr (Or.inr (Or.inr (by omega))))]
    exact c1 f k hf hk
  · unfold SmO isA
    rw [cnM_i h5 (Or.inr (Or.inl rfl))]
    exact ⟨d1, d2⟩
  · unfold isQ
    rw [cnM_604]
    exact e1
  · unfold isA
    rw [cnM_604, cnM_i h5 (Or.inr (Or.inr (Or.inl (by omega))))]
    exact ⟨rfN_j (by omega) ht, (e2 t ht).2⟩
  · unfold isQ
    rw [cnM_605]
    exact f1
  · rw [cnM_605]
    exact rfN_j (by omega) hp
  · unfold PsF
    rw [cnM_p0 h5 hp]
    obtain ⟨p0, p1, p2, p3, p4, p5, p6, p7, p8⟩ := (g1 p hp).1
    exact ⟨p0, p1, p2, rfl, p4, p5, rfl, rfl, rfl⟩
  · unfold PsL isQ
    obtain ⟨l1, l2⟩ := (g1 p hp).2.1
    have hn4 := h4 p hp
    rw [cnM_p1 h5 hp]
    refine ⟨l1, fun q hq => ⟨rfN_j (by omega) hq, ?_⟩⟩
    exact LtR.c (l2 q hq).2 (cnM_pi (q := 5 + q) h5 hp hn4 (by omega) (by omega))
  · obtain ⟨⟨n1, n1', x1⟩, ⟨n2, n2', x2, x2'⟩, x3⟩ := (g1 p hp).2.2
    have hn4 := h4 p hp
    have e2 : cnM s m σ (702 + 20 * p) = m (σ (702 + 20 * p)) := cnM_pi (q := 2) h5 hp hn4 (by omega) (Or.inl rfl)
    have e3 : cnM s m σ (703 + 20 * p) = m (σ (703 + 20 * p)) := cnM_pi (q := 3) h5 hp hn4 (by omega) (Or.inr (Or.inl rfl))
    unfold PsX isA isQ
    rw [e2, e3]
    refine ⟨⟨n1, n1', x1⟩, ⟨n2, n2', x2, x2'⟩, trivial, fun h15 => ?_⟩
    obtain ⟨y0, y1, y2⟩ := x3 h15
    rw [cnM_p4 h5 hp h15]
    refine ⟨y0, y1, fun q hq => ⟨(y2 q hq).1, (y2 q hq).2.1, rfN_j (by omega) hq, ?_⟩⟩
    exact LtR.c (y2 q hq).2.2.2 (cnM_pi (q := 10 + q) h5 hp hn4 (by omega) (Or.inr (Or.inr (Or.inr ⟨by omega, by omega, h15⟩))))
theorem l_canon {P : Pm} {R : Room} {Z : Zc} {lo : Lo} {pc : Nat} {st : List Value} {g : MG} {cs sl : Nat} (hC : Cn s m σ) (h5 : nfO s ≤ 5) (hp6 : npO s ≤ 6) (h4 : ∀ p, p < npO s → nlO s p ≤ 4) (hσ : ∀ k, 600 ≤ k → k < 900 → 600 ≤ σ k ∧ σ k < 1200) (hinj : ∀ a b, 600 ≤ a → a < 900 → 600 ≤ b → b < 900 → cnM s m σ a 100000 ≠ 0 → cnM s m σ b 100000 ≠ 0 → σ a = σ b → a = b) (kk : V P R (Z.wl (fun k => if k < 600 then ad k else ad (σ k)) (cnM s m σ)) lo pc st g cs sl) : V P R (Z.wl ad m) lo pc st g cs sl := by
  obtain ⟨p, l, e, s0, mm, args, below, meth, c, Q, nL⟩ := P
  have hE := Cn_E (ad := ad) hC h5 hp6 h4 hσ
  refine fun ls H locs hl hw hS => kk ls H locs hl (Hw_mapE (Z := Z.wl ad m) hw σ (fun k hk => if_pos hk) (fun k k1 k2 hz => ?_) (fun a b a1 a2 b1 b2 ha hb => hinj a b a1 (hE a ha).1.2 b1 (hE b hb).1.2 ha hb)) hS
  obtain ⟨h1, h2⟩ := hE k hz
  exact ⟨hσ k h1.1 h1.2, h2, if_neg (by omega)⟩
end CN2
