/-! THE LAW'S SHOP against the class: rows that come and go beside it -/
theorem SimR.low {s m m' : MG} (h : SimR s m) (hI : IvM s) (hm : ∀ k, 600 ≤ k → k < 900 → m' k = m k) : SimR s m' := by
  have hf5 := (IvM_nf hI).1
  have hp6 := (IvM_np hI).1
  refine h.c rfl rfl hp6 hf5 (fun p hp => (IvM_nl hI hp).2) (fun _ _ => rfl) (fun _ _ h => h) (fun k k1 k2 _ _ => hm k (by omega) k2) ?_ ?_ ?_
  · have h1 := h.1
    unfold SmS at h1 ⊢
    rw [hm 600 (by omega) (by omega)]
    exact h1
  · intro f k hf hk
    have h1 := h.2.2.1 f k hf hk
    unfold isA at h1 ⊢
    rw [hm (620 + 10 * f + k) (by omega) (by omega)]
    exact h1
  · intro p hp
    have h1 := (h.L hp).1
    unfold PsF at h1 ⊢
    rw [hm (700 + 20 * p) (by omega) (by omega)]
    exact h1
/-- a row of n numbers at K, all else as in m -/
def RwI (K : Nat) (m m1 : MG) (n : Nat) (c : Nat → Int32) : Prop := (∀ q, q ≠ K → m1 q = m q) ∧ isA m1 K n ∧ ∀ j, j < n → m1 K j = c j
theorem RwI.new {K : Nat} {m : MG} {n : Nat} (hn : n < 1000) : RwI K m (rwr m K (rN 1 n)) n (fun _ => 0) :=
  ⟨fun q hq => rwr_ne _ _ _ hq, ⟨by rw [rwr_same]; rfl, by rw [rwr_same]; rfl⟩, fun j hj => by rw [rwr_same, rN_0 _ _ (by omega)]⟩
theorem RwI.w {K : Nat} {m m1 : MG} {n : Nat} {c : Nat → Int32} (h : RwI K m m1 n c) (hn : n < 1000) {a : Nat} {x : Int32} (h9 : a < n) : RwI K m (wr m1 K a x) n (upd c a x) := by
  refine ⟨fun q hq => by rw [wr_row _ _ _ _ hq]; exact h.1 q hq, ⟨by rw [wr_ne _ _ _ _ (Or.inr (by omega))]; exact h.2.1.1, by rw [wr_ne _ _ _ _ (Or.inr (by omega))]; exact h.2.1.2⟩, fun j hj => ?_⟩
  unfold upd
  by_cases hja : j = a
  · rw [hja, wr_same, if_pos rfl]
  · rw [wr_ne _ _ _ _ (Or.inr hja), if_neg hja]; exact h.2.2 j hj
theorem RwI.c {K : Nat} {m m1 : MG} {n : Nat} {c c' : Nat → Int32} (h : RwI K m m1 n c) (hc : ∀ j, j < n → c j = c' j) : RwI K m m1 n c' := ⟨h.1, h.2.1, fun j hj => (h.2.2 j hj).trans (hc j hj)⟩
theorem RwI.Fr {K : Nat} {m m1 : MG} {n : Nat} {c : Nat → Int32} (h : RwI K m m1 n c) (hF : Fr m K) (hK : K < 1200) : Fr m1 (K + 1) := by
  obtain ⟨h1, h2, h3⟩ := hF
  refine ⟨⟨by omega, by omega⟩, fun k hk => by rw [h.1 k (by omega)]; exact h2 k (by omega), fun k k1 k2 => ?_⟩
  by_cases hk : k = K
  · rw [hk]
    intro j hj
    rw [h.2.1.1] at hj
    exact absurd hj (by simp [isrf])
  · rw [h.1 k hk]; exact (h3 k k1 (by omega)).le (by omega)
theorem lto_0 {s : MG} {p i : Nat} : nI (szw (wdO s (4 * p + i))) = ltoO s p i (nI 0) := by unfold ltoO; exact (if_pos rfl).symm
theorem lto_n {s : MG} {p i v : Nat} (h : s 15 p = 0) (hv : v = 1 ∨ v = 2 ∨ v = 3) : (-1 : Int32) = ltoO s p i (nI v) := by
  unfold ltoO
  rcases hv with rfl | rfl | rfl <;> rw [if_neg (by decide), if_pos h]
theorem lto_1 {s : MG} {p i : Nat} (h : ¬ s 15 p = 0) : s 18 (4 * p + i) = ltoO s p i (nI 1) := by unfold ltoO; rw [if_neg (by decide), if_neg h, if_pos (by decide)]
theorem lto_2 {s : MG} {p i : Nat} (h : ¬ s 15 p = 0) : s 19 (4 * p + i) = ltoO s p i (nI 2) := by unfold ltoO; rw [if_neg (by decide), if_neg h, if_neg (by decide), if_pos (by decide)]
theorem lto_3 {s : MG} {p i : Nat} (hI : IvM s) (hE : IvE s) (hp : p < npO s) (h15 : s 15 p = 1) (hi : i < nlO s p) : nI (tkO s (4 * p + i) % 10 ^ szw (wdO s (4 * p + i))) = ltoO s p i (nI 3) := by
  have hp6 := (IvM_np hI).1
  rw [Nat.mod_eq_of_lt (hE.1 p i hp h15 hi).1]
  obtain ⟨-, t, ht, hte⟩ := hI.2.2.2.2.2.2.2 p i (by omega) h15 hi
  have e : tkO s (4 * p + i) = t := by unfold tkO; rw [hte]; exact iz_nI (by omega)
  unfold ltoO
  rw [if_neg (by decide), if_neg (by rw [h15]; decide), if_neg (by decide), if_neg (by decide), e, hte]
theorem v_wrg {s m : MG} {p n9 : Nat} (hI : IvM s) (hR : SimR s m) (hp : p < npO s) (h7 : s 15 p = 1 → n9 = nlO s p) : (if m (700 + 20 * p) 3 = 0 then 0 else sumI (m (703 + 20 * p)) n9) = flO s p (nlO s p) := by
  have hp6 := (IvM_np hI).1
  obtain ⟨hPF, -, hPX⟩ := hR.L hp
  rw [hPF.2.2.2.2.1]
  unfold flO
  rcases IvM_01 hI (show p < 6 by omega) with h15 | h15
  · rw [if_pos h15, if_neg (by rw [h15]; decide)]
  · rw [if_neg (by rw [h15]; decide), if_pos h15, h7 h15]
    exact sumI_cong _ (fun q hq => ((hPX.2.2.2 h15).2.2 q hq).2.1)
theorem v_prf {s m : MG} {p n9 t : Nat} (hI : IvM s) (hF9 : IvF s) (hR : SimR s m) (hp : p < npO s) (h7 : s 15 p = 1 → n9 = nlO s p) (ht : t < 4) (hte : s 12 p = nI t) : (if m (700 + 20 * p) 3 = 0 then 0 else mx0 (m (606 + t) 0 * sumI (fun q => m 601 (iz (s 18 (4 * p + q))) * nI (szw (wdO s (4 * p + q)))) (nlO s p) - m (606 + t) 1 * sumI (m (703 + 20 * p)) n9)) = prO s (wdO s) p (nlO s p) (iz (s 12 p)) := by
  have hp6 := (IvM_np hI).1
  obtain ⟨hPF, -, hPX⟩ := hR.L hp
  rw [hte, iz_nI (by omega)]
  rw [hPF.2.2.2.2.1]
  unfold prO
  rcases IvM_01 hI (show p < 6 by omega) with h15 | h15
  · rw [if_pos h15, if_pos h15]
  · rw [if_neg (by rw [h15]; decide), if_neg (by rw [h15]; decide), h7 h15]
    have e1 : sumI (fun q => m 601 (iz (s 18 (4 * p + q))) * nI (szw (wdO s (4 * p + q)))) (nlO s p) = sumI (fun k => s 5 (iz (s 18 (4 * p + k))) * nI (szw (wdO s (4 * p + k)))) (nlO s p) := sumI_cong _ (fun q hq => by
      obtain ⟨f, hf, hfe⟩ := hF9 p q hp h15 hq
      rw [hfe, iz_nI (by have := (IvM_nf hI).1; omega), hR.2.1.1.2 f hf])
    have e2 : sumI (m (703 + 20 * p)) (nlO s p) = flO s p (nlO s p) := by
      unfold flO
      rw [if_pos h15]
      exact sumI_cong _ (fun q hq => ((hPX.2.2.2 h15).2.2 q hq).2.1)
    rw [e1, e2, (hR.2.2.2.2.1.2 t ht).2.2.1, (hR.2.2.2.2.1.2 t ht).2.2.2, Int32.mul_comm (s 10 t), Int32.mul_comm (s 11 t)]
theorem v_prX {s m : MG} {p : Nat} (hI : IvM s) (hF9 : IvF s) (hR : SimR s m) (hp : p < npO s) : m (700 + 20 * p) 3 = 1 → isA m (702 + 20 * p) (nlO s p) ∧ ∀ i, i < nlO s p → m (702 + 20 * p) i = nI (iz (s 18 (4 * p + i))) ∧ iz (s 18 (4 * p + i)) < nfO s := fun h => by
  obtain ⟨hPF, -, hPX⟩ := hR.L hp
  have h15 : s 15 p = 1 := hPF.2.2.2.2.1.symm.trans h
  have hX := hPX.2.2.2 h15
  refine ⟨hX.1, fun i hi => ?_⟩
  obtain ⟨f, hf, hfe⟩ := hF9 p i hp h15 hi
  rw [(hX.2.2 i hi).1, hfe, iz_nI (by have := (IvM_nf hI).1; omega)]
  exact ⟨rfl, hf⟩
theorem wr_al {m m' : MG} {q : Nat} (h : m q = m' q) (k j : Nat) (x : Int32) : wr m k j x q = wr m' k j x q := by
  funext b
  unfold wr
  rw [h]
theorem told_n {s : MG} (hI : IvM s) {p : Nat} (hp : p < 6) : nI (nlO s p) = toldO s p 2 := (IvM_nl hI hp).1.symm
theorem alO_1 {s : MG} {p : Nat} (h : ¬ s 15 p = 0) : toldO s p 3 = alO s p := by unfold alO; rw [if_neg h]; rfl
theorem alO_0 {s : MG} {p : Nat} (h : s 15 p = 0) : (0 : Int32) = alO s p := by unfold alO; rw [if_pos h]
theorem CtI.po {s m m1 : MG} {x p : Nat} (h : CtI m m1 7 (cT s x p)) : CtI m (wr m1 900 2 (sumI (s 15) (p + 1))) 7 (cT s x (p + 1)) := by
  refine h.w (by decide) rfl (fun j hj hj2 => ?_) (by decide)
  rcases j with _ | _ | _ | _ | _ | _ | _ | j
  · rfl
  · rfl
  · exact absurd rfl hj2
  · rfl
  · rfl
  · rfl
  · rfl
  · omega
