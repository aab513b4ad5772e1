/-! THE LAW'S SHOP against the class: rows that come and go beside it -/
theorem SimR.low {s m m' : MG} (h : SimR s m) (hI : IvM s) (hm : ∀ k, 600 ≤ k → k < 900 → m' k = m k) : SimR s m' := by
  have hf5 := (IvM_nf hI).1
  have hp6 := (IvM_np hI).1
  refine h.c rfl rfl hp6 hf5 (fun p hp => (IvM_nl hI hp).2) (fun _ _ => rfl) (fun _ _ h => h) (fun k k1 k2 _ _ => hm k (by omega) k2) ?_ ?_ ?_
  · have h1 := h.1
    unfold SmS at h1 ⊢
    rw [hm 600 (by omega) (by omega)]
    exact h1
  · intro f k hf hk
    have h1 := h.2.2.1 f k hf hk
    unfold isA at h1 ⊢
    rw [hm (620 + 10 * f + k) (by omega) (by omega)]
    exact h1
  · intro p hp
    have h1 := (h.L hp).1
    unfold PsF at h1 ⊢
    rw [hm (700 + 20 * p) (by omega) (by omega)]
    exact h1
/-- a row of n numbers at K, all else as in m -/
def RwI (K : Nat) (m m1 : MG) (n : Nat) (c : Nat → Int32) : Prop := (∀ q, q ≠ K → m1 q = m q) ∧ isA m1 K n ∧ ∀ j, j < n → m1 K j = c j
theorem RwI.new {K : Nat} {m : MG} {n : Nat} (hn : n < 1000) : RwI K m (rwr m K (rN 1 n)) n (fun _ => 0) :=
  ⟨fun q hq => rwr_ne _ _ _ hq, ⟨by rw [rwr_same]; rfl, by rw [rwr_same]; rfl⟩, fun j hj => by rw [rwr_same, rN_0 _ _ (by omega)]⟩
theorem RwI.w {K : Nat} {m m1 : MG} {n : Nat} {c : Nat → Int32} (h : RwI K m m1 n c) (hn : n < 1000) {a : Nat} {x : Int32} (h9 : a < n) : RwI K m (wr m1 K a x) n (upd c a x) := by
  refine ⟨fun q hq => by rw [wr_row _ _ _ _ hq]; exact h.1 q hq, ⟨by rw [wr_ne _ _ _ _ (Or.inr (by omega))]; exact h.2.1.1, by rw [wr_ne _ _ _ _ (Or.inr (by omega))]; exact h.2.1.2⟩, fun j hj => ?_⟩
  unfold upd
  by_cases hja : j = a
  · rw [hja, wr_same, if_pos rfl]
  · rw [wr_ne _ _ _ _ (Or.inr hja), if_neg hja]; exact h.2.2 j hj
theorem RwI.c {K : Nat} {m m1 : MG} {n : Nat} {c c' : Nat → Int32} (h : RwI K m m1 n c) (hc : ∀ j, j < n → c j = c' j) : RwI K m m1 n c' := ⟨h.1, h.2.1, fun j hj => (h.2.2 j hj).trans (hc j hj)⟩
theorem RwI.Fr {K : Nat} {m m1 : MG} {n : Nat} {c : Nat → Int32} (h : RwI K m m1 n c) (hF : Fr m K) (hK : K < 1200) : Fr m1 (K + 1) := by
  obtain ⟨h1, h2, h3⟩ := hF
  refine ⟨⟨by omega, by omega⟩, fun k hk => by rw [h.1 k (by omega)]; exact h2 k (by omega), fun k k1 k2 => ?_⟩
  by_cases hk : k = K
  · rw [hk]
    intro j hj
    rw [h.2.1.1] at hj
    exact absurd hj (by simp [isrf])
  · rw [h.1 k hk]; exact (h3 k k1 (by omega)).le (by omega)
theorem lto_0 {s : MG} {p i : Nat} : nI (szw (wdO s (4 * p + i))) = ltoO s p i (nI 0) := by unfold ltoO; exact (if_pos rfl).symm
theorem lto_n {s : MG} {p i v : Nat} (h : s 15 p = 0) (hv : v = 1 ∨ v = 2 ∨ v = 3) : (-1 : Int32) = ltoO s p i (nI v) := by
  unfold ltoO
  rcases hv with rfl | rfl | rfl <;> rw [if_neg (by decide), if_pos h]
theorem lto_1 {s : MG} {p i : Nat} (h : ¬ s 15 p = 0) : s 18 (4 * p + i) = ltoO s p i (nI 1) := by unfold ltoO; rw [if_neg (by decide), if_neg h, if_pos (by decide)]
theorem lto_2 {s : MG} {p i : Nat} (h : ¬ s 15 p = 0) : s 19 (4 * p + i) = ltoO s p i (nI 2) := by unfold ltoO; rw [if_neg (by decide), if_neg h, if_neg (by decide), if_pos (by decide)]
theorem lto_3 {s : MG} {p i : Nat} (hI : IvM s) (hE : IvE s) (hp : p < npO s) (h15 : s 15 p = 1) (hi : i < nlO s p) : nI (tkO s (4 * p + i) % 10 ^ szw (wdO s (4 * p + i))) = ltoO s p i (nI 3) := by
  have hp6 := (IvM_np hI).1
  rw [Nat.mod_eq_of_lt (hE.1 p i hp h15 hi).1]
  obtain ⟨-, t, ht, hte⟩ := hI.2.2.2.2.2.2.2 p i (by omega) h15 hi
  have e : tkO s (4 * p + i) = t := by unfold tkO; rw [hte]; exact iz_nI (by omega)
  unfold ltoO
  rw [if_neg (by decide), if_neg (by rw [h15]; decide), if_neg (by decide), if_neg (by decide), e, hte]
