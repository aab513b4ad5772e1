/-! A POSTER THAT IS TRIED BY THE LAW: what its cells say on the way -/
def FrV (s : MG) (mo : Nat → Int32) (f : Nat) : Nat → Int32 := fun d => s 6 (10 * f + d) - s 7 (10 * f + d) - mo (10 * f + d)
theorem okF_A (s : MG) (mo : Nat → Int32) (f : Nat) : okF (FrV s mo f) = okA (s 6) (s 7) mo f := rfl
/-- the poster that is tried, at T; its rows behind the free ones -/
def TrO (s m m1 : MG) (p T nl nf : Nat) : Prop := (∀ k, 600 ≤ k → k < T → m1 k = m k) ∧ (m1 T 100000 = 5 ∧ m1 T 0 = s 12 p ∧ m1 T 1 = s 13 p ∧ m1 T 2 = nI (701 + 20 * p) ∧ m1 T 3 = 1 ∧ m1 T 4 = s 16 p ∧ m1 T 5 = nI (T + nf + 2) ∧ m1 T 6 = nI (T + nf + 3) ∧ m1 T 7 = nI (T + nf + 4)) ∧ isA m1 (T + nf + 2) nl ∧ isA m1 (T + nf + 3) nl ∧ isQ m1 2 (T + nf + 4) nl ∧ (isQ m1 2 (T + 1 + nf) nf ∧ ∀ f, f < nf → m1 (T + 1 + nf) f = nI (T + 1 + f)) ∧ ∀ f, f < nf → isA m1 (T + 1 + f) 10
def TrF (s m1 : MG) (mo : Nat → Int32) (T nf : Nat) : Prop := ∀ f d, f < nf → d < 10 → m1 (T + 1 + f) d = FrV s mo f d
/-- the lines tried so far: where their rows lie (ky), below pt, one behind the other -/
def TrL (m1 : MG) (T nf : Nat) (acc : List (Nat × TS)) (sz ky : Nat → Nat) (pt : Nat) : Prop := ∀ i q, acc[i]? = some q → m1 (T + nf + 2) i = nI q.1 ∧ m1 (T + nf + 3) i = q.2.2.1 ∧ m1 (T + nf + 4) i = nI (ky i) ∧ (T + nf + 5 ≤ ky i ∧ ky i < pt) ∧ (∀ i', i' < i → ky i' < ky i) ∧ q.1 < nf ∧ ∃ a, q.2.2.2 = nI a ∧ a < 10 ^ sz i ∧ LtR m1 (ky i) (sz i) a
/-- the best so far of line i, its row at kb -/
def TrB (s m1 : MG) (mo : Nat → Int32) (T nf i w : Nat) (b : Int32) (kb lo pt : Nat) : Prop := b = -1 ∨ ∃ b' sT a, b = nI b' ∧ b' < nf ∧ tlR (okF (FrV s mo b')) (s 9) w (szw w) ts0 = some sT ∧ m1 (T + nf + 3) i = sT.2.1 ∧ m1 (T + nf + 4) i = nI kb ∧ (lo ≤ kb ∧ kb < pt) ∧ sT.2.2 = nI a ∧ a < 10 ^ szw w ∧ LtR m1 kb (szw w) a
theorem TrO.c {s m m1 m2 : MG} {p T nl nf : Nat} (h : TrO s m m1 p T nl nf) (hr : ∀ k, 600 ≤ k → k < T + nf + 5 → (∀ j, (k = T + nf + 2 ∨ k = T + nf + 3 ∨ k = T + nf + 4 ∨ (T + 1 ≤ k ∧ k < T + 1 + nf)) → 100000 ≤ j → m2 k j = m1 k j) ∧ (¬ (k = T + nf + 2 ∨ k = T + nf + 3 ∨ k = T + nf + 4 ∨ (T + 1 ≤ k ∧ k < T + 1 + nf)) → m2 k = m1 k)) (hT : 600 ≤ T) : TrO s m m2 p T nl nf := by
  obtain ⟨h1, h2, h3, h4, h5, ⟨h6, h6'⟩, h7⟩ := h
  have eT : m2 T = m1 T := (hr T hT (by omega)).2 (by omega)
  have eO : m2 (T + 1 + nf) = m1 (T + 1 + nf) := (hr _ (by omega) (by omega)).2 (by omega)
  refine ⟨fun k k1 k2 => ((hr k k1 (by omega)).2 (by omega)).trans (h1 k k1 k2), by rw [eT]; exact h2, ?_, ?_, ?_, ⟨?_, by rw [eO]; exact h6'⟩, fun f hf => ?_⟩
  · exact ⟨((hr _ (by omega) (by omega)).1 _ (by omega) (by decide)).trans h3.1, ((hr _ (by omega) (by omega)).1 _ (by omega) (by decide)).trans h3.2⟩
  · exact ⟨((hr _ (by omega) (by omega)).1 _ (by omega) (by decide)).trans h4.1, ((hr _ (by omega) (by omega)).1 _ (by omega) (by decide)).trans h4.2⟩
  · exact ⟨((hr _ (by omega) (by omega)).1 _ (by omega) (by decide)).trans h5.1, ((hr _ (by omega) (by omega)).1 _ (by omega) (by decide)).trans h5.2⟩
  · unfold isQ; rw [eO]; exact h6
  · exact ⟨((hr _ (by omega) (by omega)).1 _ (by omega) (by decide)).trans (h7 f hf).1, ((hr _ (by omega) (by omega)).1 _ (by omega) (by decide)).trans (h7 f hf).2⟩
theorem TrF.c {s m1 m2 : MG} {mo : Nat → Int32} {T nf : Nat} (h : TrF s m1 mo T nf) (hr : ∀ f, f < nf → m2 (T + 1 + f) = m1 (T + 1 + f)) : TrF s m2 mo T nf := fun f d hf hd => by rw [hr f hf]; exact h f d hf hd
theorem TrL.c {m1 m2 : MG} {T nf i : Nat} {acc : List (Nat × TS)} {sz ky : Nat → Nat} {pt pt' : Nat} (h : TrL m1 T nf acc sz ky pt) (hl : acc.length = i) (hpt : pt ≤ pt') (h2 : ∀ i', i' < i → m2 (T + nf + 2) i' = m1 (T + nf + 2) i') (h3 : ∀ i', i' < i → m2 (T + nf + 3) i' = m1 (T + nf + 3) i') (h4 : ∀ i', i' < i → m2 (T + nf + 4) i' = m1 (T + nf + 4) i') (h5 : ∀ k, T + nf + 5 ≤ k → k < pt → m2 k = m1 k) : TrL m2 T nf acc sz ky pt' := fun i' q hq => by
  have hi : i' < i := by rw [← hl]; exact (List.getElem?_eq_some_iff.mp hq).1
  obtain ⟨a1, a2, a3, a7, a8, a9, a, a4, a5, a6⟩ := h i' q hq
  refine ⟨(h2 i' hi).trans a1, (h3 i' hi).trans a2, (h4 i' hi).trans a3, ⟨a7.1, by omega⟩, a8, a9, a, a4, a5, ?_⟩
  unfold LtR isA
  rw [h5 (ky i') a7.1 a7.2]
  exact a6
theorem TrB.c {s m1 m2 : MG} {mo : Nat → Int32} {T nf i w : Nat} {b : Int32} {kb lo pt pt' : Nat} (h : TrB s m1 mo T nf i w b kb lo pt) (hpt : pt ≤ pt') (h3 : m2 (T + nf + 3) i = m1 (T + nf + 3) i) (h4 : m2 (T + nf + 4) i = m1 (T + nf + 4) i) (h5 : ∀ k, lo ≤ k → k < pt → m2 k = m1 k) : TrB s m2 mo T nf i w b kb lo pt' := by
  rcases h with h | ⟨b', sT, a, e1, e2, e3, e4, e5, e6, e7, e8, e9⟩
  · exact Or.inl h
  · refine Or.inr ⟨b', sT, a, e1, e2, e3, h3.trans e4, h4.trans e5, ⟨e6.1, by omega⟩, e7, e8, ?_⟩
    unfold LtR isA
    rw [h5 kb e6.1 e6.2]
    exact e9
theorem TrL.snoc {m1 : MG} {T nf i : Nat} {acc : List (Nat × TS)} {sz ky : Nat → Nat} {lo pt kb a : Nat} {q : Nat × TS} (h : TrL m1 T nf acc sz ky lo) (hl : acc.length = i) (hlo : T + nf + 5 ≤ lo) (hpt : lo ≤ pt) (hk : lo ≤ kb ∧ kb < pt) (h2 : m1 (T + nf + 2) i = nI q.1) (h3 : m1 (T + nf + 3) i = q.2.2.1) (h4 : m1 (T + nf + 4) i = nI kb) (h5 : q.1 < nf) (h6 : q.2.2.2 = nI a) (h7 : a < 10 ^ sz i) (h8 : LtR m1 kb (sz i) a) : TrL m1 T nf (acc ++ [q]) sz (fun x => if x = i then kb else ky x) pt := fun i' q' hq => by
  by_cases hi : i' < i
  · rw [List.getElem?_append_left (by omega)] at hq
    obtain ⟨a1, a2, a3, a7, a8, a9, a', a4, a5, a6⟩ := h i' q' hq
    have e : (if i' = i then kb else ky i') = ky i' := if_neg (by omega)
    show _ ∧ _ ∧ _ = nI (if i' = i then kb else ky i') ∧ (_ ≤ (if i' = i then kb else ky i') ∧ (if i' = i then kb else ky i') < pt) ∧ (∀ i'', i'' < i' → (if i'' = i then kb else ky i'') < (if i' = i then kb else ky i')) ∧ _ ∧ ∃ a, _ ∧ _ ∧ LtR m1 (if i' = i then kb else ky i') _ a
    rw [e]
    exact ⟨a1, a2, a3, ⟨a7.1, by omega⟩, fun i'' hi'' => by rw [if_neg (by omega)]; exact a8 i'' hi'', a9, a', a4, a5, a6⟩
  · have hlt := (List.getElem?_eq_some_iff.mp hq).1
    rw [List.length_append] at hlt
    have hii : i' = i := by have : [q].length = 1 := rfl; omega
    subst hii
    rw [List.getElem?_append_right (by omega), hl, Nat.sub_self] at hq
    cases hq
    show _ ∧ _ ∧ _ = nI (if i' = i' then kb else ky i') ∧ (_ ≤ (if i' = i' then kb else ky i') ∧ (if i' = i' then kb else ky i') < pt) ∧ (∀ i'', i'' < i' → (if i'' = i' then kb else ky i'') < (if i' = i' then kb else ky i')) ∧ _ ∧ ∃ a, _ ∧ _ ∧ LtR m1 (if i' = i' then kb else ky i') _ a
    rw [if_pos rfl]
    refine ⟨h2, h3, h4, ⟨by omega, hk.2⟩, fun i'' hi'' => ?_, h5, a, h6, h7, h8⟩
    rw [if_neg (by omega)]
    have hi3 : i'' < acc.length := by omega
    have := (h i'' acc[i''] (List.getElem?_eq_getElem hi3)).2.2.2.1.2
    omega
theorem LtR.c {m1 m2 : MG} {k k' n t : Nat} (h : LtR m1 k n t) (e : m2 k' = m1 k) : LtR m2 k' n t := by
  unfold LtR isA
  rw [e]
  exact h
theorem fvF_some {okf : OK} {ot mo : Nat → Int32} {w f : Nat} {sT : TS} (h : tlR (okf mo f) ot w (szw w) ts0 = some sT) : fvF okf ot mo w f = sT.2.1 := by unfold fvF; rw [h]; rfl
theorem fvF_none {okf : OK} {ot mo : Nat → Int32} {w f : Nat} (h : tlR (okf mo f) ot w (szw w) ts0 = none) : fvF okf ot mo w f = -1 := by unfold fvF; rw [h]; rfl
