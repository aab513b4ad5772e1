/-! THE LAW'S SHOP after set: the tried poster's rows are the poster's now -/
theorem spd_addP {L : List (Nat × TS)} {tk wd : Nat → Nat} {p : Nat} (v : Nat → Int32) (h : ∀ i q, L[i]? = some q → ∀ d, d < 10 → q.2.1 d = nI (cntD (tk (4 * p + i)) d (szw (wd (4 * p + i))))) : ∀ i, i ≤ L.length → ∀ x, addP 1 (lfn L) tk wd p v i x = v x + (L.take i).foldl spd (fun _ => 0) x := by
  intro i
  induction i with
  | zero => intro _ x; rw [addP, List.take_zero]; exact (Int32.add_zero _).symm
  | succ i ih =>
    intro hi x
    have hlt : i < L.length := by omega
    have hq := List.getElem?_eq_getElem hlt
    have hf : lfn L i = L[i].1 := by unfold lfn; rw [hq]
    rw [addP, addL_v, ih (by omega), cntP_n, List.take_succ_eq_append_getElem hlt, List.foldl_append]
    show _ = v x + spd (List.foldl spd (fun _ => 0) (List.take i L)) L[i] x
    unfold spd
    rw [hf]
    by_cases hx : x / 10 = L[i].1
    · rw [if_pos hx, if_pos (by omega), h i _ hq _ (by omega), show x - 10 * L[i].1 = x % 10 by omega]
      grind
    · rw [if_neg hx, if_neg (by omega), show nI 0 = (0 : Int32) from rfl]
      grind
def sgS (s : MG) (p : Nat) (ky : Nat → Nat) : Nat → Nat := fun k => if k = 700 + 20 * p then 900 else if k = 702 + 20 * p then 900 + nfO s + 2 else if k = 703 + 20 * p then 900 + nfO s + 3 else if k = 704 + 20 * p then 900 + nfO s + 4 else if 710 + 20 * p ≤ k ∧ k < 710 + 20 * p + nlO s p then ky (k - (710 + 20 * p)) else k
theorem sgS_id {s : MG} {p : Nat} {ky : Nat → Nat} {k : Nat} (h0 : k ≠ 700 + 20 * p) (h2 : k ≠ 702 + 20 * p) (h3 : k ≠ 703 + 20 * p) (h4 : k ≠ 704 + 20 * p) (h5 : ¬ (710 + 20 * p ≤ k ∧ k < 710 + 20 * p + nlO s p)) : sgS s p ky k = k := by
  unfold sgS
  rw [if_neg h0, if_neg h2, if_neg h3, if_neg h4, if_neg h5]
theorem Cn_set {s m m1 : MG} {p pt : Nat} {a : List (Nat × TS) × (Nat → Int32)} {ky : Nat → Nat} (hI : IvM s) (hR : SimR s m) (hp : p < npO s) (hlen : a.1.length = nlO s p)
    (w0 : ∀ k, 600 ≤ k → k < 900 → k ≠ 605 → ¬ (620 ≤ k ∧ k < 670) → m1 k = m k)
    (w5 : m1 605 p = nI 900 ∧ ∀ j, j ≠ p → m1 605 j = m 605 j)
    (wb : ∀ x, x < 10 * nfO s → (∀ j, j ≠ 1 → m1 (620 + x) j = m (620 + x) j) ∧ m1 (620 + x) 1 = s 7 x + a.2 x)
    (wT : m1 900 100000 = 5 ∧ m1 900 0 = s 12 p ∧ m1 900 1 = s 13 p ∧ m1 900 2 = nI (701 + 20 * p) ∧ m1 900 3 = 1 ∧ m1 900 4 = s 16 p ∧ m1 900 5 = nI (900 + nfO s + 2) ∧ m1 900 6 = nI (900 + nfO s + 3) ∧ m1 900 7 = nI (900 + nfO s + 4))
    (wX : isA m1 (900 + nfO s + 2) (nlO s p)) (wF : isA m1 (900 + nfO s + 3) (nlO s p)) (wK : isQ m1 2 (900 + nfO s + 4) (nlO s p))
    (wL : TrL m1 900 (nfO s) a.1 (fun i => szw (wdO s (4 * p + i))) ky pt) : Cn (setG s p a) m1 (sgS s p ky) := by
  have hf5 := (IvM_nf hI).1
  have hp6 := (IvM_np hI).1
  have h4 : ∀ q, q < 6 → nlO s q ≤ 4 := fun q hq => (IvM_nl hI hq).2
  have hn4 := h4 p (by omega)
  have r : ∀ z, z ≠ 18 ∧ z ≠ 19 ∧ z ≠ 20 ∧ z ≠ 7 ∧ z ≠ 15 → setG s p a z = s z := fun z hz => setG_r hz
  have enf : nfO (setG s p a) = nfO s := by unfold nfO; rw [r 0 (by decide)]
  have enp : npO (setG s p a) = npO s := by unfold npO; rw [r 0 (by decide)]
  have enl : ∀ q, nlO (setG s p a) q = nlO s q := fun q => by unfold nlO; rw [r 14 (by decide)]
  have ewd : wdO (setG s p a) = wdO s := by unfold wdO; rw [r 17 (by decide)]
  have hs : ∀ k, k < 700 → sgS s p ky k = k := fun k hk => sgS_id (by omega) (by omega) (by omega) (by omega) (by omega)
  obtain ⟨a1, ⟨b1, b2, b3⟩, c1, d1, ⟨e1, e2⟩, ⟨f1, f2⟩, g1⟩ := hR
  refine ⟨?_, ⟨?_, ⟨?_, ?_⟩, fun f hf => ?_⟩, fun f k hf hk => ?_, ?_, ⟨?_, fun t ht => ?_⟩, ⟨?_, fun q hq => ?_⟩, fun q hq => ?_⟩
  · rw [hs 600 (by decide), hs 601 (by decide), hs 602 (by decide), hs 603 (by decide), hs 604 (by decide), hs 605 (by decide), w0 600 (by decide) (by decide) (by decide) (by decide), r 0 (by decide)]
    exact a1
  · unfold isA
    rw [hs 601 (by decide), w0 601 (by decide) (by decide) (by decide) (by decide), r 5 (by decide), enf]
    exact b1
  · unfold isQ
    rw [hs 602 (by decide), w0 602 (by decide) (by decide) (by decide) (by decide), enf]
    exact b2.1
  · rw [hs 602 (by decide), w0 602 (by decide) (by decide) (by decide) (by decide), enf]
    intro f hf
    rw [hs (610 + f) (by omega)]
    exact b2.2 f hf
  · rw [enf] at hf
    unfold isQ
    rw [hs (610 + f) (by omega), w0 (610 + f) (by omega) (by omega) (by omega) (by omega)]
    refine ⟨(b3 f hf).1, fun k hk => ?_⟩
    rw [hs (620 + 10 * f + k) (by omega)]
    exact (b3 f hf).2 k hk
  · rw [enf] at hf
    have h := c1 f k hf hk
    obtain ⟨q1, q2⟩ := wb (10 * f + k) (by omega)
    rw [hs (620 + 10 * f + k) (by omega), r 6 (by decide), r 8 (by decide), setG_7, if_pos (by omega)]
    rw [Nat.add_assoc] at h ⊢
    exact ⟨⟨(q1 _ (by decide)).trans h.1.1, (q1 _ (by decide)).trans h.1.2⟩, (q1 _ (by decide)).trans h.2.1, q2, (q1 _ (by decide)).trans h.2.2.2⟩
  · unfold isA
    rw [hs 603 (by decide), w0 603 (by decide) (by decide) (by decide) (by decide), r 9 (by decide)]
    exact d1
  · unfold isQ
    rw [hs 604 (by decide), w0 604 (by decide) (by decide) (by decide) (by decide)]
    exact e1
  · unfold isA
    rw [hs 604 (by decide), hs (606 + t) (by omega), w0 604 (by decide) (by decide) (by decide) (by decide), w0 (606 + t) (by omega) (by omega) (by omega) (by omega), r 10 (by decide), r 11 (by decide)]
    exact e2 t ht
  · unfold isQ
    rw [hs 605 (by decide), enp, w5.2 _ (by omega), w5.2 _ (by omega)]
    exact f1
  · rw [enp] at hq
    rw [hs 605 (by decide)]
    by_cases hqp : q = p
    · rw [hqp, w5.1, show sgS s p ky (700 + 20 * p) = 900 from if_pos rfl]
    · rw [w5.2 q hqp, sgS_id (by omega) (by omega) (by omega) (by omega) (by omega)]
      exact f2 q hq
  · rw [enp] at hq
    by_cases hqp : q = p
    · subst hqp
      have e700 : sgS s q ky (700 + 20 * q) = 900 := if_pos rfl
      have e701 : sgS s q ky (701 + 20 * q) = 701 + 20 * q := sgS_id (by omega) (by omega) (by omega) (by omega) (by omega)
      have e702 : sgS s q ky (702 + 20 * q) = 900 + nfO s + 2 := by unfold sgS; rw [if_neg (by omega), if_pos rfl]
      have e703 : sgS s q ky (703 + 20 * q) = 900 + nfO s + 3 := by unfold sgS; rw [if_neg (by omega), if_neg (by omega), if_pos rfl]
      have e704 : sgS s q ky (704 + 20 * q) = 900 + nfO s + 4 := by unfold sgS; rw [if_neg (by omega), if_neg (by omega), if_neg (by omega), if_pos rfl]
      have e705 : ∀ i, i < 5 → sgS s q ky (705 + 20 * q + i) = 705 + 20 * q + i := fun i hi => sgS_id (by omega) (by omega) (by omega) (by omega) (by omega)
      have e710 : ∀ i, i < nlO s q → sgS s q ky (710 + 20 * q + i) = ky i := fun i hi => by
        unfold sgS
        rw [if_neg (by omega), if_neg (by omega), if_neg (by omega), if_neg (by omega), if_pos (by omega), Nat.add_sub_cancel_left]
      obtain ⟨-, hPL, -⟩ := g1 q hq
      unfold CnP
      rw [e700, e701, e702, e703, e704, enl, ewd, r 12 (by decide), r 13 (by decide), r 16 (by decide), setG_15, if_pos rfl]
      refine ⟨wT, ⟨?_, fun i hi => ?_⟩, ⟨_, hn4, wX⟩, ⟨_, hn4, wF, fun _ => rfl⟩, fun _ => ⟨wX, wK, fun i hi => ?_⟩⟩
      · unfold isQ
        rw [w0 (701 + 20 * q) (by omega) (by omega) (by omega) (by omega)]
        exact hPL.1
      · rw [e705 i (by omega), w0 (701 + 20 * q) (by omega) (by omega) (by omega) (by omega)]
        exact ⟨(hPL.2 i hi).1, LtR.c (hPL.2 i hi).2 (w0 _ (by omega) (by omega) (by omega) (by omega))⟩
      · have hi9 := List.getElem?_eq_getElem (show i < a.1.length by omega)
        obtain ⟨l1, l2, l3, l4, l5, l6, t, l7, l8, l9⟩ := wL i _ hi9
        have ht8 : t < 2147483648 := by
          have h9 : (10 : Nat) ^ szw (wdO s (4 * q + i)) ≤ 10 ^ 8 := Nat.pow_le_pow_right (by decide) (szw_8 (IvM_w8 hI (by omega)))
          have l8 : t < 10 ^ szw (wdO s (4 * q + i)) := l8
          omega
        have hin : 4 * q ≤ 4 * q + i ∧ 4 * q + i < 4 * q + a.1.length := by omega
        have h20 : tkO (setG s q a) (4 * q + i) = t := by
          unfold tkO
          rw [setG_20, if_pos hin, Nat.add_sub_cancel_left]
          unfold lwd
          rw [hi9]
          show iz a.1[i].2.2.2 = t
          rw [l7, iz_nI ht8]
        rw [e710 i hi, h20, setG_18, if_pos hin, setG_19, if_pos hin, Nat.add_sub_cancel_left]
        refine ⟨?_, ?_, l3, l9⟩
        · rw [l1]; unfold lfn; rw [hi9]
        · rw [l2]; unfold lfl; rw [hi9]
    · have hid : ∀ k, 700 + 20 * q ≤ k → k < 720 + 20 * q → sgS s p ky k = k := fun k k1 k2 => sgS_id (by omega) (by omega) (by omega) (by omega) (by omega)
      have hm : ∀ k, 700 + 20 * q ≤ k → k < 720 + 20 * q → m1 k = m k := fun k k1 k2 => w0 k (by omega) (by omega) (by omega) (by omega)
      have hq4 := h4 q (by omega)
      obtain ⟨hPF, hPL, ⟨n1, n1', x1⟩, ⟨n2, n2', x2, x2'⟩, -, x3⟩ := g1 q hq
      unfold CnP
      rw [hid (700 + 20 * q) (by omega) (by omega), hid (701 + 20 * q) (by omega) (by omega), hid (702 + 20 * q) (by omega) (by omega), hid (703 + 20 * q) (by omega) (by omega), hid (704 + 20 * q) (by omega) (by omega), enl, ewd, r 12 (by decide), r 13 (by decide), r 16 (by decide), setG_15, if_neg hqp, hm (700 + 20 * q) (by omega) (by omega)]
      refine ⟨hPF, ⟨?_, fun i hi => ?_⟩, ⟨n1, n1', ?_⟩, ⟨n2, n2', ?_, x2'⟩, fun h15 => ?_⟩
      · unfold isQ
        rw [hm (701 + 20 * q) (by omega) (by omega)]
        exact hPL.1
      · rw [hid (705 + 20 * q + i) (by omega) (by omega), hm (701 + 20 * q) (by omega) (by omega)]
        exact ⟨(hPL.2 i hi).1, LtR.c (hPL.2 i hi).2 (hm _ (by omega) (by omega))⟩
      · unfold isA
        rw [hm (702 + 20 * q) (by omega) (by omega)]
        exact x1
      · unfold isA
        rw [hm (703 + 20 * q) (by omega) (by omega)]
        exact x2
      · obtain ⟨y0, y1, y2⟩ := x3 h15
        unfold isA isQ
        rw [hm (702 + 20 * q) (by omega) (by omega), hm (703 + 20 * q) (by omega) (by omega), hm (704 + 20 * q) (by omega) (by omega)]
        refine ⟨y0, y1, fun i hi => ?_⟩
        have hout : ¬ (4 * p ≤ 4 * q + i ∧ 4 * q + i < 4 * p + a.1.length) := by omega
        rw [hid (710 + 20 * q + i) (by omega) (by omega), setG_18, if_neg hout, setG_19, if_neg hout, show tkO (setG s p a) (4 * q + i) = tkO s (4 * q + i) by unfold tkO; rw [setG_20, if_neg hout]]
        exact ⟨(y2 i hi).1, (y2 i hi).2.1, (y2 i hi).2.2.1, LtR.c (y2 i hi).2.2.2 (hm _ (by omega) (by omega))⟩
