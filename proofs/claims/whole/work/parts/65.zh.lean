/-! BOTH CALLED: what the reference answers depends on its rows alone; after both, all holds again -/
def mx (a b : MG) : MG := fun k => if k < 26 then a k else b k
def E26 (a b : MG) : Prop := ∀ k, k < 26 → a k = b k
theorem mx_of {a b : MG} (h : E26 a b) : a = mx b a := by
  funext k
  unfold mx
  by_cases hk : k < 26
  · rw [if_pos hk]; exact h k hk
  · rw [if_neg hk]
theorem E26.mx {g h : MG} : E26 (mx g h) g := fun k hk => by unfold Jvm.Pilot.CPosterTypesLaw_law_r7126_da635a.mx; rw [if_pos hk]
theorem E26.rf {g : MG} : E26 g g := fun _ _ => rfl
theorem E26.wr {a b : MG} (h : E26 a b) (k j : Nat) (x : Int32) : E26 (wr a k j x) (wr b k j x) := fun q hq => by
  funext i
  unfold Jvm.Pilot.CPosterTypesLaw_law_r7126_da635a.wr
  rw [h q hq]
theorem E26.rwr {a b : MG} (h : E26 a b) (k : Nat) (f : Nat → Int32) : E26 (rwr a k f) (rwr b k f) := fun q hq => by
  unfold Jvm.Pilot.CPosterTypesLaw_law_r7126_da635a.rwr
  rw [h q hq]
theorem E26.ite {a b c d : MG} {p : Prop} [Decidable p] (h : E26 a b) (h' : E26 c d) : E26 (if p then a else c) (if p then b else d) := by
  by_cases hp : p
  · rw [if_pos hp, if_pos hp]; exact h
  · rw [if_neg hp, if_neg hp]; exact h'
theorem cong_fount {a g : MG} (e : E26 a g) (h : Int32) : cdFount a h = cdFount g h ∧ nI (nfO a) = nI (nfO g) ∧ E26 (stFount a h) (stFount g h) := by
  rw [mx_of e]
  refine ⟨rfl, rfl, ?_⟩
  unfold stFount
  exact E26.ite ((E26.mx.wr _ _ _).wr _ _ _) E26.mx
theorem cong_buy {a g : MG} (e : E26 a g) (f k v : Int32) : cdBuy a f k v = cdBuy g f k v ∧ a 6 (atO f k) + v = g 6 (atO f k) + v ∧ E26 (stBuy a f k v) (stBuy g f k v) := by
  rw [mx_of e]
  refine ⟨rfl, rfl, ?_⟩
  unfold stBuy
  exact E26.ite (E26.mx.wr _ _ _) E26.mx
theorem cong_buyAll {a g : MG} (e : E26 a g) (f v : Int32) : cdBuyAll a f v = cdBuyAll g f v ∧ anBuyAll a f v = anBuyAll g f v ∧ E26 (stBuyAll a f v) (stBuyAll g f v) := by
  rw [mx_of e]
  refine ⟨rfl, rfl, ?_⟩
  unfold stBuyAll
  exact E26.ite (E26.mx.rwr _ _) E26.mx
theorem cong_setOther {a g : MG} (e : E26 a g) (k o : Int32) : cdSetOther k o = cdSetOther k o ∧ a 9 (iz k) = g 9 (iz k) ∧ E26 (stSetOther a k o) (stSetOther g k o) := by
  rw [mx_of e]
  refine ⟨rfl, rfl, ?_⟩
  unfold stSetOther
  exact E26.ite (E26.mx.wr _ _ _) E26.mx
theorem cong_setTown {a g : MG} (e : E26 a g) (t p v : Int32) : cdSetTown t p v = cdSetTown t p v ∧ 100 * a 10 (iz t) + a 11 (iz t) = 100 * g 10 (iz t) + g 11 (iz t) ∧ E26 (stSetTown a t p v) (stSetTown g t p v) := by
  rw [mx_of e]
  refine ⟨rfl, rfl, ?_⟩
  unfold stSetTown
  exact E26.ite ((E26.mx.wr _ _ _).wr _ _ _) E26.mx
theorem cong_poster {a g : MG} (e : E26 a g) (t h : Int32) : cdPoster a t h = cdPoster g t h ∧ nI (npO a) = nI (npO g) ∧ E26 (stPoster a t h) (stPoster g t h) := by
  rw [mx_of e]
  refine ⟨rfl, rfl, ?_⟩
  unfold stPoster
  exact E26.ite (((E26.mx.wr _ _ _).wr _ _ _).wr _ _ _) E26.mx
theorem cong_line {a g : MG} (e : E26 a g) (p v : Int32) : cdLine a p v = cdLine g p v ∧ nI (nlO a (iz p)) = nI (nlO g (iz p)) ∧ E26 (stLine a p v) (stLine g p v) := by
  rw [mx_of e]
  refine ⟨rfl, rfl, ?_⟩
  unfold stLine
  exact E26.ite ((E26.mx.wr _ _ _).wr _ _ _) E26.mx
theorem cong_block {a g : MG} (e : E26 a g) (f k v : Int32) : cdBlock a f k v = cdBlock g f k v ∧ blkO a (atO f k) v = blkO g (atO f k) v ∧ E26 a g := by
  rw [mx_of e]
  exact ⟨rfl, rfl, E26.mx⟩
theorem cong_told {a g : MG} (e : E26 a g) (p v : Int32) : cdTold a p v = cdTold g p v ∧ toldO a (iz p) (iz v) = toldO g (iz p) (iz v) ∧ E26 a g := by
  rw [mx_of e]
  exact ⟨rfl, rfl, E26.mx⟩
theorem cong_about {a g : MG} (e : E26 a g) (p k v : Int32) : cdAbout a p k v = cdAbout g p k v ∧ ltoO a (iz p) (iz k) v = ltoO g (iz p) (iz k) v ∧ E26 a g := by
  rw [mx_of e]
  exact ⟨rfl, rfl, E26.mx⟩
theorem cong_count {a g : MG} (e : E26 a g) (v : Int32) : cdCount v = cdCount v ∧ ctO a (iz v) = ctO g (iz v) ∧ E26 a g := by
  rw [mx_of e]
  exact ⟨rfl, rfl, E26.mx⟩
theorem cong_would {a g : MG} (e : E26 a g) (p v : Int32) : cdWould a p v = cdWould g p v ∧ anWould a p v = anWould g p v ∧ E26 a g := by
  rw [mx_of e]
  exact ⟨rfl, rfl, E26.mx⟩
theorem cong_next {a g : MG} (e : E26 a g) : (nxt (prP a) (npO a)).1 = (nxt (prP g) (npO g)).1 ∧ E26 a g := by
  rw [mx_of e]
  exact ⟨rfl, E26.mx⟩
theorem cong_advise {a g : MG} (e : E26 a g) (p : Int32) : cdAdvise a p = cdAdvise g p ∧ anAdvise a (iz p) = anAdvise g (iz p) ∧ E26 a g := by
  rw [mx_of e]
  exact ⟨rfl, rfl, E26.mx⟩
theorem laO_mx (g h : MG) (p : Nat) : ∀ k, laO (mx g h) p k = laO g p k
  | 0 => rfl
  | k + 1 => by
    rw [laO, laO, laO_mx g h p k]
    rfl
theorem cong_lasts {a g : MG} (e : E26 a g) (p : Int32) : cdLasts a p = cdLasts g p ∧ laO a (iz p) 50 = laO g (iz p) 50 ∧ E26 a g := by
  rw [mx_of e]
  exact ⟨rfl, laO_mx _ _ _ _, E26.mx⟩
theorem cong_set {a g : MG} (e : E26 a g) (p : Int32) : cdSet a p = cdSet g p ∧ wdF (plO a (iz p)) = wdF (plO g (iz p)) ∧ E26 (stSet a p) (stSet g p) := by
  rw [mx_of e]
  refine ⟨rfl, rfl, ?_⟩
  unfold stSet
  refine E26.ite E26.mx ?_
  rw [show plO (mx g a) (iz p) = plO g (iz p) from rfl]
  cases plO g (iz p) with
  | none => exact E26.mx
  | some b =>
    intro k hk
    funext j
    show setG (mx g a) (iz p) b k j = setG g (iz p) b k j
    unfold setG
    rw [show mx g a k = g k from E26.mx k hk]
    rfl
theorem cong_print {a g : MG} (e : E26 a g) (p c : Int32) : cdPrint a p c = cdPrint g p c ∧ gtO a (iz p) c = gtO g (iz p) c ∧ E26 (stPrint a p c) (stPrint g p c) := by
  rw [mx_of e]
  refine ⟨rfl, rfl, ?_⟩
  unfold stPrint
  exact E26.ite (((E26.mx.rwr _ _).wr _ _ _).wr _ _ _) E26.mx
theorem cong_strike {a g : MG} (e : E26 a g) (p : Int32) : cdStrike a p = cdStrike g p ∧ sumI (brO a (iz p)) 50 = sumI (brO g (iz p)) 50 ∧ E26 (stStrike a p) (stStrike g p) := by
  rw [mx_of e]
  refine ⟨rfl, rfl, ?_⟩
  unfold stStrike
  refine E26.ite ?_ E26.mx
  intro k hk
  funext j
  show (if k = 7 then _ else _) = (if k = 7 then _ else _)
  rw [show mx g a k = g k from E26.mx k hk]
  rfl
theorem RE.e26 {a b g2 : MG} (h : E26 a b) (hR : RE a g2) : RE b g2 := by
  unfold RE nlO at hR ⊢
  rw [← h 0 (by decide), ← h 14 (by decide), ← h 15 (by decide), ← h 18 (by decide), ← h 19 (by decide), ← h 20 (by decide)]
  exact ⟨hR.1, fun k k1 k2 => (hR.2.1 k k1 k2).trans (h k (by omega)), hR.2.2⟩
theorem LI.RE {N : Nat} {s g : MG} (h : LI N s) (hE : RE s g) : LI N g := by
  obtain ⟨hM, hF, hZ, hY, hB⟩ := h
  obtain ⟨e0, e1, e2⟩ := hE
  have enf : nfO g = nfO s := by unfold nfO; rw [e0 1 (by decide) (by decide)]
  have enp : npO g = npO s := by unfold npO; rw [e0 2 (by decide) (by decide)]
  have enl : ∀ p, nlO g p = nlO s p := fun p => by unfold nlO; rw [e1 14 (by decide) (by decide)]
  have h6 := (IvM_np hM).1
  refine ⟨?_, fun p k hp h15 hk => ?_, fun j j1 j2 => ?_, fun p hp hp6 => ?_, hB.1, fun j hj => ?_⟩
  · obtain ⟨a1, a2, a3, a4, a5, a6, a7, a8⟩ := hM
    unfold IvM
    rw [e0 1 (by decide) (by decide), e0 2 (by decide) (by decide), e1 9 (by decide) (by decide), e1 14 (by decide) (by decide), e1 12 (by decide) (by decide), e1 15 (by decide) (by decide), e1 17 (by decide) (by decide)]
    refine ⟨a1, a2, a3, a4, a5, a6, a7, fun p k hp h15 hk => ?_⟩
    rw [enl p] at hk
    obtain ⟨c1, -, c3⟩ := e2 p k hp h15 hk
    rw [c1, c3]
    exact a8 p k hp h15 hk
  · rw [enp] at hp
    rw [enl p] at hk
    rw [e1 15 (by decide) (by decide)] at h15
    rw [enf, (e2 p k (by omega) h15 hk).1]
    exact hF p k hp h15 hk
  · rw [enf] at j1
    rw [e1 6 (by decide) (by decide), e1 7 (by decide) (by decide), e1 8 (by decide) (by decide)]
    exact hZ j j1 j2
  · rw [enp] at hp
    rw [e1 14 (by decide) (by decide), e1 15 (by decide) (by decide), e1 16 (by decide) (by decide)]
    exact hY p hp hp6
  · rw [e1 6 (by decide) (by decide), e1 7 (by decide) (by decide), e1 8 (by decide) (by decide)]
    exact hB.2 j hj
theorem Rl.RE {s g1 g : MG} (hI : IvM s) (h : Rl s g1) (hE : RE s g) (hq : ∀ q, 26 ≤ q → q ≠ 500 → g q = g1 q) : Rl g g := by
  obtain ⟨e0, e1, e2⟩ := hE
  have h5 := (IvM_nf hI).1
  have h6 := (IvM_np hI).1
  obtain ⟨⟨a1, a2, a3, a4, a5, a6, a7⟩, hF, hP⟩ := h
  refine ⟨⟨?_, ?_, ?_, ?_, ?_, ?_, ?_⟩, hF.c (e0 1 (by decide) (by decide)) (fun k k1 k2 => e1 k (by omega) (by omega)) (fun k k1 k2 _ => hq k (by omega) (by omega)) h5, fun p hp => ?_⟩
  · rw [hq 31 (by decide) (by decide), e0 1 (by decide) (by decide)]; exact a1
  · rw [hq 32 (by decide) (by decide), e0 2 (by decide) (by decide)]; exact a2
  · rw [hq 30 (by decide) (by decide), e0 3 (by decide) (by decide)]; exact a3
  · rw [hq 30 (by decide) (by decide), e0 4 (by decide) (by decide)]; exact a4
  · rw [hq 33 (by decide) (by decide), e1 9 (by decide) (by decide)]; exact a5
  · rw [hq 34 (by decide) (by decide), e1 10 (by decide) (by decide)]; exact a6
  · rw [hq 35 (by decide) (by decide), e1 11 (by decide) (by decide)]; exact a7
  · have hp' : p < npO s := by unfold npO at hp ⊢; rw [← e0 2 (by decide) (by decide)]; exact hp
    obtain ⟨d1, d2, d3, d4, d5, d6⟩ := hP p hp'
    rw [hq (100 + 10 * p) (by omega) (by omega), hq (100 + 10 * p + 1) (by omega) (by omega), e1 12 (by decide) (by decide), e1 13 (by decide) (by decide), e1 14 (by decide) (by decide), e1 15 (by decide) (by decide), e1 16 (by decide) (by decide)]
    refine ⟨d1, d2, d3, d4, d5, fun q hq' => ?_⟩
    have hq2 : q < nlO s p := by unfold nlO at hq' ⊢; rw [← e1 14 (by decide) (by decide)]; exact hq'
    have h4 := (IvM_nl hI (show p < 6 by omega)).2
    exact (d6 q hq2).c (by rw [e1 15 (by decide) (by decide)]) (by rw [e1 17 (by decide) (by decide)]) (fun h15 => e2 p q (by omega) h15 hq2) (by rw [hq _ (by omega) (by omega)]) (hq _ (by omega) (by omega)) (fun _ => ⟨hq _ (by omega) (by omega), hq _ (by omega) (by omega)⟩)
theorem e26_law {g g1 : MG} {cd : Nat} {an : Int32} (hF : FrK g g1) : E26 (if cd = 0 then wr g1 500 0 an else g1) g := fun k hk => by
  by_cases h : cd = 0
  · rw [if_pos h, wr_row _ _ _ _ (by omega)]; exact hF.1 k (by omega)
  · rw [if_neg h]; exact hF.1 k (by omega)
theorem turn {N : Nat} {g1 gu g2 st sr : MG} {cd cr : Nat} {an ar : Int32} {r : Int32} (hN : LI N st) (hR : Rl st g1) (hu : gu = if cd = 0 then wr g1 500 0 an else g1) (hcg : cr = cd ∧ ar = an ∧ E26 sr st) (hP : PM gu cr ar sr r g2) : g2 0 0 = nI cd ∧ (cd = 0 → r = an ∧ g2 500 0 = an) ∧ LI N g2 ∧ Rl g2 g2 := by
  obtain ⟨rfl, rfl, hE⟩ := hcg
  obtain ⟨p1, p2, p3, p4⟩ := hP
  have p3' := p3.e26 hE
  refine ⟨p1, fun h0 => ⟨p2 h0, ?_⟩, hN.RE p3', hR.RE hN.1 p3' (fun q h1 h2 => ?_)⟩
  · rw [p4 500 (by decide), hu, if_pos h0, wr_same]
  · rw [p4 q h1, hu]
    by_cases h0 : cr = 0
    · rw [if_pos h0, wr_row _ _ _ _ h2]
    · rw [if_neg h0]
theorem mixB_0 (g : MG) (x : Int32) (f : Nat) : ∀ k d, mixB (wr g 0 0 x) f k d = mixB g f k d
  | 0, _ => rfl
  | k + 1, d => by rw [mixB, mixB, mixB_0 g x f k d]; rfl
theorem mixFs_0 (g : MG) (x : Int32) : ∀ k d, mixFs (wr g 0 0 x) k d = mixFs g k d
  | 0, _ => rfl
  | k + 1, d => by rw [mixFs, mixFs, mixFs_0 g x k d, mixB_0]; rfl
theorem mixLs_0 (g : MG) (x : Int32) (p : Nat) : ∀ k d, mixLs (wr g 0 0 x) p k d = mixLs g p k d
  | 0, _ => rfl
  | k + 1, d => by rw [mixLs, mixLs, mixLs_0 g x p k d]; rfl
theorem mixPs_0 (g : MG) (x : Int32) : ∀ k d, mixPs (wr g 0 0 x) k d = mixPs g k d
  | 0, _ => rfl
  | k + 1, d => by rw [mixPs, mixPs, mixPs_0 g x k d, mixLs_0]; rfl
theorem dgO_0 (g : MG) (x : Int32) : dgO (wr g 0 0 x) = dgO g := by
  unfold dgO
  rw [mixPs_0, mixFs_0]
  rfl
theorem RE_0 (g : MG) (x : Int32) : RE g (wr g 0 0 x) := RE.of (fun j h1 h2 => wr_ne _ _ _ _ (Or.inr (by omega))) (fun k h1 h2 => wr_row _ _ _ _ (by omega))
