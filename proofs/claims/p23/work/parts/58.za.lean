/-! THE CLASS: poster -/
def psG (g : MG) (n : Nat) (t h : Int32) : MG := fun k j => if k = 32 then (if j = 2 then nI (n + 1) else g k j) else if k = 100 + 10 * n then (if j = 0 then t else if j = 1 then h else 0) else if k = 101 + 10 * n then 0 else g k j
theorem psG_o {g : MG} {n k : Nat} {t h : Int32} (h1 : k ≠ 32) (h2 : ¬ (100 + 10 * n ≤ k ∧ k < 102 + 10 * n)) : psG g n t h k = g k := by
  funext j
  unfold psG
  rw [if_neg h1, if_neg (by omega), if_neg (by omega)]
theorem psG_32 {g : MG} {n : Nat} {t h : Int32} : psG g n t h 32 2 = nI (n + 1) := rfl
theorem psG_f {g : MG} {n j : Nat} {t h : Int32} : psG g n t h (100 + 10 * n) j = if j = 0 then t else if j = 1 then h else 0 := by
  unfold psG
  rw [if_neg (by omega), if_pos rfl]
theorem psG_l {g : MG} {n j : Nat} {t h : Int32} : psG g n t h (101 + 10 * n) j = 0 := by
  unfold psG
  rw [if_neg (by omega), if_neg (by omega), if_pos rfl]
theorem Wf_ps {g : MG} (h : Wf g) {n : Nat} {t x : Int32} (hn : n < 6) : Wf (psG g n t x) := by
  obtain ⟨⟨m, hm, e1, hf⟩, ⟨n2, hn2, e2⟩, h3⟩ := h
  refine ⟨⟨m, hm, by rw [psG_o (by decide) (by omega)]; exact e1, fun j hj => ?_⟩, ⟨n + 1, by omega, psG_32⟩, fun p hp => ?_⟩
  · rw [psG_o (by omega) (by omega)]
    exact hf j hj
  · by_cases hpn : p = n
    · subst hpn
      exact ⟨0, by decide, psG_l⟩
    · rw [psG_o (by omega) (by omega)]
      exact h3 p hp
theorem ps_old {Y : Yc} {ad ad' : Nat → Nat} {df : Nat} {g : MG} (hwf : Wf g) {n : Nat} {t h : Int32} (hn : n < 6) (e : g 32 2 = nI n) (hO : ∀ k, k ≠ 37 → ¬ (100 + 10 * n ≤ k ∧ k < 102 + 10 * n) → ad' k = ad k) {k : Nat} (h1 : k ≠ 32) (h2 : k ≠ 37) (h3 : ¬ (100 + 10 * n ≤ k ∧ k < 102 + 10 * n)) : cx Y ad' df (psG g n t h) k = cx Y ad df g k := by
  have e31 : psG g n t h 31 = g 31 := psG_o (by decide) (by omega)
  have enl : ∀ p, p ≠ n → psG g n t h (101 + 10 * p) 2 = g (101 + 10 * p) 2 := fun p hp => by rw [psG_o (by omega) (by omega)]
  have enn : psG g n t h (101 + 10 * n) 2 = 0 := psG_l
  have ek : psG g n t h k = g k := psG_o h1 h3
  unfold cx
  rw [e31, ek, psG_32, e]
  have i1 : iz (nI (n + 1)) = n + 1 := iz_nI (by omega)
  have i0 : iz (nI n) = n := iz_nI (by omega)
  rcases k_reg k with c | c | c | c | c | c | c | c
  · exact cS_lo c (fun q hq => hO q (by omega) (by omega)) (fun _ _ => hO 36 (by decide) (by omega)) (fun z => absurd z h1)
  · subst c
    obtain ⟨⟨m, hm, e1, -⟩, -⟩ := hwf
    rw [cS_36, cS_36, e1]
    cases m with
    | zero => rfl
    | succ m =>
      rw [cEd_at (i := 0) (by omega) (by omega), cEd_at (i := 0) (by omega) (by omega)]
      have : (fun j => if j < m + 1 then some (ad' (40 + 10 * j)) else none) = fun j => if j < m + 1 then some (ad (40 + 10 * j)) else none := by
        funext j
        by_cases hj : j < m + 1
        · rw [if_pos hj, if_pos hj, hO _ (by omega) (by omega)]
        · rw [if_neg hj, if_neg hj]
      rw [this]
  · exact absurd c h2
  · rw [cS_f c, cS_f c, hO (k + 1) (by omega) (by omega), hO (k + 2) (by omega) (by omega), hO (k + 3) (by omega) (by omega)]
    by_cases h0 : (k - 40) % 10 = 0
    · rw [hO (k + 4) (by omega) (by omega)]
    · rw [if_neg h0, if_neg h0]
  · rw [cS_p c, cS_p c, i1, i0]
    by_cases hk : (k - 100) / 10 < n
    · have : (fun j => ad' (200 + 10 * (4 * ((k - 100) / 10) + j))) = fun j => ad (200 + 10 * (4 * ((k - 100) / 10) + j)) := by
        funext j
        exact hO _ (by omega) (by omega)
      rw [if_pos (by omega), if_pos hk, this, enl _ (by omega)]
      by_cases h0 : (k - 100) % 10 = 0
      · rw [if_pos h0, if_pos h0, hO (k + 1) (by omega) (by omega)]
      · by_cases h01 : (k - 100) % 10 = 1
        · rw [if_neg h0, if_neg h0, if_pos h01, if_pos h01, cLi_ad (fun _ => hO (k + 1) (by omega) (by omega))]
        · rw [if_neg h0, if_neg h0, if_neg h01, if_neg h01]
    · rw [if_neg hk]
      by_cases hk2 : (k - 100) / 10 < n + 1
      · have hkn : (k - 100) / 10 = n := by omega
        rw [if_pos hk2, if_neg (by omega), if_neg (by omega), hkn, enn]
        split
        · rfl
        · rfl
      · rw [if_neg hk2]
  · rw [cS_l c, cS_l c, i1, i0, hO (k + 1) (by omega) (by omega), hO (k + 2) (by omega) (by omega)]
    by_cases hk : (k - 200) / 40 < n
    · have hq : ((k - 200) / 40 < n + 1) = ((k - 200) / 40 < n) := by rw [eq_true hk, eq_true (show (k - 200) / 40 < n + 1 by omega)]
      rw [enl _ (by omega)]
      simp only [hq]
      by_cases h0 : (k - 200) % 10 = 0
      · have hf : fR ad' (g k 3) = fR ad (g k 3) := by
          obtain ⟨⟨m, hm, e1, hf⟩, -⟩ := hwf
          have hj : k = 200 + 10 * ((k - 200) / 10) := by omega
          rcases hf ((k - 200) / 10) (by omega) with h | ⟨i, hi, h⟩
          · rw [← hj] at h
            rw [h]
            rfl
          · rw [← hj] at h
            rw [h, fR_nI (by omega), fR_nI (by omega), hO _ (by omega) (by omega)]
        rw [hf]
      · rw [if_neg h0, if_neg h0]
    · have hr : ¬ ((k - 200) / 40 < n ∧ (k - 200) / 10 % 4 < iz (g (101 + 10 * ((k - 200) / 40)) 2)) := fun z => hk z.1
      have hl : ¬ ((k - 200) / 40 < n + 1 ∧ (k - 200) / 10 % 4 < iz (psG g n t h (101 + 10 * ((k - 200) / 40)) 2)) := fun z => by
        have hkn : (k - 200) / 40 = n := by omega
        rw [hkn, enn, show iz 0 = 0 from rfl] at z
        exact Nat.not_lt_zero _ z.2
      rw [if_neg hl, if_neg hr]
  · rw [cS_law c, cS_law c]
    exact cW_ad (fun q hq => hO q (by omega) (by omega)) _
  · rw [cS_no c, cS_no c]
def psA (ad : Nat → Nat) (n q x a1 : Nat) : Nat → Nat := fun k => if k = 37 then q else if k = 100 + 10 * n then x else if k = 101 + 10 * n then a1 else ad k
theorem psA_o {ad : Nat → Nat} {n q x a1 k : Nat} (h1 : k ≠ 37) (h2 : ¬ (100 + 10 * n ≤ k ∧ k < 102 + 10 * n)) : psA ad n q x a1 k = ad k := by
  unfold psA
  rw [if_neg h1, if_neg (by omega), if_neg (by omega)]
theorem psA_x {ad : Nat → Nat} {n q x a1 : Nat} : psA ad n q x a1 37 = q ∧ psA ad n q x a1 (100 + 10 * n) = x ∧ psA ad n q x a1 (100 + 10 * n + 1) = a1 := by
  refine ⟨rfl, ?_, ?_⟩
  · unfold psA; rw [if_neg (by omega), if_pos rfl]
  · unfold psA; rw [if_neg (by omega), if_neg (by omega), if_pos (by omega)]
def psN (n p37 p32 px : Nat) : Nat → Option Nat := fun k => if k = 37 then some p37 else if k = 32 then some p32 else if k = 100 + 10 * n then some px else if k = 101 + 10 * n then some 3 else none
theorem psN_no {n p37 p32 px k : Nat} (h : psN n p37 p32 px k = none) : k ≠ 37 ∧ k ≠ 32 ∧ ¬ (100 + 10 * n ≤ k ∧ k < 102 + 10 * n) := by
  unfold psN at h
  split at h
  · cases h
  · split at h
    · cases h
    · split at h
      · cases h
      · split at h
        · cases h
        · exact ⟨by assumption, by assumption, by omega⟩
theorem psN_so {n p37 p32 px k i : Nat} (h : psN n p37 p32 px k = some i) : (k = 37 ∧ i = p37) ∨ (k = 32 ∧ i = p32) ∨ (k = 100 + 10 * n ∧ i = px) ∨ (k = 100 + 10 * n + 1 ∧ i = 3) := by
  unfold psN at h
  split at h
  · cases h; exact Or.inl ⟨by assumption, rfl⟩
  · split at h
    · cases h; exact Or.inr (Or.inl ⟨by assumption, rfl⟩)
    · split at h
      · cases h; exact Or.inr (Or.inr (Or.inl ⟨by assumption, rfl⟩))
      · split at h
        · cases h; exact Or.inr (Or.inr (Or.inr ⟨by omega, rfl⟩))
        · cases h
theorem Hw_ps {Z : Zc} {g : MG} {H H1 : Heap} (hw : HwZ Z g H) {n : Nat} {t h : Int32} (hn : n < 6) (e : g 32 2 = nI n) {A : Nat → Prop} {w : va_W} {q x a1 p37 p32 px : Nat} (hpd : p37 ≠ p32 ∧ p37 ≠ px ∧ p32 ≠ px ∧ p37 < 3 ∧ p32 < 3 ∧ px < 3) (hP : va_P Z.D vwCl w H1) (hD : va_D A w) (hA : ∀ a, A a → Z.z ≤ a) (hA2 : ∀ k, k ≠ 32 → k ≠ 37 → cx Z.Y Z.ad Z.df g k ≠ none → ¬ A (Z.ad k)) (hfr : ∀ a : Nat, a < H.size → ¬ A a → H1[a]? = H[a]?)
    {f : Nat → Option Nat} (hf : ∀ j, f j = if j < n then some (Z.ad (100 + 10 * j)) else none) (w37 : w[p37]? = some (q, .inl (Z.Y.2.1, 10, .inr (.inr (.inr (.inr (va_up f n (some x)))))))) (w32 : w[p32]? = some (Z.ad 32, .inr (0, [.int (nI (n + 1)), .ref q, .int (nI (n + 1))]))) (wx : w[px]? = some (x, .inr (3, [.int t, .int h, .ref a1, .int 0, .int 0]))) (w3 : w[3]? = some (a1, .inr (0, [.int 0, .ref Z.df, .int 0]))) : HwZ (Z.wa (psA Z.ad n q x a1)) (psG g n t h) H1 := by
  obtain ⟨x37, xx, x1⟩ := @psA_x Z.ad n q x a1
  have hO : ∀ k, k ≠ 37 → ¬ (100 + 10 * n ≤ k ∧ k < 102 + 10 * n) → psA Z.ad n q x a1 k = Z.ad k := fun k h1 h2 => psA_o h1 h2
  have hnz : ¬ nI (n + 1) = 0 := fun z => by have := nI_inj (a := n + 1) (b := 0) (by omega) (by decide) z; omega
  refine Hw_new hw hP hD hA (psN n p37 p32 px) (fun k i hki => ?_) (fun a b i ha hb => ?_) (fun k hk e9 he => ?_) (fun k hk hc => ?_) (Wf_ps hw.2.2 hn)
  · rcases psN_so hki with ⟨rfl, rfl⟩ | ⟨rfl, rfl⟩ | ⟨rfl, rfl⟩ | ⟨rfl, rfl⟩
    · refine ⟨_, (cxE2 psG_32).trans (cEd_at (i := 0) (by omega) (by omega)), ?_⟩
      have hfe : va_up f n (some x) = fun j => if j < n + 1 then some (psA Z.ad n q x a1 (100 + 10 * j)) else none := by
        funext j
        unfold va_up
        by_cases hj : j = n
        · rw [if_pos hj, hj, if_pos (by omega), xx]
        · rw [if_neg hj, hf]
          by_cases hj2 : j < n
          · rw [if_pos hj2, if_pos (by omega), hO _ (by omega) (by omega)]
          · rw [if_neg hj2, if_neg (by omega)]
      rw [w37, x37, hfe]
    · refine ⟨_, cx_L2, ?_⟩
      rw [w32, hO 32 (by decide) (by omega)]
      unfold cLi
      rw [psG_32, if_neg hnz, x37]
    · refine ⟨_, cx_P (n := n + 1) psG_32 (Nat.lt_succ_self n) (by omega), ?_⟩
      rw [wx, xx, x1, psG_f, psG_f, psG_f, psG_f]
      rfl
    · refine ⟨_, cx_PL (n := n + 1) psG_32 (Nat.lt_succ_self n) (by omega), ?_⟩
      rw [w3, x1]
      unfold cLi
      rw [show 100 + 10 * n + 1 = 101 + 10 * n by omega, psG_l, if_pos rfl]
  · obtain ⟨d1, d2, d3, d4, d5, d6⟩ := hpd
    rcases psN_so ha with ⟨h1, h2⟩ | ⟨h1, h2⟩ | ⟨h1, h2⟩ | ⟨h1, h2⟩ <;> rcases psN_so hb with ⟨h3, h4⟩ | ⟨h3, h4⟩ | ⟨h3, h4⟩ | ⟨h3, h4⟩ <;> omega
  · obtain ⟨h1, h2, h3⟩ := psN_no hk
    rw [ps_old hw.2.2 hn e hO h2 h1 h3] at he
    exact ⟨he, hO k h1 h3⟩
  · obtain ⟨h1, h2, h3⟩ := psN_no hk
    obtain ⟨e9, he9⟩ := Option.ne_none_iff_exists'.mp hc
    have h4 := hA2 k h2 h1 hc
    exact ⟨hfr _ (hw.1 k e9 he9).1.lt h4, h4⟩
/-- rows of posters that aren't there are 0 -/
def IvY (s : MG) : Prop := ∀ p, npO s ≤ p → p < 6 → s 14 p = 0 ∧ s 15 p = 0 ∧ s 16 p = 0
theorem FrK_ps {g : MG} {n : Nat} {t h : Int32} (hn : n < 6) : FrK g (psG g n t h) := ⟨fun k hk => psG_o (by omega) (by omega), psG_o (by decide) (by omega)⟩
theorem adE_ps {Z : Zc} {n q x a1 : Nat} (hn : n < 6) : adE Z (psA Z.ad n q x a1) := ⟨fun k hk => psA_o (by omega) (by omega), fun k hk => psA_o (by omega) (by omega)⟩
theorem Rl_ps {s g : MG} (hI : IvM s) (hY : IvY s) (hR : Rl s g) (hn : npO s < 6) (t h : Int32) : Rl (wr (wr (wr s 12 (npO s) t) 13 (npO s) h) 0 2 (nI (npO s + 1))) (psG g (npO s) t h) := by
  obtain ⟨⟨a1, a2, a3, a4, a5, a6, a7⟩, hF, hP⟩ := hR
  have es : ∀ z, z ≠ 12 → z ≠ 13 → z ≠ 0 → wr (wr (wr s 12 (npO s) t) 13 (npO s) h) 0 2 (nI (npO s + 1)) z = s z := fun z z1 z2 z3 => by rw [wr_row _ _ _ _ z3, wr_row _ _ _ _ z2, wr_row _ _ _ _ z1]
  have e0 : ∀ j, j ≠ 2 → wr (wr (wr s 12 (npO s) t) 13 (npO s) h) 0 2 (nI (npO s + 1)) 0 j = s 0 j := fun j hj => by rw [wr_ne _ _ _ _ (Or.inr hj), wr_row _ _ _ _ (by decide), wr_row _ _ _ _ (by decide)]
  have e12 : wr (wr (wr s 12 (npO s) t) 13 (npO s) h) 0 2 (nI (npO s + 1)) 12 = wr s 12 (npO s) t 12 := by rw [wr_row _ _ _ _ (by decide), wr_row _ _ _ _ (by decide)]
  have e13 : wr (wr (wr s 12 (npO s) t) 13 (npO s) h) 0 2 (nI (npO s + 1)) 13 = wr (wr s 12 (npO s) t) 13 (npO s) h 13 := by rw [wr_row _ _ _ _ (by decide)]
  have hnp : npO (wr (wr (wr s 12 (npO s) t) 13 (npO s) h) 0 2 (nI (npO s + 1))) = npO s + 1 := by
    show iz (wr (wr (wr s 12 (npO s) t) 13 (npO s) h) 0 2 (nI (npO s + 1)) 0 2) = npO s + 1
    rw [wr_same]
    exact iz_nI (by omega)
  refine ⟨⟨?_, ?_, ?_, ?_, ?_, ?_, ?_⟩, hF.c (e0 1 (by decide)) (fun k k1 k2 => es k (by omega) (by omega) (by omega)) (fun k k1 k2 _ => psG_o (by omega) (by omega)) (IvM_nf hI).1, fun p hp => ?_⟩
  · rw [psG_o (by decide) (by omega), e0 1 (by decide)]; exact a1
  · rw [psG_32, wr_same]
  · rw [psG_o (by decide) (by omega), e0 3 (by decide)]; exact a3
  · rw [psG_o (by decide) (by omega), e0 4 (by decide)]; exact a4
  · rw [psG_o (by decide) (by omega), es 9 (by decide) (by decide) (by decide)]; exact a5
  · rw [psG_o (by decide) (by omega), es 10 (by decide) (by decide) (by decide)]; exact a6
  · rw [psG_o (by decide) (by omega), es 11 (by decide) (by decide) (by decide)]; exact a7
  · rw [hnp] at hp
    rw [e12, e13, es 14 (by decide) (by decide) (by decide), es 15 (by decide) (by decide) (by decide), es 16 (by decide) (by decide) (by decide)]
    by_cases hpn : p = npO s
    · subst hpn
      obtain ⟨y14, y15, y16⟩ := hY (npO s) (Nat.le_refl _) hn
      rw [psG_f, psG_f, psG_f, psG_f, show 100 + 10 * npO s + 1 = 101 + 10 * npO s by omega, psG_l, wr_same, wr_same, y14, y15, y16]
      refine ⟨rfl, rfl, rfl, rfl, rfl, fun q hq => ?_⟩
      have : nlO (wr (wr (wr s 12 (npO s) t) 13 (npO s) h) 0 2 (nI (npO s + 1))) (npO s) = 0 := by unfold nlO; rw [es 14 (by decide) (by decide) (by decide), y14]; rfl
      omega
    · obtain ⟨b1, b2, b3, b4, b5, b6⟩ := hP p (by omega)
      rw [psG_o (by omega) (by omega), psG_o (by omega) (by omega), wr_ne _ _ _ _ (Or.inr hpn), wr_ne _ _ _ _ (Or.inr hpn), wr_row _ _ _ _ (by decide)]
      refine ⟨b1, b2, b3, b4, b5, fun q hq => ?_⟩
      have hq' : q < nlO s p := by unfold nlO at hq ⊢; rw [es 14 (by decide) (by decide) (by decide)] at hq; exact hq
      have := (IvM_nl hI (show p < 6 by omega)).2
      exact (b6 q hq').c (by rw [es 15 (by decide) (by decide) (by decide)]) (by rw [es 17 (by decide) (by decide) (by decide)]) (fun _ => ⟨by rw [es 18 (by decide) (by decide) (by decide)], by rw [es 19 (by decide) (by decide) (by decide)], by rw [es 20 (by decide) (by decide) (by decide)]⟩) (by rw [psG_o (by omega) (by omega)]) (psG_o (by omega) (by omega)) (fun _ => ⟨psG_o (by omega) (by omega), psG_o (by omega) (by omega)⟩)
set_option maxRecDepth 100000 in
theorem x_poster (l : Launch) (hl9 : l.stackTraces = false) (Z : Zc) (t h : Int32) (s g : MG) (hI : IvM s) (hY : IvY s) (hR : Rl s g) : XM l yX3_poster cX3_poster 4 (some .int) (rmz 8 240 6 60) Z [.ref (Z.ad 30), .int t, .int h] g (PXM Z g (cdPoster s t h) (nI (npO s)) (stPoster s t h)) (PXx g (cdPoster s t h) (nm3 0 1 2) (stPoster s t h)) := by
  refine ent_xm (lo := [some (.ref (Z.ad 30)), some (.int t), some (.int h), none]) hl9 (by decide) rfl (by simp [lg_sl, Value.category]) rfl (by decide) (fun P hl C hM ret thr => ?_)
  have hnf := (IvM_nf hI).2
  have hf5 := (IvM_nf hI).1
  have hnp := (IvM_np hI).2
  have hp6 := (IvM_np hI).1
  have hn1 : g 31 2 = nI (nfO s) := hR.1.1.trans hnf
  have hn2 : g 32 2 = nI (npO s) := hR.1.2.1.trans hnp
  refine v_iload_n C dX3_poster_0 rfl rfl ?_
  refine v_callSi (n := 1) (as := [.int t]) C (c_cisTown _ Z t g) (gs (tg3 66 rfl rfl) (tg3 67 rfl rfl) (tg1 1 rfl rfl) (tg3 68 rfl rfl)) (by decide +kernel) ⟨Nat.le_of_ble_eq_true rfl, Nat.le_of_ble_eq_true rfl⟩ rfl rfl (Nat.le_of_ble_eq_true rfl) dX3_poster_1 ⟨Nat.le_of_ble_eq_true rfl, Nat.le_of_ble_eq_true rfl⟩ (fun r1 g1 hp1 => ?_)
  obtain ⟨rfl, hg1⟩ := hp1
  rw [hg1]
  refine v_if_ne (tgt := 17) C dX3_poster_4 (by decide) (fun h4 => ?_) (fun h4 => ?_)
  · have k4 := bI_1.mp h4
    refine v_iload_n C dX3_poster_17 rfl rfl ?_
    refine v_iconst (v := 1) C dX3_poster_18 (by decide) ?_
    refine v_icmp_lt (tgt := 28) C dX3_poster_19 (by decide) (fun h19 => ?_) (fun h19 => ?_)
    · exact thr _ _ _ _ _ 1 _ _ (List.mem_of_getElem? (i := 10) rfl) ⟨Nat.le_of_ble_eq_true rfl, Nat.le_of_ble_eq_true rfl⟩ dX3_poster_28 dX3_poster_31 dX3_poster_32 dX3_poster_34 dX3_poster_37 (PXx.no (k := 2) (by unfold cdPoster; rw [if_neg (by simp [k4]), if_pos (inB_f.mpr (by have z1 : (1 : Int32).toInt = 1 := rfl; have z9 : (20 : Int32).toInt = 20 := rfl; simp only [i_lt, i_le] at h19; omega))]) (by decide) rfl (by unfold stPoster; rw [if_neg (by rw [show cdPoster s t h = 2 by unfold cdPoster; rw [if_neg (by simp [k4]), if_pos (inB_f.mpr (by have z1 : (1 : Int32).toInt = 1 := rfl; have z9 : (20 : Int32).toInt = 20 := rfl; simp only [i_lt, i_le] at h19; omega))]]; decide)]) hR FrK.rf)
    · refine v_iload_n C dX3_poster_22 rfl rfl ?_
      refine v_bipush (v := 20) C dX3_poster_23 (by decide) ?_
      refine v_icmp_le (tgt := 38) C dX3_poster_25 (by decide) (fun h25 => ?_) (fun h25 => ?_)
      · have b1 : inB h 1 20 = true := inB_t.mpr (by have z1 : (1 : Int32).toInt = 1 := rfl; have z9 : (20 : Int32).toInt = 20 := rfl; simp only [i_lt, i_le] at h19 h25; omega)
        refine v_aload_n C dX3_poster_38 rfl rfl ?_
        refine v_get C inG3 rfl 1 (by decide) (tg1 67 rfl rfl) rfl cx_T rfl dX3_poster_39 ?_
        refine v_callVi (n := 0) (as := []) C (c_lsize _ Z 32 37 g cx_L2) (gv (tg1 97 rfl rfl) (tg1 98 rfl rfl) (tg1 99 rfl rfl) (tg1 4 rfl rfl) (tg1 100 rfl rfl)) (by decide +kernel) ⟨Nat.le_of_ble_eq_true rfl, Nat.le_of_ble_eq_true rfl⟩ rfl cx_L2 rfl rfl (Nat.le_of_ble_eq_true rfl) dX3_poster_42 ⟨Nat.le_of_ble_eq_true rfl, Nat.le_of_ble_eq_true rfl⟩ (fun r42 g42 hp42 => ?_)
        obtain ⟨rfl, hg42⟩ := hp42
        rw [hg42]
        refine v_topi (y := nI (npO s)) hn2 ?_
        refine v_bipush (v := 6) C dX3_poster_45 (by decide) ?_
        refine v_icmp_lt (tgt := 60) C dX3_poster_47 (by decide) (fun h47 => ?_) (fun h47 => ?_)
        · have hn9 : npO s < 6 := Nat.lt_of_not_le fun z => absurd h47 (by rw [i_lt, nI_toInt (by omega), show (6 : Int32).toInt = 6 from rfl]; omega)
          have hcd : cdPoster s t h = 0 := by unfold cdPoster; rw [if_neg (by simp [k4]), if_neg (by rw [b1]; decide), if_neg (by omega)]
          refine v_aload_n C dX3_poster_60 rfl rfl ?_
          refine v_get C inG3 rfl 1 (by decide) (tg1 67 rfl rfl) rfl cx_T rfl dX3_poster_61 ?_
          refine v_callVi (n := 0) (as := []) C (c_lsize _ Z 32 37 g cx_L2) (gv (tg1 97 rfl rfl) (tg1 98 rfl rfl) (tg1 99 rfl rfl) (tg1 4 rfl rfl) (tg1 100 rfl rfl)) (by decide +kernel) ⟨Nat.le_of_ble_eq_true rfl, Nat.le_of_ble_eq_true rfl⟩ rfl cx_L2 rfl rfl (Nat.le_of_ble_eq_true rfl) dX3_poster_64 ⟨Nat.le_of_ble_eq_true rfl, Nat.le_of_ble_eq_true rfl⟩ (fun r64 g64 hp64 => ?_)
          obtain ⟨rfl, hg64⟩ := hp64
          rw [hg64]
          refine v_topi (y := nI (npO s)) hn2 ?_
          refine v_istore_n (lo' := [some (.ref (Z.ad 30)), some (.int t), some (.int h), some (.int (nI (npO s)))]) C dX3_poster_67 rfl (Nat.le_of_ble_eq_true rfl) rfl rfl ?_
          refine v_aload_n C dX3_poster_68 rfl rfl ?_
          refine v_get C inG3 rfl 1 (by decide) (tg1 67 rfl rfl) rfl cx_T rfl dX3_poster_69 ?_
          generalize hng : npO s = n at hn9 hn2 ⊢
          refine u_new (ci := 3) (fs := [.int 0, .int 0, .null, .int 0, .int 0]) C inG2 tyX2 tyX2_ok (tg1 183 rfl rfl) (tg3 82 rfl rfl) (tg1 20 rfl rfl) rfl (by decide) (Nat.le_of_ble_eq_true rfl) (Nat.le_of_ble_eq_true rfl) dX3_poster_72 (fun x => ?_)
          refine u_dup C dX3_poster_75 rfl ?_
          refine u_iload_n C dX3_poster_76 rfl rfl ?_
          refine u_iload_n C dX3_poster_77 rfl rfl ?_
          refine u_callI (n := 2) (as := [.int t, .int h]) C (k_pinit _ Z (AX Z g) x t h []) (tg3 83 rfl rfl) (tg3 84 rfl rfl) (tg1 20 rfl rfl) (tg3 85 rfl rfl) rfl (by decide +kernel) ⟨Nat.le_of_ble_eq_true rfl, Nat.le_of_ble_eq_true rfl⟩ rfl rfl (Nat.le_of_ble_eq_true rfl) dX3_poster_78 ⟨Nat.le_of_ble_eq_true rfl, Nat.le_of_ble_eq_true rfl⟩ (fun xs hxs => ?_)
          obtain ⟨a1, rfl⟩ := hxs
          cases n with
          | zero =>
            have hL : cx Z.Y Z.ad Z.df g 32 = some (.inr (0, [.int 0, .ref Z.df, .int 0])) := by rw [cx_L2]; unfold cLi; rw [hn2]; rfl
            refine u_add (g' := psG g 0 t h) (Φ := adE Z) C hM (tg3 109 rfl rfl) (k_add_0 _ Z (fun q => q = Z.ad 32 ∨ AX Z g q) (Z.ad 32) x (ci := 3) (N := 5) (Cn := RX2) (T := TX2) rfl (List.mem_of_getElem? (i := 1) rfl) [(a1, .inr (0, [.int 0, .ref Z.df, .int 0]))]) hL (fun q hq => Or.inr hq) (fun H hw q hq => by rcases hq with rfl | hq; (· exact (hw.1 32 _ hL).2); (· exact hq.1)) (fun H hw hX => by have h9 := in1 hw hX hL; exact ⟨h9.1.sub [0, 2, 1] rfl, h9.2.sub [0, 2, 1] rfl rfl⟩) ⟨Nat.le_of_ble_eq_true rfl, Nat.le_of_ble_eq_true rfl⟩ (Nat.le_of_ble_eq_true rfl) dX3_poster_81 ⟨Nat.le_of_ble_eq_true rfl, Nat.le_of_ble_eq_true rfl⟩ (fun r9 w9 H H1 hp hw hP9 hD9 hA9 hfr => ?_) (fun r9 ad9 hE9 => ?_)
            · obtain ⟨q, rfl⟩ := hp
              exact ⟨_, adE_ps hn9, Hw_ps (p37 := 0) (p32 := 1) (px := 2) hw hn9 hn2 (q := q) (by decide) hP9 hD9 hA9 (fun k h1 h2 hc hA => by rcases hA with h3 | h3; (· exact h1 (hw.2.1 k 32 hc (by rw [hL]; simp) h3)); (· exact h3.2 k hc rfl)) hfr (f := fun _ => none) (fun j => by rw [if_neg (Nat.not_lt_zero j)]) rfl rfl rfl rfl⟩
            · refine v_pop (C.wa ad9) dX3_poster_84 rfl ?_
              refine v_iload_n (C.wa ad9) dX3_poster_85 rfl rfl ?_
              refine v_wide (k := 6) (n := 60) (Nat.le_of_ble_eq_true rfl) (Nat.le_of_ble_eq_true rfl) ?_
              exact ret _ _ _ _ _ dX3_poster_86 ⟨hcd, by rw [hng], by have h9 := Rl_ps hI hY hR (by omega) t h; unfold stPoster; rw [if_pos hcd]; rw [hng] at h9 ⊢; exact h9, FrK_ps hn9, hE9⟩
          | succ m =>
            have hL : cx Z.Y Z.ad Z.df g 32 = some (.inr (0, [.int (nI (m + 1)), .ref (Z.ad 37), .int (nI (m + 1))])) := by rw [cx_L2]; unfold cLi; rw [hn2, if_neg (fun z => by have := nI_inj (a := m + 1) (b := 0) (by omega) (by decide) z; omega)]
            have hE := (cxE2 (Y := Z.Y) (ad := Z.ad) (df := Z.df) hn2).trans (cEd_at (i := 0) (by omega) (by omega))
            refine u_add (g' := psG g (m + 1) t h) (Φ := adE Z) C hM (tg3 109 rfl rfl) (k_add_k _ Z (fun q => q = Z.ad 32 ∨ q = Z.ad 37 ∨ AX Z g q) (Z.ad 32) x (Z.ad 37) (m + 1) (by omega) _ (ci := 3) (N := 5) (Cn := RX2) (T := TX2) rfl (List.mem_of_getElem? (i := 1) rfl) [(a1, .inr (0, [.int 0, .ref Z.df, .int 0]))]) hL (fun q hq => Or.inr (Or.inr hq)) (fun H hw q hq => by rcases hq with rfl | rfl | hq; (· exact (hw.1 32 _ hL).2); (· exact (hw.1 37 _ hE).2); (· exact hq.1)) (fun H hw hX => by have h9 := in2 hw hX hL hE (by decide); exact ⟨h9.1.sub [0, 3, 1, 2] rfl, h9.2.sub [0, 3, 1, 2] rfl rfl⟩) ⟨Nat.le_of_ble_eq_true rfl, Nat.le_of_ble_eq_true rfl⟩ (Nat.le_of_ble_eq_true rfl) dX3_poster_81 ⟨Nat.le_of_ble_eq_true rfl, Nat.le_of_ble_eq_true rfl⟩ (fun r9 w9 H H1 hp hw hP9 hD9 hA9 hfr => ?_) (fun r9 ad9 hE9 => ?_)
            · subst hp
              exact ⟨_, adE_ps hn9, Hw_ps (p37 := 2) (p32 := 0) (px := 1) hw hn9 hn2 (q := (Z.ad 37)) (by decide) hP9 hD9 hA9 (fun k h1 h2 hc hA => by rcases hA with h3 | h3 | h3; (· exact h1 (hw.2.1 k 32 hc (by rw [hL]; simp) h3)); (· exact h2 (hw.2.1 k 37 hc (by rw [hE]; simp) h3)); (· exact h3.2 k hc rfl)) hfr (fun j => rfl) rfl rfl rfl rfl⟩
            · refine v_pop (C.wa ad9) dX3_poster_84 rfl ?_
              refine v_iload_n (C.wa ad9) dX3_poster_85 rfl rfl ?_
              refine v_wide (k := 6) (n := 60) (Nat.le_of_ble_eq_true rfl) (Nat.le_of_ble_eq_true rfl) ?_
              exact ret _ _ _ _ _ dX3_poster_86 ⟨hcd, by rw [hng], by have h9 := Rl_ps hI hY hR (by omega) t h; unfold stPoster; rw [if_pos hcd]; rw [hng] at h9 ⊢; exact h9, FrK_ps hn9, hE9⟩
        · have hn9 : npO s = 6 := by rw [i_lt, nI_toInt (by omega), show (6 : Int32).toInt = 6 from rfl] at h47; omega
          exact thr _ _ _ _ _ 2 _ _ (List.mem_of_getElem? (i := 11) rfl) ⟨Nat.le_of_ble_eq_true rfl, Nat.le_of_ble_eq_true rfl⟩ dX3_poster_50 dX3_poster_53 dX3_poster_54 dX3_poster_56 dX3_poster_59 (PXx.no (k := 3) (by unfold cdPoster; rw [if_neg (by simp [k4]), if_neg (by rw [b1]; decide), if_pos hn9]) (by decide) rfl (by unfold stPoster; rw [if_neg (by rw [show cdPoster s t h = 3 by unfold cdPoster; rw [if_neg (by simp [k4]), if_neg (by rw [b1]; decide), if_pos hn9]]; decide)]) hR FrK.rf)
      · exact thr _ _ _ _ _ 1 _ _ (List.mem_of_getElem? (i := 10) rfl) ⟨Nat.le_of_ble_eq_true rfl, Nat.le_of_ble_eq_true rfl⟩ dX3_poster_28 dX3_poster_31 dX3_poster_32 dX3_poster_34 dX3_poster_37 (PXx.no (k := 2) (by unfold cdPoster; rw [if_neg (by simp [k4]), if_pos (inB_f.mpr (by have z1 : (1 : Int32).toInt = 1 := rfl; have z9 : (20 : Int32).toInt = 20 := rfl; simp only [i_lt, i_le] at h19 h25; omega))]) (by decide) rfl (by unfold stPoster; rw [if_neg (by rw [show cdPoster s t h = 2 by unfold cdPoster; rw [if_neg (by simp [k4]), if_pos (inB_f.mpr (by have z1 : (1 : Int32).toInt = 1 := rfl; have z9 : (20 : Int32).toInt = 20 := rfl; simp only [i_lt, i_le] at h19 h25; omega))]]; decide)]) hR FrK.rf)
  · have k4 := bI_0.mp h4
    exact thr _ _ _ _ _ 0 _ _ (List.mem_of_getElem? (i := 8) rfl) ⟨Nat.le_of_ble_eq_true rfl, Nat.le_of_ble_eq_true rfl⟩ dX3_poster_7 dX3_poster_10 dX3_poster_11 dX3_poster_13 dX3_poster_16 (PXx.no (k := 1) (by unfold cdPoster; rw [if_pos k4]) (by decide) rfl (by unfold stPoster; rw [if_neg (by rw [show cdPoster s t h = 1 by unfold cdPoster; rw [if_pos k4]]; decide)]) hR FrK.rf)
