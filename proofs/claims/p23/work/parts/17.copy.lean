/-! System.arraycopy over the world -/
theorem cx_row_ne (Y : Yc) (ad : Nat → Nat) (df : Nat) {g g' : MG} {k : Nat} (hr : ∀ q, q ≠ k → g' q = g q) (hk : lk k = false) {q : Nat} (hq : q ≠ k) : cx Y ad df g' q = cx Y ad df g q := by
  have n31 : 31 ≠ k := by rintro rfl; simp [lk] at hk
  have n32 : 32 ≠ k := by rintro rfl; simp [lk] at hk
  unfold cx
  rw [hr 31 n31, hr 32 n32, hr q hq]
  refine cS_nl Y ad df _ _ (fun p hp => ?_) _ _
  have : 101 + 10 * p ≠ k := by rintro rfl; rw [lk_p hp] at hk; cases hk
  rw [hr _ this]
theorem Wf_row {g g' : MG} (h : Wf g) {k : Nat} (hr : ∀ q, q ≠ k → g' q = g q) (hk : lk k = false) (hx : ∀ i, i < 24 → k ≠ 200 + 10 * i) : Wf g' := by
  obtain ⟨⟨n, hn, e1, hf⟩, ⟨n2, hn2, e2⟩, h3⟩ := h
  have n31 : 31 ≠ k := by rintro rfl; simp [lk] at hk
  have n32 : 32 ≠ k := by rintro rfl; simp [lk] at hk
  refine ⟨⟨n, hn, by rw [hr _ n31]; exact e1, fun i hi => ?_⟩, ⟨n2, hn2, by rw [hr _ n32]; exact e2⟩, fun p hp => ?_⟩
  · rw [hr _ (fun q => hx i hi q.symm)]; exact hf i hi
  · have : 101 + 10 * p ≠ k := by rintro rfl; rw [lk_p hp] at hk; cases hk
    rw [hr _ this]; exact h3 p hp
theorem cx_top (Y : Yc) (ad : Nat → Nat) (df : Nat) (g : MG) {k : Nat} (h : 1200 ≤ k) : cx Y ad df g k = none := by
  have b1 : k ≠ 0 := by omega
  have b2 : ¬ k < 5 := by omega
  have b3 : ¬ k < 26 := by omega
  have b4 : ¬ k < 30 := by omega
  have b5 : ¬ k = 30 := by omega
  have b6 : ¬ k = 31 := by omega
  have b7 : ¬ k = 32 := by omega
  have b8 : ¬ k = 33 := by omega
  have b9 : ¬ k < 36 := by omega
  have b10 : ¬ k = 36 := by omega
  have b11 : ¬ k = 37 := by omega
  have b12 : ¬ k < 40 := by omega
  have b13 : ¬ k < 90 := by omega
  have b14 : ¬ k < 100 := by omega
  have b15 : ¬ k < 160 := by omega
  have b16 : ¬ k < 200 := by omega
  have b17 : ¬ k < 440 := by omega
  have b18 : ¬ k < 600 := by omega
  have b19 : ¬ k < 1200 := by omega
  simp only [cx, cS, b1, b2, b3, b4, b5, b6, b7, b8, b9, b10, b11, b12, b13, b14, b15, b16, b17, b18, b19, if_false]
/-- the world as a list of cells -/
def wL (Y : Yc) (ad : Nat → Nat) (df : Nat) (g : MG) : va_W := (List.range 1200).filterMap (fun k => (cx Y ad df g k).map (fun e => (ad k, e)))
theorem wL_mem {Y : Yc} {ad : Nat → Nat} {df : Nat} {g : MG} {q : Nat × va_E} : q ∈ wL Y ad df g ↔ ∃ k, cx Y ad df g k = some q.2 ∧ q.1 = ad k := by
  unfold wL
  rw [List.mem_filterMap]
  constructor
  · rintro ⟨k, -, h⟩
    cases hc : cx Y ad df g k with
    | none => rw [hc] at h; cases h
    | some e => rw [hc] at h; cases h; exact ⟨k, hc, rfl⟩
  · rintro ⟨k, h1, h2⟩
    refine ⟨k, List.mem_range.mpr (Nat.lt_of_not_le fun q => ?_), ?_⟩
    · rw [cx_top Y ad df g q] at h1; cases h1
    · rw [h1, ← h2]; rfl
theorem wL_inj {D : va_G} {Y : Yc} {ad : Nat → Nat} {df z : Nat} {g : MG} {H : Heap} (h : Hw D Y ad df z g H) : ∀ (n i j : Nat) (p q : Nat × va_E), ((List.range n).filterMap (fun k => (cx Y ad df g k).map (fun e => (ad k, e))))[i]? = some p → ((List.range n).filterMap (fun k => (cx Y ad df g k).map (fun e => (ad k, e))))[j]? = some q → p.1 = q.1 → i = j := by
  intro n
  induction n with
  | zero => intro i j p q hi; simp at hi
  | succ n ih =>
    intro i j p q hi hj hpq
    rw [List.range_succ, List.filterMap_append] at hi hj
    generalize hw : (List.range n).filterMap (fun k => (cx Y ad df g k).map (fun e => (ad k, e))) = w at ih hi hj
    have old : ∀ (i : Nat) (p : Nat × va_E), w[i]? = some p → ∃ k, k < n ∧ cx Y ad df g k ≠ none ∧ p.1 = ad k := by
      intro i p hp
      have hm := List.mem_of_getElem? hp
      rw [← hw, List.mem_filterMap] at hm
      obtain ⟨k, hk, he⟩ := hm
      cases hc : cx Y ad df g k with
      | none => rw [hc] at he; cases he
      | some e => rw [hc] at he; cases he; exact ⟨k, List.mem_range.mp hk, by rw [hc]; simp, rfl⟩
    have new : ∀ (i : Nat) (p : Nat × va_E), w.length ≤ i → (w ++ List.filterMap (fun k => (cx Y ad df g k).map (fun e => (ad k, e))) [n])[i]? = some p → i = w.length ∧ cx Y ad df g n ≠ none ∧ p.1 = ad n := by
      intro i p hle hp
      rw [List.getElem?_append_right hle] at hp
      cases hc : cx Y ad df g n with
      | none => simp [List.filterMap, hc] at hp
      | some e =>
        have e1 : List.filterMap (fun k => (cx Y ad df g k).map (fun e => (ad k, e))) [n] = [(ad n, e)] := by simp [List.filterMap, hc]
        rw [e1] at hp
        have hlt := (List.getElem?_eq_some_iff.mp hp).1
        have h0 : i - w.length = 0 := by simpa using hlt
        rw [h0] at hp
        cases hp
        exact ⟨by omega, by simp, rfl⟩
    by_cases hi2 : i < w.length <;> by_cases hj2 : j < w.length
    · rw [List.getElem?_append_left hi2] at hi
      rw [List.getElem?_append_left hj2] at hj
      exact ih i j p q hi hj hpq
    · rw [List.getElem?_append_left hi2] at hi
      obtain ⟨k, hk, h1, h2⟩ := old i p hi
      obtain ⟨-, h3, h4⟩ := new j q (by omega) hj
      have := h.2.1 k n h1 h3 (by rw [← h2, hpq, h4])
      omega
    · rw [List.getElem?_append_left hj2] at hj
      obtain ⟨k, hk, h1, h2⟩ := old j q hj
      obtain ⟨-, h3, h4⟩ := new i p (by omega) hi
      have := h.2.1 k n h1 h3 (by rw [← h2, ← hpq, h4])
      omega
    · obtain ⟨h1, -⟩ := new i p (by omega) hi
      obtain ⟨h2, -⟩ := new j q (by omega) hj
      omega
theorem Hw_P {D : va_G} {Y : Yc} {ad : Nat → Nat} {df z : Nat} {g : MG} {H : Heap} (h : Hw D Y ad df z g H) : va_P D vwCl (wL Y ad df g) H ∧ va_D (A0 z) (wL Y ad df g) := by
  refine ⟨fun i q hq => ?_, fun i j p q hi hj hpq => wL_inj h 1200 i j p q hi hj hpq, fun i q hq => ?_⟩
  · obtain ⟨k, h1, h2⟩ := wL_mem.mp (List.mem_of_getElem? hq)
    have := (h.1 k q.2 h1).1
    rw [← h2] at this
    exact this
  · obtain ⟨k, h1, h2⟩ := wL_mem.mp (List.mem_of_getElem? hq)
    have := (h.1 k q.2 h1).2
    rw [← h2] at this
    exact this
/-- one cell of the list set anew: the world with that row anew -/
theorem Hw_set {D : va_G} {Y : Yc} {ad : Nat → Nat} {df z : Nat} {g g' : MG} {H H1 : Heap} (h : Hw D Y ad df z g H) {k i : Nat} {e e' : va_E} (hr : ∀ q, q ≠ k → g' q = g q) (hk : lk k = false) (hx : ∀ i, i < 24 → k ≠ 200 + 10 * i) (hc : cx Y ad df g k = some e) (hi : (wL Y ad df g)[i]? = some (ad k, e)) (hc' : cx Y ad df g' k = some e') (hP : va_P D vwCl ((wL Y ad df g).set i (ad k, e')) H1) : Hw D Y ad df z g' H1 := by
  have hne : ∀ q, cx Y ad df g' q ≠ none ↔ cx Y ad df g q ≠ none := by
    intro q
    by_cases hq : q = k
    · subst hq; rw [hc, hc']; simp
    · rw [cx_row_ne Y ad df hr hk hq]
  have hil := (List.getElem?_eq_some_iff.mp hi).1
  refine ⟨fun q e0 hq => ?_, fun a b ha hb hab => h.2.1 a b ((hne a).mp ha) ((hne b).mp hb) hab, Wf_row h.2.2 hr hk hx⟩
  by_cases hqk : q = k
  · subst hqk
    rw [hc'] at hq
    cases hq
    exact ⟨hP i _ (List.getElem?_set_self hil), (h.1 q e hc).2⟩
  · rw [cx_row_ne Y ad df hr hk hqk] at hq
    obtain ⟨j, hj⟩ := List.getElem?_of_mem (wL_mem.mpr ⟨q, hq, rfl⟩ : ((ad q, e0) : Nat × va_E) ∈ wL Y ad df g)
    have hij : i ≠ j := by
      rintro rfl
      rw [hi] at hj
      have h1 : ad k = ad q := congrArg (fun x => (Option.getD x (0, e)).1) hj
      exact hqk (h.2.1 q k (by rw [hq]; simp) (by rw [hc]; simp) h1.symm)
    exact ⟨hP j _ (by rw [List.getElem?_set_ne hij]; exact hj), (h.1 q e0 hq).2⟩
section VCP
variable {P : Pm} {R : Room} {Z : Zc} {cc : ByteArray} {own : String} {lo : Lo} {pc : Nat} {rest : List Value} {g : MG} {cs sl : Nat}
theorem v_copy (C : Cx P Z cc own) {idx : Nat} (w1 : Cond.methodLink own idx arraycopyName ∈ wsG) (w2 : Cond.native arraycopyName ∈ wsG) (w3 : Cond.static arraycopyName ∈ wsG) (w4 : Cond.initialized "java/lang/System" ∈ wsG) {ks kd n0 n1 a b n : Nat} (hks : cx Z.Y Z.ad Z.df g ks = some (.inl (Z.Y.1, n0, .inl (g ks)))) (hkd : ∀ g' : MG, (∀ q, q ≠ kd → g' q = g q) → cx Z.Y Z.ad Z.df g' kd = some (.inl (Z.Y.1, n1, .inl (g' kd)))) (hlk : lk kd = false) (hx : ∀ i, i < 24 → kd ≠ 200 + 10 * i) (h4 : a + n ≤ n0) (h5 : b + n ≤ n1) (hb : n0 < 1000000 ∧ n1 < 1000000)
    (hframes : 1 ≤ R.frames) (hlocals : (rest.map fun v => v.category).sum + (nativeFrameWords "java/lang/System" "arraycopy" 5 + 11) ≤ R.locals) (hdg : decode cc pc = .ok (.invokestatic idx, 3)) (kk : V P R Z lo (pc + 3) rest (rwr g kd (va_cpy (g ks) (g kd) a b n)) cs sl) : V P R Z lo pc (.int (nI n) :: .int (nI b) :: .ref (Z.ad kd) :: .int (nI a) :: .ref (Z.ad ks) :: rest) g cs sl := by
  obtain ⟨p, l, e, s, m, args, below, meth, c, Q, nL⟩ := P
  intro ls H locs hl hw hS
  have hkd0 := hkd g (fun _ _ => rfl)
  obtain ⟨hP, hD⟩ := Hw_P hw
  obtain ⟨i, hi⟩ := List.getElem?_of_mem (wL_mem.mpr ⟨ks, hks, rfl⟩ : ((Z.ad ks, .inl (Z.Y.1, n0, .inl (g ks))) : Nat × va_E) ∈ wL Z.Y Z.ad Z.df g)
  obtain ⟨j, hj⟩ := List.getElem?_of_mem (wL_mem.mpr ⟨kd, hkd0, rfl⟩ : ((Z.ad kd, .inl (Z.Y.1, n1, .inl (g kd))) : Nat × va_E) ∈ wL Z.Y Z.ad Z.df g)
  have ea : (nI a).toNatClampNeg = a := nI_clamp (by omega)
  have eb : (nI b).toNatClampNeg = b := nI_clamp (by omega)
  have en : (nI n).toNatClampNeg = n := nI_clamp (by omega)
  refine va_copyi (D := Z.D) C.1 C.2.1 (C.2.2.1.trans hl.2.1.symm) C.2.2.2.1 (C.2.2.2.2.1 _ w1) (C.2.2.2.2.1 _ w2) (C.2.2.2.2.1 _ w3) (C.2.2.2.2.1 _ w4) C.2.2.2.2.2.1 hP hD hS i j 0 0 hi hj rfl rfl rfl (nI_pos (by omega)) (nI_pos (by omega)) (nI_pos (by omega)) (by rw [ea, en]; exact h4) (by rw [eb, en]; exact h5) (fun _ _ => rfl) hframes hlocals hdg (fun H1 locs1 hP1 hD1 hS1 => ?_)
  rw [ea, eb, en] at hP1
  have hr : ∀ q, q ≠ kd → rwr g kd (va_cpy (g ks) (g kd) a b n) q = g q := fun q hq => rwr_ne g kd _ hq
  have hc' := hkd _ hr
  rw [rwr_same] at hc'
  exact kk ls H1 locs1 hl (Hw_set hw hr hlk hx hkd0 hj hc' hP1) hS1
end VCP
