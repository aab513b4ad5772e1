/-! THE LAW'S CELLS: new T[n][10][3] -/
theorem Hw_growS {Z : Zc} {g : MG} {H H1 : Heap} {ad ad' : Nat → Nat} {m m' : MG} {T T' : Nat} (hw : HwZ (Z.wl ad m) g H) (hF : Fr m T) (hT : T' ≤ 1200) (hz : Z.z ≤ H.size) (hlo : ∀ k, k < T → ad' k = ad k) (hm : ∀ k, 600 ≤ k → k < T → m' k = m k) (hm0 : ∀ k, T' ≤ k → m' k 100000 = 0) (hnew : ∀ k, T ≤ k → k < T' → H.size ≤ ad' k ∧ ∀ e, cW Z.Y ad' (m' k) = some e → va_at Z.D vwCl (ad' k, e) H1) (hinj : ∀ a b, T ≤ a → a < T' → T ≤ b → b < T' → ad' a = ad' b → a = b) (hold : ∀ q : Nat, q < H.size → H1[q]? = H[q]?) : HwZ (Z.wl ad' m') g H1 := by
  have h6 := hF.1.1
  have hs : ∀ k e, cx (Z.wl ad' m').Y ad' Z.df g k = some e → (k < T ∧ cx (Z.wl ad m).Y ad Z.df g k = some e) ∨ (T ≤ k ∧ k < T' ∧ cW Z.Y ad' (m' k) = some e) := by
    intro k e hk
    by_cases h1 : k < T
    · exact Or.inl ⟨h1, by rw [← cx_low hw.2.2 hF hlo hm h1]; exact hk⟩
    · by_cases h2 : k < T'
      · exact Or.inr ⟨by omega, h2, (cx_law ⟨by omega, by omega⟩).symm.trans hk⟩
      · by_cases h3 : k < 1200
        · have h4 : cx (Z.wl ad' m').Y ad' Z.df g k = none := (cx_law ⟨by omega, h3⟩).trans (cW_0 (hm0 k (by omega)))
          rw [h4] at hk; cases hk
        · rw [cx_top _ _ _ _ (by omega)] at hk; cases hk
  have hlt : ∀ k e, cx (Z.wl ad m).Y ad Z.df g k = some e → ad k < H.size := fun k e h0 => (hw.1 k e h0).1.lt
  refine ⟨fun k e he => ?_, fun a b ha hb hab => ?_, hw.2.2⟩
  · have he : cx (Z.wl ad' m').Y ad' Z.df g k = some e := he
    show va_at Z.D vwCl (ad' k, e) H1 ∧ Z.z ≤ ad' k
    rcases hs k e he with ⟨h1, h2⟩ | ⟨h1, h2, h3⟩
    · rw [hlo k h1]
      exact ⟨(hw.1 k e h2).1.kept (hold _ (hlt k e h2)), (hw.1 k e h2).2⟩
    · exact ⟨(hnew k h1 h2).2 e h3, Nat.le_trans hz (hnew k h1 h2).1⟩
  · have hab : ad' a = ad' b := hab
    obtain ⟨ea, hea⟩ := Option.ne_none_iff_exists'.mp ha
    obtain ⟨eb, heb⟩ := Option.ne_none_iff_exists'.mp hb
    rcases hs a ea hea with ⟨a1, a2⟩ | ⟨a1, a2, a3⟩
    · rcases hs b eb heb with ⟨b1, b2⟩ | ⟨b1, b2, b3⟩
      · rw [hlo a a1, hlo b b1] at hab
        exact hw.2.1 a b (by rw [show cx (Z.wl ad m).Y (Z.wl ad m).ad (Z.wl ad m).df g a = some ea from a2]; simp) (by rw [show cx (Z.wl ad m).Y (Z.wl ad m).ad (Z.wl ad m).df g b = some eb from b2]; simp) hab
      · rw [hlo a a1] at hab
        have := hlt a ea a2
        have := (hnew b b1 b2).1
        omega
    · rcases hs b eb heb with ⟨b1, b2⟩ | ⟨b1, b2, b3⟩
      · rw [hlo b b1] at hab
        have := hlt b eb b2
        have := (hnew a a1 a2).1
        omega
      · exact hinj a b a1 a2 b1 b2 hab
def m3M (m : MG) (T N : Nat) : MG := fun k => if k = T then rfN N (fun j => T + 1 + j) (rN 3 N) else if T + 1 ≤ k ∧ k < T + 1 + N then rfN 10 (fun j => T + 1 + N + 10 * (k - (T + 1)) + j) (rN 2 10) else if T + 1 + N ≤ k ∧ k < T + 1 + N + 10 * N then rN 1 3 else m k
theorem m3M_0 (m : MG) (T N : Nat) : m3M m T N T = rfN N (fun j => T + 1 + j) (rN 3 N) := if_pos rfl
theorem m3M_1 (m : MG) (T N : Nat) {f : Nat} (hf : f < N) : m3M m T N (T + 1 + f) = rfN 10 (fun j => T + 1 + N + 10 * f + j) (rN 2 10) := by
  unfold m3M
  rw [if_neg (by omega), if_pos (by omega), Nat.add_sub_cancel_left]
theorem m3M_2 (m : MG) (T N : Nat) {x : Nat} (hx : x < 10 * N) : m3M m T N (T + 1 + N + x) = rN 1 3 := by
  unfold m3M
  rw [if_neg (by omega), if_neg (by omega), if_pos (by omega)]
theorem m3M_o (m : MG) (T N : Nat) {k : Nat} (hk : k < T ∨ T + 1 + N + 10 * N ≤ k) : m3M m T N k = m k := by
  unfold m3M
  rw [if_neg (by omega), if_neg (by omega), if_neg (by omega)]
theorem rfN_Rg {n T : Nat} {f : Nat → Nat} {r : Nat → Int32} (hk : iz (r 100000) < 600) (hr : r 100001 = nI n) (hn : n < 600) (hT : 600 ≤ T ∧ T ≤ 1200) (hf : ∀ j, j < n → f j < T) : RfR (rfN n f r) T := by
  intro j _
  unfold rfN
  by_cases h1 : j = 100000
  · rw [if_pos h1]; omega
  · rw [if_neg h1]
    by_cases h2 : j = 100001
    · rw [if_pos h2, hr, iz_nI (by omega)]; omega
    · rw [if_neg h2]
      by_cases h3 : j < n
      · rw [if_pos h3, iz_nI (by have := hf j h3; omega)]; exact hf j h3
      · rw [if_neg h3]
        have : iz (0 : Int32) = 0 := rfl
        omega
theorem Fr_m3M {m : MG} {T N : Nat} (h : Fr m T) (hN : N < 50) (hT : T + 1 + N + 10 * N ≤ 1200) : Fr (m3M m T N) (T + 1 + N + 10 * N) := by
  obtain ⟨⟨h1, h2⟩, h3, h4⟩ := h
  have iz2 : iz (2 : Int32) = 2 := rfl
  have iz3 : iz (3 : Int32) = 3 := rfl
  refine ⟨⟨by omega, hT⟩, fun k hk => by rw [m3M_o _ _ _ (Or.inr hk)]; exact h3 k (by omega), fun k k1 k2 => ?_⟩
  by_cases a1 : k < T
  · rw [m3M_o _ _ _ (Or.inl a1)]; exact (h4 k k1 a1).le (by omega)
  by_cases a2 : k = T
  · rw [a2, m3M_0]; exact rfN_Rg (by rw [rN_k, iz3]; decide) (rN_l _ _) (by omega) ⟨by omega, by omega⟩ (fun j hj => by show T + 1 + j < _; omega)
  by_cases a3 : k < T + 1 + N
  · rw [show k = T + 1 + (k - (T + 1)) by omega, m3M_1 _ _ _ (by omega)]
    exact rfN_Rg (by rw [rN_k, iz2]; decide) (rN_l _ _) (by omega) ⟨by omega, by omega⟩ (fun j hj => by show T + 1 + N + 10 * (k - (T + 1)) + j < _; omega)
  · rw [show k = T + 1 + N + (k - (T + 1 + N)) by omega, m3M_2 _ _ _ (by omega)]
    exact RfR_1 (rN_k _ _)
section LM3
variable {P : Pm} {R : Room} {Z : Zc} {cc : ByteArray} {own : String} {lo : Lo} {pc : Nat} {rest st : List Value} {g : MG} {cs sl : Nat} {ad : Nat → Nat} {m : MG} {T : Nat}
theorem l_multi3 (C : Cx P Z cc own) (hL : CxL P) (hF : Fr m T) {N idx : Nat} (hN : N < 50) (hT : T + 1 + N + 10 * N ≤ 1200) (hlink : Cond.classLink own idx "[[[I" ∈ wsG) (hcells : cs + (1 + N * 11) ≤ R.cells) (hslots : sl + (N + N * 40) ≤ R.slots) (hdg : decode cc pc = .ok (.multianewarray idx 3, 4))
    (kk : ∀ ad' : Nat → Nat, (∀ k, k < T → ad' k = ad k) → V P R (Z.wl ad' (m3M m T N)) lo (pc + 4) (.ref (ad' T) :: rest) g (cs + 1 + N * 11) (sl + N + N * 40)) : V P R (Z.wl ad m) lo pc (.int (nI 3) :: .int (nI 10) :: .int (nI N) :: rest) g cs sl := by
  have h6 := hF.1.1
  obtain ⟨p, l, e, s, mm, args, below, meth, c, Q, nL⟩ := P
  intro ls H locs hl hw hS
  have e0 : ("[" ++ (FieldType.array (FieldType.array FieldType.int)).toString) = "[[[I" := by decide +kernel
  have eN : (nI N).toNatClampNeg = N := nI_clamp (by omega)
  have e10 : (nI 10).toNatClampNeg = 10 := by decide
  have e3 : (nI 3).toNatClampNeg = 3 := by decide
  have hz : Z.z ≤ H.size := Nat.le_trans C.2.2.2.2.2.2.1 hS.1
  intro U hU Xs
  obtain ⟨vm₁, cA, c1, c2, -, hfA, hf1, hf2, X', step⟩ := m3_new (ty := .int) (index := idx) (own := own) (n := nI N) (k := nI 10) (q := nI 3) (rest := rest) (g := F0 mm pc ls (.int (nI 3) :: .int (nI 10) :: .int (nI N) :: rest)) Xs C.1 C.2.2.2.1 (by rw [e0]; exact C.2.2.2.2.1 _ hlink) (va_AOA.use hL.2.2.2.1) (va_AOA.use hL.2.2.1) (C.2.2.2.2.1 _ (tg1 88 rfl rfl)) rfl (by rw [C.2.1]; exact hdg) rfl (nI_pos (by omega)) (nI_pos (by decide)) (nI_pos (by decide)) (by rw [eN]; omega) (by decide) (by decide) (by decide) rfl rfl (by rw [eN, e10]; exact hcells) (by rw [eN, e10, e3]; exact hslots)
  rw [eN, e10, e3] at X' step
  have hcA : cA = Z.Y.2.2.2.1 := Option.some.inj (hfA.symm.trans (C.2.2.2.2.2.1.2 3 _ rfl).2)
  have hc1 : c1 = Z.Y.2.2.1 := Option.some.inj (hf1.symm.trans (C.2.2.2.2.2.1.2 2 _ rfl).2)
  have hc2 : c2 = Z.Y.1 := Option.some.inj (hf2.symm.trans (C.2.2.2.2.2.1.2 0 _ rfl).2)
  subst hcA; subst hc1; subst hc2
  generalize hFF : m3_fill (U.setVm vm₁) Z.Y.2.2.2.1 Z.Y.2.2.1 Z.Y.1 N 10 3 (defaultValue .int) N = F at X' step
  have hUh : (U.setVm vm₁).heap = H := hU
  obtain ⟨f1, f2, -, -⟩ := m3_facts (U.setVm vm₁) Z.Y.2.2.2.1 Z.Y.2.2.1 Z.Y.1 N 10 3 (defaultValue .int) N
  rw [hFF, hUh] at f1 f2
  have hold : ∀ x : Nat, x < H.size → F.heap[x]? = H[x]? := fun x hx => by
    have := m3_old (U.setVm vm₁) Z.Y.2.2.2.1 Z.Y.2.2.1 Z.Y.1 N 10 3 (defaultValue .int) (a := x) (by rw [hUh]; exact hx) N
    rw [hFF, hUh] at this
    exact this
  have hin : ∀ f, f < N → F.heap[H.size + 1 + f * 11]? = some (Multi.outerC Z.Y.2.2.1 10 (H.size + 1 + f * 11) 10) ∧ ∀ q, q < 10 → F.heap[H.size + 1 + f * 11 + 1 + q]? = some (Multi.innerC Z.Y.1 3 (defaultValue .int)) := fun f hf => by
    have := m3_in (U.setVm vm₁) Z.Y.2.2.2.1 Z.Y.2.2.1 Z.Y.1 N 10 3 (defaultValue .int) N f hf
    rw [hFF, hUh] at this
    exact this
  generalize had : (fun k => if k = T then H.size else if T + 1 ≤ k ∧ k < T + 1 + N then H.size + 1 + (k - (T + 1)) * 11 else if T + 1 + N ≤ k ∧ k < T + 1 + N + 10 * N then H.size + 1 + (k - (T + 1 + N)) / 10 * 11 + 1 + (k - (T + 1 + N)) % 10 else ad k) = ad'
  have ad_0 : ad' T = H.size := by rw [← had]; exact if_pos rfl
  have ad_1 : ∀ f, f < N → ad' (T + 1 + f) = H.size + 1 + f * 11 := fun f hf => by
    rw [← had]
    show (if T + 1 + f = T then _ else _) = _
    rw [if_neg (by omega), if_pos (by omega), Nat.add_sub_cancel_left]
  have ad_2 : ∀ f q, f < N → q < 10 → ad' (T + 1 + N + 10 * f + q) = H.size + 1 + f * 11 + 1 + q := fun f q hf hq => by
    rw [← had]
    show (if T + 1 + N + 10 * f + q = T then _ else _) = _
    rw [if_neg (by omega), if_neg (by omega), if_pos (by omega), show (T + 1 + N + 10 * f + q - (T + 1 + N)) / 10 = f by omega, show (T + 1 + N + 10 * f + q - (T + 1 + N)) % 10 = q by omega]
  have ad_o : ∀ k, k < T → ad' k = ad k := fun k hk => by
    rw [← had]
    show (if k = T then _ else _) = _
    rw [if_neg (by omega), if_neg (by omega), if_neg (by omega)]
  clear had
  have hcase : ∀ k, T ≤ k → k < T + 1 + N + 10 * N → k = T ∨ (∃ f, f < N ∧ k = T + 1 + f) ∨ ∃ f q, f < N ∧ q < 10 ∧ k = T + 1 + N + 10 * f + q := fun k k1 k2 => by
    by_cases a2 : k = T
    · exact Or.inl a2
    by_cases a3 : k < T + 1 + N
    · exact Or.inr (Or.inl ⟨k - (T + 1), by omega, by omega⟩)
    · exact Or.inr (Or.inr ⟨(k - (T + 1 + N)) / 10, (k - (T + 1 + N)) % 10, by omega, by omega, by omega⟩)
  have hwz : HwZ (Z.wl ad' (m3M m T N)) g F.heap := by
    refine Hw_growS (T' := T + 1 + N + 10 * N) hw hF hT hz ad_o (fun k _ hk => m3M_o _ _ _ (Or.inl hk)) (fun k hk => by rw [m3M_o _ _ _ (Or.inr hk)]; exact hF.2.1 k (by omega)) (fun k k1 k2 => ?_) (fun a b a1 a2 b1 b2 hab => ?_) hold
    · rcases hcase k k1 k2 with rfl | ⟨f, hf, rfl⟩ | ⟨f, q, hf, hq, rfl⟩
      · rw [ad_0, m3M_0, cW_3 (n := N) (by rw [rfN_k, rN_k]) (by rw [rfN_l, rN_l]) (by omega)]
        refine ⟨Nat.le_refl _, fun e he => ?_⟩
        cases he
        show F.heap[H.size]? = some (vp_cell _ _)
        rw [f2, vp_cell_q, m3_slot]
        refine congrArg some (arrV_c _ _ (fun j hj => ?_))
        rw [if_pos hj, rfN_j (by omega) hj, fW_nI ⟨by omega, by omega⟩, ad_1 j hj]
      · rw [ad_1 f hf, m3M_1 _ _ _ hf, cW_2 (n := 10) (by rw [rfN_k, rN_k]) (by rw [rfN_l, rN_l]) (by omega)]
        refine ⟨by omega, fun e he => ?_⟩
        cases he
        show F.heap[H.size + 1 + f * 11]? = some (vp_cell _ _)
        rw [(hin f hf).1, vp_cell_q, vr_outer]
        refine congrArg some (arrV_c _ _ (fun j hj => ?_))
        rw [if_pos hj, rfN_j (by omega) hj, fW_nI ⟨by omega, by omega⟩, ad_2 f j hf hj]
      · rw [ad_2 f q hf hq, show T + 1 + N + 10 * f + q = T + 1 + N + (10 * f + q) by omega, m3M_2 _ _ _ (by omega), cW_1 (n := 3) (rN_k _ _) (rN_l _ _) (by omega)]
        refine ⟨by omega, fun e he => ?_⟩
        cases he
        show F.heap[H.size + 1 + f * 11 + 1 + q]? = some (vp_cell _ _)
        rw [(hin f hf).2 q hq, vp_cell_i, arrV_c Z.Y.1 3 (f' := fun _ => .int 0) (fun j hj => by rw [rN_0 _ _ (by omega)]), ← arrV_new]
        rfl
    · rcases hcase a a1 a2 with rfl | ⟨f, hf, rfl⟩ | ⟨f, q, hf, hq, rfl⟩ <;> rcases hcase b b1 b2 with rfl | ⟨f', hf', rfl⟩ | ⟨f', q', hf', hq', rfl⟩
      · rfl
      · rw [ad_0, ad_1 f' hf'] at hab; omega
      · rw [ad_0, ad_2 f' q' hf' hq'] at hab; omega
      · rw [ad_0, ad_1 f hf] at hab; omega
      · rw [ad_1 f hf, ad_1 f' hf'] at hab; omega
      · rw [ad_1 f hf, ad_2 f' q' hf' hq'] at hab; omega
      · rw [ad_0, ad_2 f q hf hq] at hab; omega
      · rw [ad_2 f q hf hq, ad_1 f' hf'] at hab; omega
      · rw [ad_2 f q hf hq, ad_2 f' q' hf' hq'] at hab; omega
  have h1 := kk ad' ad_o
  rw [ad_0] at h1
  obtain ⟨t, a1, b1⟩ := h1 ls F.heap locs hl hwz ⟨by rw [f1]; have := hS.1; omega, fun x h1 h2 => (hold x (Nat.lt_of_lt_of_le h1 hS.1)).trans (hS.2.1 x h1 h2), hS.2.2⟩ F rfl X'
  refine ⟨t, step t ?_, b1⟩
  have e : U.heap.size = H.size := by rw [hU]
  rw [e]
  exact a1
end LM3
