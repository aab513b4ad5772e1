/-! THE LAW'S CELLS: a row's clone -/
/-- a cell of the law's comes anew, under the first free key, wherever it lies -/
theorem Hw_grow0 {Z : Zc} {g : MG} {H H1 : Heap} (hw : HwZ Z g H) {T a : Nat} {r : Nat → Int32} {e : va_E} (hF : Fr Z.m T) (hT : T < 1200) (hz : Z.z ≤ a) (hat : va_at Z.D vwCl (a, e) H1) (hne : ∀ k, cx Z.Y Z.ad Z.df g k ≠ none → Z.ad k ≠ a) (hold : ∀ k e0, cx Z.Y Z.ad Z.df g k = some e0 → va_at Z.D vwCl (Z.ad k, e0) H1) (he : cW Z.Y (upN Z.ad T a) r = some e) : HwZ (Z.wl (upN Z.ad T a) (rwr Z.m T r)) g H1 := by
  have h6 := hF.1.1
  have hs : ∀ k, k ≠ T → cx (Z.wl (upN Z.ad T a) (rwr Z.m T r)).Y (upN Z.ad T a) Z.df g k = cx Z.Y Z.ad Z.df g k := by
    intro k hk
    by_cases h1 : k < 600
    · exact (cx_Y h1).trans (cx_ad hw.2.2 (fun q hq => upN_o _ (by omega)) h1)
    · by_cases h2 : k < 1200
      · rw [cx_law ⟨by omega, h2⟩, cx_law ⟨by omega, h2⟩]
        have em : (Z.wl (upN Z.ad T a) (rwr Z.m T r)).Y.m k = Z.m k := rwr_ne _ _ _ hk
        rw [em]
        by_cases h3 : k < T
        · exact cW_rf (hF.2.2 k (by omega) h3) (fun q _ hq => upN_o _ (by omega))
        · have h0 := hF.2.1 k (by omega)
          rw [cW_0 h0, cW_0 h0]
      · rw [cx_top _ _ _ _ (by omega), cx_top _ _ _ _ (by omega)]
  have hn : cx (Z.wl (upN Z.ad T a) (rwr Z.m T r)).Y (upN Z.ad T a) Z.df g T = some e := by
    rw [cx_law ⟨h6, hT⟩]
    have em : (Z.wl (upN Z.ad T a) (rwr Z.m T r)).Y.m T = r := rwr_same _ _ _
    rw [em]
    exact he
  refine ⟨fun k e0 h0 => ?_, fun k k' hk hk' hkk => ?_, hw.2.2⟩
  · have h0 : cx (Z.wl (upN Z.ad T a) (rwr Z.m T r)).Y (upN Z.ad T a) Z.df g k = some e0 := h0
    show va_at Z.D vwCl (upN Z.ad T a k, e0) H1 ∧ Z.z ≤ upN Z.ad T a k
    by_cases hk : k = T
    · subst hk
      rw [hn] at h0
      cases h0
      rw [upN_s]
      exact ⟨hat, hz⟩
    · rw [hs k hk] at h0
      rw [upN_o _ hk]
      exact ⟨hold k e0 h0, (hw.1 k e0 h0).2⟩
  · have hk : cx (Z.wl (upN Z.ad T a) (rwr Z.m T r)).Y (upN Z.ad T a) Z.df g k ≠ none := hk
    have hk' : cx (Z.wl (upN Z.ad T a) (rwr Z.m T r)).Y (upN Z.ad T a) Z.df g k' ≠ none := hk'
    have hkk : upN Z.ad T a k = upN Z.ad T a k' := hkk
    by_cases h1 : k = T
    · by_cases h2 : k' = T
      · rw [h1, h2]
      · rw [hs k' h2] at hk'
        rw [h1, upN_s, upN_o _ h2] at hkk
        exact absurd hkk.symm (hne k' hk')
    · rw [hs k h1] at hk
      by_cases h2 : k' = T
      · rw [h2, upN_s, upN_o _ h1] at hkk
        exact absurd hkk (hne k hk)
      · rw [hs k' h2] at hk'
        rw [upN_o _ h1, upN_o _ h2] at hkk
        exact hw.2.1 k k' hk hk' hkk
/-- the same, out of the list of all cells with one more -/
theorem Hw_growL {Z : Zc} {g : MG} {H H1 : Heap} (hw : HwZ Z g H) {T a : Nat} {r : Nat → Int32} {e : va_E} (hF : Fr Z.m T) (hT : T < 1200) (hP : va_P Z.D vwCl (wL Z.Y Z.ad Z.df g ++ [(a, e)]) H1) (hD : va_D (A0 Z.z) (wL Z.Y Z.ad Z.df g ++ [(a, e)])) (he : cW Z.Y (upN Z.ad T a) r = some e) : HwZ (Z.wl (upN Z.ad T a) (rwr Z.m T r)) g H1 := by
  have hlast : (wL Z.Y Z.ad Z.df g ++ [(a, e)])[(wL Z.Y Z.ad Z.df g).length]? = some (a, e) := by simp
  have hin : ∀ k e0, cx Z.Y Z.ad Z.df g k = some e0 → ∃ i, i < (wL Z.Y Z.ad Z.df g).length ∧ (wL Z.Y Z.ad Z.df g ++ [(a, e)])[i]? = some (Z.ad k, e0) := fun k e0 h0 => by
    obtain ⟨i, hi⟩ := List.getElem?_of_mem (wL_mem.mpr ⟨k, h0, rfl⟩ : ((Z.ad k, e0) : Nat × va_E) ∈ wL Z.Y Z.ad Z.df g)
    have hlt := (List.getElem?_eq_some_iff.mp hi).1
    exact ⟨i, hlt, by rw [List.getElem?_append_left hlt]; exact hi⟩
  refine Hw_grow0 hw hF hT (hD.2 _ _ hlast) (hP _ _ hlast) (fun k hk hka => ?_) (fun k e0 h0 => ?_) he
  · obtain ⟨e0, h0⟩ := Option.ne_none_iff_exists'.mp hk
    obtain ⟨i, hi, h1⟩ := hin k e0 h0
    have := hD.1 i _ _ _ h1 hlast hka
    omega
  · obtain ⟨i, -, h1⟩ := hin k e0 h0
    exact hP i _ h1
section LK
variable {P : Pm} {R : Room} {Z : Zc} {cc : ByteArray} {own : String} {lo : Lo} {pc : Nat} {rest st : List Value} {g : MG} {cs sl : Nat} {ad : Nat → Nat} {m : MG} {T : Nat}
theorem l_clone (C : Cx P Z cc own) (hL : CxL P) (hF : Fr m T) (hT : T < 1200) {k n idx : Nat} (hk : 600 ≤ k ∧ k < 1200) (h1 : m k 100000 = 1) (h2 : m k 100001 = nI n) (hn : n < 1000) (hlink : Cond.methodLink own idx ⟨"[I", "clone", "()Ljava/lang/Object;"⟩ ∈ wsG) (hframes : 1 ≤ R.frames) (hlocals : (rest.map fun v => v.category).sum + 14 ≤ R.locals) (hcells : cs + 1 ≤ R.cells) (hslots : sl + n ≤ R.slots) (hdg : decode cc pc = .ok (.invokevirtual idx, 3))
    (kk : ∀ ad' : Nat → Nat, (∀ k, k ≠ T → ad' k = ad k) → V P R (Z.wl ad' (rwr m T (m k))) lo (pc + 3) (.ref (ad' T) :: rest) g (cs + 1) (sl + n)) : V P R (Z.wl ad m) lo pc (.ref (ad k) :: rest) g cs sl := by
  obtain ⟨p, l, e, s, mm, args, below, meth, c, Q, nL⟩ := P
  intro ls H locs hl hw hS
  obtain ⟨hPw, hDw⟩ := Hw_P hw
  have hc := l_cx (g := g) hk (cW_1 (Y := Z.Y) (ad := ad) h1 h2 (by omega))
  obtain ⟨q0, hq0⟩ := List.getElem?_of_mem (wL_mem.mpr ⟨k, hc, rfl⟩ : ((ad k, .inl (Z.Y.1, n, .inl (m k))) : Nat × va_E) ∈ wL (Z.wl ad m).Y ad (Z.wl ad m).df g)
  have hnm : s.vm.findClass "[I" = some Z.Y.1 := (C.2.2.2.2.2.1.2 0 _ rfl).2
  refine va_clone (A := A0 Z.z) C.1 C.2.1 (C.2.2.1.trans hl.2.1.symm) C.2.2.2.1 (C.2.2.2.2.1 _ hlink) (C.2.2.2.2.1 _ (tg2 220 rfl rfl)) (C.2.2.2.2.1 _ (tg2 221 rfl rfl)) (C.2.2.2.2.1 _ (tg2 222 rfl rfl)) (C.2.2.2.2.1 _ (tg2 223 rfl rfl)) hL.1 C.2.2.2.2.2.1 hPw hDw hS (fun q hq => Nat.le_trans C.2.2.2.2.2.2.1 hq) q0 0 hq0 rfl hnm (fun i v hv => ?_) hframes hlocals hcells hslots hdg (fun q H1 hK1 hP1 hD1 hS1 => ?_)
  · by_cases hi : i < n
    · rw [show (vp_cell Z.Y.1 (n, .inl (m k))).slots[i]? = some (.int (m k i)) from arrV_read _ _ hi] at hv
      cases hv
      rfl
    · have hsz : (vp_cell Z.Y.1 (n, .inl (m k))).slots.size = n := arrV_size _ _ _
      rw [Array.getElem?_eq_none (by omega)] at hv
      cases hv
  · have h3 := kk (upN ad T q) (fun k hk => upN_o ad hk)
    rw [upN_s] at h3
    exact h3 ls H1 locs hl (Hw_growL (Z := Z.wl ad m) hw hF hT hP1 hD1 (cW_1 h1 h2 (by omega))) hS1
end LK
