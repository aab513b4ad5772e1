/-! THE LAW'S CELLS: keys 600 to 1199, their rows in the world's constants; what is written, what comes anew, what is named anew -/
def Yc.w (Y : Yc) (m' : MG) : Yc := (Y.1, Y.2.1, Y.2.2.1, Y.2.2.2.1, Y.2.2.2.2.1, Y.2.2.2.2.2.1, m')
def Zc.wl (Z : Zc) (ad' : Nat → Nat) (m' : MG) : Zc := (Z.1, Z.2.1.w m', ad', Z.2.2.2)
abbrev Zc.m (Z : Zc) : MG := Z.2.1.2.2.2.2.2.2
theorem Cx.wl {P : Pm} {Z : Zc} {cc : ByteArray} {own : String} (h : Cx P Z cc own) (ad' : Nat → Nat) (m' : MG) : Cx P (Z.wl ad' m') cc own := h
def upN (ad : Nat → Nat) (T a : Nat) : Nat → Nat := fun k => if k = T then a else ad k
theorem upN_s (ad : Nat → Nat) (T a : Nat) : upN ad T a T = a := if_pos rfl
theorem upN_o (ad : Nat → Nat) {T a k : Nat} (h : k ≠ T) : upN ad T a k = ad k := if_neg h
/-- which places of a row are references -/
def isrf (kd : Int32) (j : Nat) : Bool := if kd = 5 then (j == 2 || j == 5 || j == 6 || j == 7) else if kd = 6 then (j == 2 || j == 3 || j == 4 || j == 5 || j == 6) else if kd = 8 then j == 0 else if kd = 9 then j == 0 else (kd == 2 || kd == 3 || kd == 4)
def RfR (r : Nat → Int32) (T : Nat) : Prop := ∀ j, isrf (r 100000) j = true → iz (r j) < T
/-- the keys from T on are free, and nothing refers to them -/
def Fr (m : MG) (T : Nat) : Prop := (600 ≤ T ∧ T ≤ 1200) ∧ (∀ k, T ≤ k → m k 100000 = 0) ∧ ∀ k, 600 ≤ k → k < T → RfR (m k) T
theorem cx_Y {Y : Yc} {m' : MG} {ad : Nat → Nat} {df : Nat} {g : MG} {k : Nat} (hk : k < 600) : cx (Y.w m') ad df g k = cx Y ad df g k := by
  unfold cx cS
  simp only [hk, if_true]
  rfl
theorem cx_law {Y : Yc} {ad : Nat → Nat} {df : Nat} {g : MG} {k : Nat} (hk : 600 ≤ k ∧ k < 1200) : cx Y ad df g k = cW Y ad (Y.m k) := cS_law hk
theorem cEd_c {Y : Yc} {n : Int32} {f f' : Nat → Nat} (h : ∀ j, j < iz n → f' j = f j) : cEd Y n f' = cEd Y n f := by
  unfold cEd
  by_cases h0 : n = 0
  · rw [if_pos h0, if_pos h0]
  · rw [if_neg h0, if_neg h0]
    have e : (fun j => if j < iz n then some (f' j) else none) = fun j => if j < iz n then some (f j) else none := by
      funext j
      by_cases hj : j < iz n
      · rw [if_pos hj, if_pos hj, h j hj]
      · rw [if_neg hj, if_neg hj]
    rw [e]
theorem cx_ad {Y : Yc} {ad ad' : Nat → Nat} {df : Nat} {g : MG} {k : Nat} (hwf : Wf g) (hO : ∀ q, q < 600 → ad' q = ad q) (hk : k < 600) : cx Y ad' df g k = cx Y ad df g k := by
  obtain ⟨⟨n, hn, e1, hf⟩, ⟨n2, hn2, e2⟩, h3⟩ := hwf
  have i1 : iz (g 31 2) = n := by rw [e1]; exact iz_nI (by omega)
  have i2 : iz (g 32 2) = n2 := by rw [e2]; exact iz_nI (by omega)
  unfold cx
  rcases k_reg k with c | c | c | c | c | c | c | c
  · exact cS_lo c (fun q hq => hO q (by omega)) (fun _ _ => hO 36 (by decide)) (fun _ _ => hO 37 (by decide))
  · subst c
    rw [cS_36, cS_36]
    exact cEd_c (fun j hj => hO _ (by rw [i1] at hj; omega))
  · subst c
    rw [cS_37, cS_37]
    exact cEd_c (fun j hj => hO _ (by rw [i2] at hj; omega))
  · rw [cS_f c, cS_f c, hO (k + 1) (by omega), hO (k + 2) (by omega), hO (k + 3) (by omega), hO (k + 4) (by omega)]
  · rw [cS_p c, cS_p c, hO (k + 1) (by omega), cLi_ad (fun _ => hO (k + 1) (by omega))]
    have hE : cEd Y (g (101 + 10 * ((k - 100) / 10)) 2) (fun j => ad' (200 + 10 * (4 * ((k - 100) / 10) + j))) = cEd Y (g (101 + 10 * ((k - 100) / 10)) 2) (fun j => ad (200 + 10 * (4 * ((k - 100) / 10) + j))) := by
      obtain ⟨n3, hn3, e3⟩ := h3 ((k - 100) / 10) (by omega)
      have i3 : iz (g (101 + 10 * ((k - 100) / 10)) 2) = n3 := by rw [e3]; exact iz_nI (by omega)
      exact cEd_c (fun j hj => hO _ (by rw [i3] at hj; omega))
    rw [hE]
  · rw [cS_l c, cS_l c, hO (k + 1) (by omega), hO (k + 2) (by omega)]
    by_cases h0 : (k - 200) % 10 = 0
    · have hf : fR ad' (g k 3) = fR ad (g k 3) := by
        have hj : k = 200 + 10 * ((k - 200) / 10) := by omega
        rcases hf ((k - 200) / 10) (by omega) with h | ⟨i, hi, h⟩
        · rw [← hj] at h
          rw [h]
          rfl
        · rw [← hj] at h
          rw [h, fR_nI (by omega), fR_nI (by omega), hO _ (by omega)]
      rw [hf]
    · rw [if_neg h0, if_neg h0]
  · exact absurd hk (by omega)
  · rw [cS_no c, cS_no c]
theorem cW_0 {Y : Yc} {ad : Nat → Nat} {r : Nat → Int32} (h : r 100000 = 0) : cW Y ad r = none := by
  simp [cW, h]
theorem cW_rf {Y : Yc} {m' : MG} {ad ad' : Nat → Nat} {r : Nat → Int32} {T : Nat} (h : RfR r T) (hO : ∀ q, 600 ≤ q → q < T → ad' q = ad q) : cW (Y.w m') ad' r = cW Y ad r := by
  have e : ∀ j, isrf (r 100000) j = true → fW ad' (r j) = fW ad (r j) := fun j hj => by
    unfold fW
    by_cases hx : iz (r j) < 600
    · rw [if_pos hx, if_pos hx]
    · rw [if_neg hx, if_neg hx, hO _ (by omega) (h j hj)]
  unfold cW
  by_cases h1 : r 100000 = 1
  · rw [if_pos h1, if_pos h1]; rfl
  rw [if_neg h1, if_neg h1]
  by_cases h2 : r 100000 = 2
  · have ee : (fun j => fW ad' (r j)) = fun j => fW ad (r j) := by funext j; exact e j (by simp [isrf, h2])
    rw [if_pos h2, if_pos h2, ee]; rfl
  rw [if_neg h2, if_neg h2]
  by_cases h3 : r 100000 = 3
  · have ee : (fun j => fW ad' (r j)) = fun j => fW ad (r j) := by funext j; exact e j (by simp [isrf, h3])
    rw [if_pos h3, if_pos h3, ee]; rfl
  rw [if_neg h3, if_neg h3]
  by_cases h4 : r 100000 = 4
  · have ee : (fun j => fW ad' (r j)) = fun j => fW ad (r j) := by funext j; exact e j (by simp [isrf, h4])
    rw [if_pos h4, if_pos h4, ee]; rfl
  rw [if_neg h4, if_neg h4]
  by_cases h5 : r 100000 = 5
  · rw [if_pos h5, if_pos h5, e 2 (by simp [isrf, h5]), e 5 (by simp [isrf, h5]), e 6 (by simp [isrf, h5]), e 7 (by simp [isrf, h5])]
  rw [if_neg h5, if_neg h5]
  by_cases h6 : r 100000 = 6
  · rw [if_pos h6, if_pos h6, e 2 (by simp [isrf, h6]), e 3 (by simp [isrf, h6]), e 4 (by simp [isrf, h6]), e 5 (by simp [isrf, h6]), e 6 (by simp [isrf, h6])]
  rw [if_neg h6, if_neg h6]
  by_cases h7 : r 100000 = 7
  · rw [if_pos h7, if_pos h7]; rfl
  rw [if_neg h7, if_neg h7]
  by_cases h8 : r 100000 = 8
  · rw [if_pos h8, if_pos h8, e 0 (by simp [isrf, h8])]
  rw [if_neg h8, if_neg h8]
  by_cases h9 : r 100000 = 9
  · rw [if_pos h9, if_pos h9, e 0 (by simp [isrf, h9])]
  rw [if_neg h9, if_neg h9]
theorem cW_w {Y : Yc} {m' : MG} {ad : Nat → Nat} {r : Nat → Int32} : cW (Y.w m') ad r = cW Y ad r := rfl
theorem Wf_of {Z : Zc} {g : MG} {H : Heap} (hw : HwZ Z g H) : Wf g := hw.2.2
/-- a cell of the law's comes anew, under the first free key -/
theorem Hw_grow {Z : Zc} {g : MG} {H H1 : Heap} (hw : HwZ Z g H) {T a : Nat} {r : Nat → Int32} {e : va_E} (hF : Fr Z.m T) (hT : T < 1200) (hz : Z.z ≤ a) (ha : H.size ≤ a) (hat : va_at Z.D vwCl (a, e) H1) (hold : ∀ q : Nat, q < H.size → H1[q]? = H[q]?) (he : cW Z.Y (upN Z.ad T a) r = some e) : HwZ (Z.wl (upN Z.ad T a) (rwr Z.m T r)) g H1 := by
  have h6 := hF.1.1
  have hs : ∀ k, k ≠ T → cx (Z.wl (upN Z.ad T a) (rwr Z.m T r)).Y (upN Z.ad T a) Z.df g k = cx Z.Y Z.ad Z.df g k := by
    intro k hk
    by_cases h1 : k < 600
    · exact (cx_Y h1).trans (cx_ad hw.2.2 (fun q hq => upN_o _ (by omega)) h1)
    · by_cases h2 : k < 1200
      · rw [cx_law ⟨by omega, h2⟩, cx_law ⟨by omega, h2⟩]
        have em : (Z.wl (upN Z.ad T a) (rwr Z.m T r)).Y.m k = Z.m k := rwr_ne _ _ _ hk
        rw [em]
        by_cases h3 : k < T
        · exact cW_rf (hF.2.2 k (by omega) h3) (fun q _ hq => upN_o _ (by omega))
        · have h0 := hF.2.1 k (by omega)
          rw [cW_0 h0, cW_0 h0]
      · rw [cx_top _ _ _ _ (by omega), cx_top _ _ _ _ (by omega)]
  have hn : cx (Z.wl (upN Z.ad T a) (rwr Z.m T r)).Y (upN Z.ad T a) Z.df g T = some e := by
    rw [cx_law ⟨h6, hT⟩]
    have em : (Z.wl (upN Z.ad T a) (rwr Z.m T r)).Y.m T = r := rwr_same _ _ _
    rw [em]
    exact he
  have hlt : ∀ k, cx Z.Y Z.ad Z.df g k ≠ none → Z.ad k < H.size := fun k hk => by
    obtain ⟨e0, h0⟩ := Option.ne_none_iff_exists'.mp hk
    exact (hw.1 k e0 h0).1.lt
  refine ⟨fun k e0 h0 => ?_, fun k k' hk hk' hkk => ?_, hw.2.2⟩
  · have h0 : cx (Z.wl (upN Z.ad T a) (rwr Z.m T r)).Y (upN Z.ad T a) Z.df g k = some e0 := h0
    show va_at Z.D vwCl (upN Z.ad T a k, e0) H1 ∧ Z.z ≤ upN Z.ad T a k
    by_cases hk : k = T
    · subst hk
      rw [hn] at h0
      cases h0
      rw [upN_s]
      exact ⟨hat, hz⟩
    · rw [hs k hk] at h0
      rw [upN_o _ hk]
      exact ⟨(hw.1 k e0 h0).1.kept (hold _ (hw.1 k e0 h0).1.lt), (hw.1 k e0 h0).2⟩
  · have hk : cx (Z.wl (upN Z.ad T a) (rwr Z.m T r)).Y (upN Z.ad T a) Z.df g k ≠ none := hk
    have hk' : cx (Z.wl (upN Z.ad T a) (rwr Z.m T r)).Y (upN Z.ad T a) Z.df g k' ≠ none := hk'
    have hkk : upN Z.ad T a k = upN Z.ad T a k' := hkk
    by_cases h1 : k = T
    · by_cases h2 : k' = T
      · rw [h1, h2]
      · rw [hs k' h2] at hk'
        rw [h1, upN_s, upN_o _ h2] at hkk
        have := hlt k' hk'
        omega
    · rw [hs k h1] at hk
      by_cases h2 : k' = T
      · rw [h2, upN_s, upN_o _ h1] at hkk
        have := hlt k hk
        omega
      · rw [hs k' h2] at hk'
        rw [upN_o _ h1, upN_o _ h2] at hkk
        exact hw.2.1 k k' hk hk' hkk
/-- a cell of the law's is written -/
theorem Hw_wrl {Z : Zc} {g : MG} {H H1 : Heap} (hw : HwZ Z g H) {k : Nat} (hk : 600 ≤ k ∧ k < 1200) {r : Nat → Int32} {e e' : va_E} (h0 : cW Z.Y Z.ad (Z.m k) = some e) (h1 : cW Z.Y Z.ad r = some e') (hat : va_at Z.D vwCl (Z.ad k, e') H1) (oq : ∀ q : Nat, q ≠ Z.ad k → H1[q]? = H[q]?) : HwZ (Z.wl Z.ad (rwr Z.m k r)) g H1 := by
  have hs : ∀ q, q ≠ k → cx (Z.wl Z.ad (rwr Z.m k r)).Y Z.ad Z.df g q = cx Z.Y Z.ad Z.df g q := by
    intro q hq
    by_cases h1 : q < 600
    · exact cx_Y h1
    · by_cases h2 : q < 1200
      · rw [cx_law ⟨by omega, h2⟩, cx_law ⟨by omega, h2⟩]
        have em : (Z.wl Z.ad (rwr Z.m k r)).Y.m q = Z.m q := rwr_ne _ _ _ hq
        rw [em]
        rfl
      · rw [cx_top _ _ _ _ (by omega), cx_top _ _ _ _ (by omega)]
  have hn : cx (Z.wl Z.ad (rwr Z.m k r)).Y Z.ad Z.df g k = some e' := by
    rw [cx_law hk]
    have em : (Z.wl Z.ad (rwr Z.m k r)).Y.m k = r := rwr_same _ _ _
    rw [em]
    exact h1
  have ho : cx Z.Y Z.ad Z.df g k = some e := (cx_law hk).trans h0
  have hne : ∀ q, cx (Z.wl Z.ad (rwr Z.m k r)).Y Z.ad Z.df g q ≠ none ↔ cx Z.Y Z.ad Z.df g q ≠ none := fun q => by
    by_cases hq : q = k
    · rw [hq, hn, ho]; simp
    · rw [hs q hq]
  refine ⟨fun q e0 he0 => ?_, fun a b ha hb hab => hw.2.1 a b ((hne a).mp ha) ((hne b).mp hb) hab, hw.2.2⟩
  have he0 : cx (Z.wl Z.ad (rwr Z.m k r)).Y Z.ad Z.df g q = some e0 := he0
  show va_at Z.D vwCl (Z.ad q, e0) H1 ∧ Z.z ≤ Z.ad q
  by_cases hq : q = k
  · subst hq
    rw [hn] at he0
    cases he0
    exact ⟨hat, (hw.1 q e ho).2⟩
  · rw [hs q hq] at he0
    exact ⟨(hw.1 q e0 he0).1.kept (oq _ (fun z => hq (hw.2.1 q k (by rw [he0]; simp) (by rw [ho]; simp) z))), (hw.1 q e0 he0).2⟩
/-- the law's cells are named anew, or some of them are let go -/
theorem Hw_map {Z : Zc} {g : MG} {H : Heap} (hw : HwZ Z g H) {ad' : Nat → Nat} {m' : MG} (σ : Nat → Nat) (hlo : ∀ k, k < 600 → ad' k = Z.ad k) (h : ∀ k, 600 ≤ k → k < 1200 → m' k 100000 ≠ 0 → (600 ≤ σ k ∧ σ k < 1200) ∧ cW Z.Y ad' (m' k) = cW Z.Y Z.ad (Z.m (σ k)) ∧ ad' k = Z.ad (σ k)) (hinj : ∀ a b, 600 ≤ a → a < 1200 → 600 ≤ b → b < 1200 → m' a 100000 ≠ 0 → m' b 100000 ≠ 0 → σ a = σ b → a = b) : HwZ (Z.wl ad' m') g H := by
  have hs : ∀ k, cx (Z.wl ad' m').Y ad' Z.df g k ≠ none → (k < 600 ∧ cx (Z.wl ad' m').Y ad' Z.df g k = cx Z.Y Z.ad Z.df g k) ∨ ((600 ≤ k ∧ k < 1200) ∧ m' k 100000 ≠ 0 ∧ cx (Z.wl ad' m').Y ad' Z.df g k = cx Z.Y Z.ad Z.df g (σ k)) := by
    intro k hk
    by_cases h1 : k < 600
    · exact Or.inl ⟨h1, (cx_Y h1).trans (cx_ad hw.2.2 hlo h1)⟩
    · by_cases h2 : k < 1200
      · have hc : cx (Z.wl ad' m').Y ad' Z.df g k = cW Z.Y ad' (m' k) := cx_law ⟨by omega, h2⟩
        have h3 : m' k 100000 ≠ 0 := fun z => hk (hc.trans (cW_0 z))
        obtain ⟨h4, h5, -⟩ := h k (by omega) h2 h3
        exact Or.inr ⟨⟨by omega, h2⟩, h3, hc.trans (h5.trans (cx_law h4).symm)⟩
      · exact absurd (cx_top _ _ _ _ (by omega)) hk
  refine ⟨fun k e he => ?_, fun a b ha hb hab => ?_, hw.2.2⟩
  · have he : cx (Z.wl ad' m').Y ad' Z.df g k = some e := he
    show va_at Z.D vwCl (ad' k, e) H ∧ Z.z ≤ ad' k
    rcases hs k (by rw [he]; simp) with ⟨h1, h2⟩ | ⟨h1, h2, h3⟩
    · rw [he] at h2
      rw [hlo k h1]
      exact hw.1 k e h2.symm
    · rw [he] at h3
      rw [(h k h1.1 h1.2 h2).2.2]
      exact hw.1 _ e h3.symm
  · have hab : ad' a = ad' b := hab
    have hn : ∀ k, cx (Z.wl ad' m').Y ad' Z.df g k ≠ none → cx (Z.wl ad' m').Y ad' Z.df g k = cx Z.Y Z.ad Z.df g k → cx Z.Y Z.ad Z.df g k ≠ none := fun k h1 h2 => h2 ▸ h1
    rcases hs a ha with ⟨a1, a2⟩ | ⟨a1, a2, a3⟩
    · rcases hs b hb with ⟨b1, b2⟩ | ⟨b1, b2, b3⟩
      · rw [hlo a a1, hlo b b1] at hab
        exact hw.2.1 a b (a2 ▸ ha) (b2 ▸ hb) hab
      · rw [hlo a a1, (h b b1.1 b1.2 b2).2.2] at hab
        have := hw.2.1 a (σ b) (a2 ▸ ha) (b3 ▸ hb) hab
        have := (h b b1.1 b1.2 b2).1.1
        omega
    · rcases hs b hb with ⟨b1, b2⟩ | ⟨b1, b2, b3⟩
      · rw [hlo b b1, (h a a1.1 a1.2 a2).2.2] at hab
        have := hw.2.1 (σ a) b (a3 ▸ ha) (b2 ▸ hb) hab
        have := (h a a1.1 a1.2 a2).1.1
        omega
      · rw [(h a a1.1 a1.2 a2).2.2, (h b b1.1 b1.2 b2).2.2] at hab
        exact hinj a b a1.1 a1.2 b1.1 b1.2 a2 b2 (hw.2.1 _ _ (a3 ▸ ha) (b3 ▸ hb) hab)
