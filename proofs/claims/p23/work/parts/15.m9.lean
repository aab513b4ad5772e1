/-! THE REFERENCE: told, about, count -/
theorem IvM_nl {g : MG} (h : IvM g) {p : Nat} (hp : p < 6) : g 14 p = nI (nlO g p) ∧ nlO g p ≤ 4 := by
  obtain ⟨n, hn, he⟩ := h.2.2.2.1 p hp
  have e : nlO g p = n := by unfold nlO; rw [he]; exact iz_nI (by omega)
  rw [e]; exact ⟨he, hn⟩
theorem IvM_W {g : MG} (h : IvM g) : ∀ j, j < 24 → g 17 j = nI (wdO g j) ∧ wdO g j < 2 ^ 31 := by
  intro j hj
  obtain ⟨n, hn, he⟩ := h.2.2.2.2.2.2.1 j hj
  have e : wdO g j = n := by unfold wdO; rw [he]; exact iz_nI (by omega)
  rw [e]; exact ⟨he, by omega⟩
theorem IvM_t {g : MG} (h : IvM g) {p : Nat} (hp : p < 6) : g 12 p = nI (iz (g 12 p)) ∧ iz (g 12 p) < 4 := by
  obtain ⟨n, hn, he⟩ := h.2.2.2.2.1 p hp
  have e : iz (g 12 p) = n := by rw [he]; exact iz_nI (by omega)
  rw [e]; exact ⟨he, hn⟩
theorem IvM_F {g : MG} (h : IvM g) {p : Nat} (hp : p < 6) : g 15 p = 1 → ∀ k, k < nlO g p → ∃ f, f < 5 ∧ g 18 (4 * p + k) = nI f := fun h1 k hk => (h.2.2.2.2.2.2.2 p k hp h1 hk).1
theorem IvM_T {g : MG} (h : IvM g) {p : Nat} (hp : p < 6) : g 15 p = 1 → ∀ k, k < nlO g p → g 20 (4 * p + k) = nI (tkO g (4 * p + k)) ∧ tkO g (4 * p + k) < 2 ^ 31 := by
  intro h1 k hk
  obtain ⟨n, hn, he⟩ := (h.2.2.2.2.2.2.2 p k hp h1 hk).2
  have e : tkO g (4 * p + k) = n := by unfold tkO; rw [he]; exact iz_nI (by omega)
  rw [e]; exact ⟨he, by omega⟩
theorem IvM_eq {g g' : MG} (h : IvM g) (h1 : g' 0 1 = g 0 1) (h2 : g' 0 2 = g 0 2) (hr : ∀ k, 9 ≤ k → k ≤ 20 → g' k = g k) : IvM g' := by
  unfold IvM nlO at h ⊢
  rw [h1, h2, hr 9 (by decide) (by decide), hr 14 (by decide) (by decide), hr 12 (by decide) (by decide), hr 15 (by decide) (by decide), hr 17 (by decide) (by decide), hr 18 (by decide) (by decide), hr 20 (by decide) (by decide)]
  exact h
def ltsO (g : MG) (p : Nat) : Int32 := sumI (fun k => nI (szw (wdO g (4 * p + k)))) (nlO g p)
def toldO (g : MG) (p w : Nat) : Int32 := match w with
  | 0 => g 12 p
  | 1 => g 13 p
  | 2 => g 14 p
  | 3 => ltsO g p
  | 4 => g 15 p
  | 5 => flO g p (nlO g p)
  | 6 => g 16 p
  | _ => prO g (wdO g) p (nlO g p) (iz (g 12 p))
def ltoO (g : MG) (p k : Nat) (v : Int32) : Int32 := if v = 0 then nI (szw (wdO g (4 * p + k))) else if g 15 p = 0 then -1 else if v = 1 then g 18 (4 * p + k) else if v = 2 then g 19 (4 * p + k) else g 20 (4 * p + k)
def cdTold (g : MG) (p v : Int32) : Nat := if isN (npO g) p = false ∨ inB v 0 7 = false then 1 else 0
def cdAbout (g : MG) (p k v : Int32) : Nat := if isN (npO g) p = false ∨ isN (nlO g (iz p)) k = false ∨ inB v 0 3 = false then 1 else 0
def ctO (g : MG) (w : Nat) : Int32 := match w with
  | 0 => g 0 1
  | 1 => g 0 2
  | 2 => sumI (g 15) (npO g)
  | 3 => g 0 3
  | 4 => g 0 4
  | 5 => sumI (g 6) 50
  | _ => sumI (g 7) 50
def cdCount (v : Int32) : Nat := if inB v 0 6 = false then 1 else 0
theorem inB_ex {n : Nat} {v : Int32} (hn : n < 100) (h : inB v 0 (nI n) = true) : ∃ a, a < n + 1 ∧ v = nI a := by
  obtain ⟨h1, h2⟩ := inB_t.mp h
  have e : (nI n).toInt = n := nI_toInt (by omega)
  have z : (0 : Int32).toInt = 0 := rfl
  refine ⟨iz v, ?_, (nI_iz (by omega)).symm⟩
  have : (iz v : Int) = v.toInt := by unfold iz; rw [Int32.toNatClampNeg]; omega
  omega
