/-! THE LAW'S STATE: what the rows of its shop say; fields read -/
section LR3
variable {P : Pm} {R : Room} {Z : Zc} {cc : ByteArray} {own : String} {lo : Lo} {pc : Nat} {rest st : List Value} {g : MG} {cs sl : Nat} {ad : Nat → Nat} {m : MG} {T : Nat}
theorem l_get (C : Cx P Z cc own) {Cn : String} {Tt : u_T} {N ci index : Nat} (hin : ∀ w ∈ u_ws Cn Tt N, w ∈ wsG) (hc : vwCl[ci]? = some (Cn, Tt, N)) (j : Nat) (hj : j < N) (hlink : Cond.fieldLink own index Cn (Tt j).2.1 (Tt j).2.2.1 ∈ wsG) (hsame : (Tt j).1 = Cn) {k : Nat} (hk9 : 600 ≤ k ∧ k < 1200) {fs : List Value} (hk : cW Z.Y ad (m k) = some (.inr (ci, fs))) {v : Value} (hv : fs[j]? = some v) (hdg : decode cc pc = .ok (.getfield index, 3)) (kk : V P R (Z.wl ad m) lo (pc + 3) (v :: rest) g cs sl) : V P R (Z.wl ad m) lo pc (.ref (ad k) :: rest) g cs sl := by
  obtain ⟨p, l, e, s, mm, args, below, meth, c, Q, nL⟩ := P
  intro ls H locs hl hw hS
  have hP : va_P Z.D vwCl [(ad k, .inr (ci, fs))] H := by
    intro i q hq
    rcases List.mem_singleton.mp (List.mem_of_getElem? hq) with rfl
    exact (l_at hw hk9 hk).1
  exact va_get (D := Z.D) (ref := Cn) C.1 C.2.1 C.2.2.2.2.1 hin C.2.2.2.1 C.2.2.2.2.2.1 hP 0 rfl hc j hj (C.2.2.2.2.1 _ hlink) (fun x h => by rw [hsame] at h; exact h) hv hdg (kk ls H locs hl hw hS)
theorem ps_r {r : Nat → Int32} {j k : Nat} (hj : j = 2 ∨ j = 5 ∨ j = 6 ∨ j = 7) (h : r j = nI k) (hk : 600 ≤ k ∧ k < 1200) : (psF ad r)[j]? = some (.ref (ad k)) := by
  rcases hj with rfl | rfl | rfl | rfl <;> (show some (va_rf (fW ad _)) = _; rw [h, fW_nI hk]; rfl)
theorem sm_r {r : Nat → Int32} {j k : Nat} (hj : j = 2 ∨ j = 3 ∨ j = 4 ∨ j = 5 ∨ j = 6) (h : r j = nI k) (hk : 600 ≤ k ∧ k < 1200) : (smF ad r)[j]? = some (.ref (ad k)) := by
  rcases hj with rfl | rfl | rfl | rfl | rfl <;> (show some (va_rf (fW ad _)) = _; rw [h, fW_nI hk]; rfl)
theorem l_topi {x y : Int32} (h : x = y) (k : V P R Z lo pc (.int y :: rest) g cs sl) : V P R Z lo pc (.int x :: rest) g cs sl := by rw [h]; exact k
end LR3
/-- a row of n numbers lies at k -/
def isA (m : MG) (k n : Nat) : Prop := m k 100000 = 1 ∧ m k 100001 = nI n
def isQ (m : MG) (kd : Int32) (k n : Nat) : Prop := m k 100000 = kd ∧ m k 100001 = nI n
/-- the letters of a number, the highest first -/
def LtR (m : MG) (k n t : Nat) : Prop := isA m k n ∧ ∀ c, c < n → m k c = nI (t / 10 ^ (n - 1 - c) % 10)
def SmS (s m : MG) : Prop := m 600 100000 = 6 ∧ m 600 0 = s 0 3 ∧ m 600 1 = s 0 4 ∧ m 600 2 = nI 601 ∧ m 600 3 = nI 602 ∧ m 600 4 = nI 603 ∧ m 600 5 = nI 604 ∧ m 600 6 = nI 605
def SmF (s m : MG) : Prop := (isA m 601 (nfO s) ∧ ∀ f, f < nfO s → m 601 f = s 5 f) ∧ (isQ m 3 602 (nfO s) ∧ ∀ f, f < nfO s → m 602 f = nI (610 + f)) ∧ ∀ f, f < nfO s → isQ m 2 (610 + f) 10 ∧ ∀ k, k < 10 → m (610 + f) k = nI (620 + 10 * f + k)
def SmB (s m : MG) : Prop := ∀ f k, f < nfO s → k < 10 → isA m (620 + 10 * f + k) 3 ∧ m (620 + 10 * f + k) 0 = s 6 (10 * f + k) ∧ m (620 + 10 * f + k) 1 = s 7 (10 * f + k) ∧ m (620 + 10 * f + k) 2 = s 8 (10 * f + k)
def SmO (s m : MG) : Prop := isA m 603 10 ∧ ∀ j, j < 10 → m 603 j = s 9 j
def SmT (s m : MG) : Prop := isQ m 2 604 4 ∧ ∀ t, t < 4 → m 604 t = nI (606 + t) ∧ isA m (606 + t) 2 ∧ m (606 + t) 0 = s 10 t ∧ m (606 + t) 1 = s 11 t
/-- a poster's own cells, its object at k -/
def PsF (s m : MG) (p : Nat) : Prop := m (700 + 20 * p) 100000 = 5 ∧ m (700 + 20 * p) 0 = s 12 p ∧ m (700 + 20 * p) 1 = s 13 p ∧ m (700 + 20 * p) 2 = nI (701 + 20 * p) ∧ m (700 + 20 * p) 3 = s 15 p ∧ m (700 + 20 * p) 4 = s 16 p ∧ m (700 + 20 * p) 5 = nI (702 + 20 * p) ∧ m (700 + 20 * p) 6 = nI (703 + 20 * p) ∧ m (700 + 20 * p) 7 = nI (704 + 20 * p)
def PsL (s m : MG) (p : Nat) : Prop := isQ m 2 (701 + 20 * p) (nlO s p) ∧ ∀ q, q < nlO s p → m (701 + 20 * p) q = nI (705 + 20 * p + q) ∧ LtR m (705 + 20 * p + q) (szw (wdO s (4 * p + q))) (wdO s (4 * p + q))
def PsX (s m : MG) (p : Nat) : Prop := (∃ n, n ≤ 4 ∧ isA m (702 + 20 * p) n) ∧ (∃ n, n ≤ 4 ∧ isA m (703 + 20 * p) n ∧ (s 15 p = 1 → n = nlO s p)) ∧ True ∧ (s 15 p = 1 → isA m (702 + 20 * p) (nlO s p) ∧ isQ m 2 (704 + 20 * p) (nlO s p) ∧ ∀ q, q < nlO s p → m (702 + 20 * p) q = s 18 (4 * p + q) ∧ m (703 + 20 * p) q = s 19 (4 * p + q) ∧ m (704 + 20 * p) q = nI (710 + 20 * p + q) ∧ LtR m (710 + 20 * p + q) (szw (wdO s (4 * p + q))) (tkO s (4 * p + q)))
def SmP (s m : MG) : Prop := (isQ m 4 605 (npO s) ∧ ∀ p, p < npO s → m 605 p = nI (700 + 20 * p)) ∧ ∀ p, p < npO s → PsF s m p ∧ PsL s m p ∧ PsX s m p
/-- the law's shop is that of the rows s -/
def SimR (s m : MG) : Prop := SmS s m ∧ SmF s m ∧ SmB s m ∧ SmO s m ∧ SmT s m ∧ SmP s m
theorem szw_1 (w : Nat) : 1 ≤ szw w := by unfold szw; omega
theorem IvM_w8 {s : MG} (h : IvM s) {j : Nat} (hj : j < 24) : wdO s j ≤ 99999999 := by
  obtain ⟨n, hn, he⟩ := h.2.2.2.2.2.2.1 j hj
  have e : wdO s j = n := by unfold wdO; rw [he]; exact iz_nI (by omega)
  omega
