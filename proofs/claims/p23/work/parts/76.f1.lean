/-! FREE KEYS: kept by what comes anew and by what is written -/
theorem rN_R {kd : Int32} {n T : Nat} (hn : n < 600) (hk : iz kd < 600) (hT : 600 ≤ T) : RfR (rN kd n) T := by
  intro j _
  unfold rN
  by_cases h1 : j = 100000
  · rw [if_pos h1]; omega
  · rw [if_neg h1]
    by_cases h2 : j = 100001
    · rw [if_pos h2, iz_nI (by omega)]; omega
    · rw [if_neg h2]
      have : iz (0 : Int32) = 0 := rfl
      omega
theorem RfR.le {r : Nat → Int32} {T T' : Nat} (h : RfR r T) (hT : T ≤ T') : RfR r T' := fun j hj => Nat.lt_of_lt_of_le (h j hj) hT
theorem Fr.new {m : MG} {T : Nat} {r : Nat → Int32} (h : Fr m T) (hT : T < 1200) (hr : RfR r (T + 1)) : Fr (rwr m T r) (T + 1) := by
  obtain ⟨⟨h1, h2⟩, h3, h4⟩ := h
  refine ⟨⟨by omega, by omega⟩, fun k hk => by rw [rwr_ne _ _ _ (by omega)]; exact h3 k (by omega), fun k k1 k2 => ?_⟩
  by_cases hk : k = T
  · rw [hk, rwr_same]; exact hr
  · rw [rwr_ne _ _ _ hk]; exact (h4 k k1 (by omega)).le (by omega)
theorem Fr.put {m : MG} {T k j : Nat} {x : Int32} (h : Fr m T) (hk : k < T) (hj : j < 100000) (hx : isrf (m k 100000) j = true → iz x < T) : Fr (wr m k j x) T := by
  obtain ⟨h1, h3, h4⟩ := h
  refine ⟨h1, fun q hq => by rw [wr_row _ _ _ _ (by omega)]; exact h3 q hq, fun q q1 q2 => ?_⟩
  by_cases hq : q = k
  · subst hq
    intro i hi
    rw [wr_ne _ _ _ _ (Or.inr (by omega))] at hi
    by_cases hij : i = j
    · subst hij
      rw [wr_same]; exact hx hi
    · rw [wr_ne _ _ _ _ (Or.inr hij)]; exact h4 q q1 q2 i hi
  · rw [wr_row _ _ _ _ hq]; exact h4 q q1 q2
theorem Fr.wi {m : MG} {T k j : Nat} {x : Int32} (h : Fr m T) (hk : k < T) (hj : j < 100000) (hkd : m k 100000 = 1) : Fr (wr m k j x) T := h.put hk hj (fun z => by rw [hkd] at z; exact absurd z (by simp [isrf]))
theorem Fr.wn {m : MG} {T k j k2 : Nat} (h : Fr m T) (hk : k < T) (hj : j < 100000) (hk2 : k2 < T) : Fr (wr m k j (nI k2)) T := h.put hk hj (fun _ => by rw [iz_nI (by have := h.1.2; omega)]; exact hk2)
/-- the keys below T alone -/
def cut (m : MG) (T : Nat) : MG := fun k => if k < T then m k else fun _ => 0
theorem cut_lt {m : MG} {T k : Nat} (h : k < T) : cut m T k = m k := if_pos h
theorem cut_ge {m : MG} {T k : Nat} (h : ¬ k < T) : cut m T k = fun _ => 0 := if_neg h
section LD
variable {P : Pm} {R : Room} {Z : Zc} {lo : Lo} {pc : Nat} {st : List Value} {g : MG} {cs sl : Nat} {ad : Nat → Nat} {m : MG}
/-- what lies from T on is let go; the world is m0 again, as far as it lies below T -/
theorem l_drop {ad0 : Nat → Nat} {m0 : MG} {T : Nat} (hF : Fr m0 T) (hA : ∀ k, k < T → ad k = ad0 k) (hm : ∀ k, 600 ≤ k → k < T → m k = m0 k) (kk : V P R (Z.wl ad0 m0) lo pc st g cs sl) : V P R (Z.wl ad m) lo pc st g cs sl := by
  have h6 := hF.1.1
  refine l_map id (fun k hk => (hA k (by omega)).symm) (fun k k1 k2 h => ?_) (fun a b _ _ _ _ _ _ hab => hab) kk
  have hk : k < T := Nat.lt_of_not_le fun q => h (hF.2.1 k q)
  refine ⟨⟨k1, k2⟩, ?_, (hA k hk).symm⟩
  show cW Z.Y ad0 (m0 k) = cW Z.Y ad (m k)
  rw [hm k k1 hk]
  exact (cW_rf (m' := Z.Y.m) (hF.2.2 k k1 hk) (fun q _ hq => (hA q hq).symm))
end LD
theorem ps_put {ad : Nat → Nat} {r : Nat → Int32} {j k : Nat} (hj : j = 2 ∨ j = 5 ∨ j = 6 ∨ j = 7) (hk : 600 ≤ k ∧ k < 1200) : psF ad (upd r j (nI k)) = (psF ad r).set j (.ref (ad k)) := by
  rcases hj with rfl | rfl | rfl | rfl <;> simp [psF, upd, fW_nI hk, va_rf]
theorem sm_put {ad : Nat → Nat} {r : Nat → Int32} {j k : Nat} (hj : j = 2 ∨ j = 3 ∨ j = 4 ∨ j = 5 ∨ j = 6) (hk : 600 ≤ k ∧ k < 1200) : smF ad (upd r j (nI k)) = (smF ad r).set j (.ref (ad k)) := by
  rcases hj with rfl | rfl | rfl | rfl | rfl <;> simp [smF, upd, fW_nI hk, va_rf]
