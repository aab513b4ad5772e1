/-! THE BEST FOUNT: looked for from the first on, or from the last on -/
def okf5 (fv ht : Nat → Int32) (tall : Int32) (f : Nat) : Prop := ¬ ht f < tall ∧ ¬ fv f = -1
/-- b is no worse than f: fewer flaws; as many, and higher; as high, and no later -/
def noW (fv ht : Nat → Int32) (b f : Nat) : Prop := fv b < fv f ∨ (fv b = fv f ∧ (ht f < ht b ∨ (ht f = ht b ∧ b ≤ f)))
def Bst (S : Nat → Prop) (fv ht : Nat → Int32) (tall : Int32) (b : Nat) : Prop := S b ∧ okf5 fv ht tall b ∧ ∀ f, S f → okf5 fv ht tall f → noW fv ht b f
theorem noW_T {fv ht : Nat → Int32} {a b c : Nat} (h1 : noW fv ht a b) (h2 : noW fv ht b c) : noW fv ht a c := by
  unfold noW at *
  simp only [i_lt, i_eq] at *
  omega
theorem Bst.uniq {S : Nat → Prop} {fv ht : Nat → Int32} {tall : Int32} {b b' : Nat} (h : Bst S fv ht tall b) (h' : Bst S fv ht tall b') : b = b' := by
  have h1 := h.2.2 b' h'.1 h'.2.1
  have h2 := h'.2.2 b h.1 h.2.1
  unfold noW at h1 h2
  simp only [i_lt, i_eq] at h1 h2
  omega
/-- what a search says: the best of S, or that there is none -/
def BsQ (S : Nat → Prop) (fv ht : Nat → Int32) (tall : Int32) (s : Int32 × Int32) : Prop := (s.2 = -1 ∧ ∀ f, S f → ¬ okf5 fv ht tall f) ∨ ∃ b, s.2 = nI b ∧ s.1 = fv b ∧ Bst S fv ht tall b
theorem BsQ.skip {S : Nat → Prop} {fv ht : Nat → Int32} {tall : Int32} {s : Int32 × Int32} {f : Nat} (h : BsQ S fv ht tall s) (hf : ¬ okf5 fv ht tall f) : BsQ (fun x => S x ∨ x = f) fv ht tall s := by
  rcases h with ⟨h1, h2⟩ | ⟨b, h1, h2, h3, h4, h5⟩
  · exact Or.inl ⟨h1, fun x hx => by rcases hx with hx | rfl; (· exact h2 x hx); (· exact hf)⟩
  · exact Or.inr ⟨b, h1, h2, Or.inl h3, h4, fun x hx ho => by rcases hx with hx | rfl; (· exact h5 x hx ho); (· exact absurd ho hf)⟩
theorem BsQ.stay {S : Nat → Prop} {fv ht : Nat → Int32} {tall : Int32} {s : Int32 × Int32} {f b : Nat} (h : BsQ S fv ht tall s) (hb : s.2 = nI b) (hb31 : b < 1000) (hS : ∀ x, S x → x < 1000) (hw : noW fv ht b f) : BsQ (fun x => S x ∨ x = f) fv ht tall s := by
  rcases h with ⟨h1, h2⟩ | ⟨b', h1, h2, h3, h4, h5⟩
  · exact absurd (hb.symm.trans h1) (nI_m1 (by omega))
  · have e : b' = b := nI_inj (by have := hS b' h3; omega) (by omega) (h1.symm.trans hb)
    subst e
    exact Or.inr ⟨b', h1, h2, Or.inl h3, h4, fun x hx ho => by rcases hx with hx | rfl; (· exact h5 x hx ho); (· exact hw)⟩
theorem BsQ.take {S : Nat → Prop} {fv ht : Nat → Int32} {tall : Int32} {s : Int32 × Int32} {f : Nat} (h : BsQ S fv ht tall s) (ho : okf5 fv ht tall f) (hw : ∀ b, s.2 = nI b → S b → noW fv ht f b) : BsQ (fun x => S x ∨ x = f) fv ht tall (fv f, nI f) := by
  have hff : noW fv ht f f := Or.inr ⟨rfl, Or.inr ⟨rfl, Nat.le_refl _⟩⟩
  rcases h with ⟨h1, h2⟩ | ⟨b', h1, h2, h3, h4, h5⟩
  · exact Or.inr ⟨f, rfl, rfl, Or.inr rfl, ho, fun x hx hox => by rcases hx with hx | rfl; (· exact absurd hox (h2 x hx)); (· exact hff)⟩
  · exact Or.inr ⟨f, rfl, rfl, Or.inr rfl, ho, fun x hx hox => by rcases hx with hx | rfl; (· exact noW_T (hw b' h1 h3) (h5 x hx hox)); (· exact hff)⟩
theorem BsQ.set {S S' : Nat → Prop} {fv ht : Nat → Int32} {tall : Int32} {s : Int32 × Int32} (h : BsQ S fv ht tall s) (hS : ∀ x, S x ↔ S' x) : BsQ S' fv ht tall s := by
  have e : S = S' := funext fun x => propext (hS x)
  rw [← e]; exact h
theorem bo_Q {fv ht : Nat → Int32} {tall : Int32} : ∀ (n f : Nat) (s : Int32 × Int32), f + n ≤ 5 → BsQ (fun x => x < f) fv ht tall s → BsQ (fun x => x < f + n) fv ht tall (bo fv ht tall n f s) := by
  intro n
  induction n with
  | zero => intro f s _ h; exact h
  | succ n ih =>
    intro f s hf h
    unfold bo
    have key : BsQ (fun x => x < f + 1) fv ht tall (if ht f < tall then s else if btr ht (fv f) f s.1 s.2 then (fv f, nI f) else s) := by
      have hset : ∀ s', BsQ (fun x => x < f ∨ x = f) fv ht tall s' → BsQ (fun x => x < f + 1) fv ht tall s' := fun s' h' => h'.set (fun x => by omega)
      by_cases h1 : ht f < tall
      · rw [if_pos h1]
        exact hset _ (h.skip (fun z => z.1 h1))
      · rw [if_neg h1]
        by_cases h2 : fv f = -1
        · have hb : btr ht (fv f) f s.1 s.2 = false := by unfold btr; rw [if_pos (Or.inl h2)]; simp [h2]
          rw [hb]
          exact hset _ (h.skip (fun z => z.2 h2))
        · have ho : okf5 fv ht tall f := ⟨h1, h2⟩
          rcases id h with ⟨h3, h4⟩ | ⟨b, h3, h4, h5, h6, h7⟩
          · have hb : btr ht (fv f) f s.1 s.2 = true := by unfold btr; rw [if_pos (Or.inr h3)]; simp [h2]
            rw [hb]
            exact hset _ (h.take ho (fun b hb' hS => absurd (hb'.symm.trans h3) (nI_m1 (by have : b < f := hS; omega))))
          · have hb5 : b < f := h5
            have hbi : iz s.2 = b := by rw [h3]; exact iz_nI (by omega)
            have e9 : btr ht (fv f) f s.1 s.2 = (decide (fv f < fv b) || (decide (fv f = fv b) && decide (ht b < ht f))) := by
              unfold btr
              rw [if_neg (by rintro (z | z); (· exact h2 z); (· exact nI_m1 (by omega) (h3.symm.trans z))), hbi, h4]
            rw [e9]
            by_cases hc : fv f < fv b ∨ (fv f = fv b ∧ ht b < ht f)
            · rw [if_pos (by simpa using hc)]
              refine hset _ (h.take ho (fun b' hb' hS => ?_))
              have e : b' = b := nI_inj (by have : b' < f := hS; omega) (by omega) (hb'.symm.trans h3)
              subst e
              rcases hc with hc | ⟨hc, hc2⟩
              · exact Or.inl hc
              · exact Or.inr ⟨hc, Or.inl hc2⟩
            · rw [if_neg (by simpa using hc)]
              refine hset _ (h.stay h3 (by omega) (fun x hx => by have : x < f := hx; omega) ?_)
              unfold noW
              simp only [i_lt, i_eq] at hc ⊢
              omega
    have := ih (f + 1) _ (by omega) key
    rwa [show f + 1 + n = f + (n + 1) by omega] at this
/-- the best of all, told by any search -/
theorem bo_is {fv ht : Nat → Int32} {tall : Int32} {nf : Nat} (h5 : nf ≤ 5) {s : Int32 × Int32} (h : BsQ (fun x => x < nf) fv ht tall s) : (bo fv ht tall nf 0 (0, -1)).2 = s.2 := by
  have h0 : BsQ (fun x => x < 0) fv ht tall ((0 : Int32), (-1 : Int32)) := Or.inl ⟨rfl, fun f hf => absurd hf (Nat.not_lt_zero _)⟩
  have h1 := bo_Q nf 0 _ (by omega) h0
  rw [Nat.zero_add] at h1
  rcases h1 with ⟨a1, a2⟩ | ⟨b, a1, a2, a3⟩
  · rcases h with ⟨b1, b2⟩ | ⟨b', b1, b2, b3⟩
    · rw [a1, b1]
    · exact absurd b3.2.1 (a2 b' b3.1)
  · rcases h with ⟨b1, b2⟩ | ⟨b', b1, b2, b3⟩
    · exact absurd a3.2.1 (b2 b a3.1)
    · rw [a1, b1, a3.uniq b3]
