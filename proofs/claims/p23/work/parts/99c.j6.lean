/-! THE JDK'S TEXTS: bytes come anew; how a number's letters lie in it -/
section LJ6
variable {P : Pm} {R : Room} {Z : Zc} {cc : ByteArray} {own : String} {lo : Lo} {pc : Nat} {rest st : List Value} {g : MG} {cs sl : Nat} {ad : Nat → Nat} {m : MG} {T : Nat}
theorem j_newb (C : Cx P Z cc own) (hF : Fr m T) (hT : T < 1200) {N : Nat} (h31 : N < 1000) (hdg : decode cc pc = .ok (.newarray .byte, 2)) (hcells : cs + 1 ≤ R.cells) (hslots : sl + N ≤ R.slots) (kk : ∀ ad' : Nat → Nat, (∀ k, k ≠ T → ad' k = ad k) → V P R (Z.wl ad' (rwr m T (rN 7 N))) lo (pc + 2) (.ref (ad' T) :: rest) g (cs + 1) (sl + N)) : V P R (Z.wl ad m) lo pc (.int (nI N) :: rest) g cs sl := by
  obtain ⟨p, l, e, s, mm, args, below, meth, c, Q, nL⟩ := P
  intro ls H locs hl hw hS
  have hz : Z.z ≤ H.size := Nat.le_trans C.2.2.2.2.2.2.1 hS.1
  refine va_newaK (atype := .byte) C.1 C.2.1 (C.2.2.2.2.1 _ (tg1 168 rfl rfl)) rfl hdg rfl (nI_pos (by omega)) (nI_clamp (by omega)) (by show N * 1 ≤ 536870912; omega) hcells hslots rfl (fun H1 cA e1 z1 o1 hAr hNm => ?_)
  have hcA : cA = Z.Y.2.2.2.2.2.1 := by
    have h1 : s.vm.findClass ("[" ++ FieldType.byte.toString) = some Z.Y.2.2.2.2.2.1 := (C.2.2.2.2.2.1.2 5 _ rfl).2
    exact Option.some.inj (hNm.symm.trans h1)
  subst hcA
  have h1 := kk (upN ad T H.size) (fun k hk => upN_o ad hk)
  rw [upN_s] at h1
  refine h1 ls H1 locs hl (Hw_grow (Z := Z.wl ad m) hw hF hT hz (Nat.le_refl _) (e := .inl (Z.Y.2.2.2.2.2.1, N, .inl (rN 7 N))) ?_ o1 (cW_7 (rN_k _ _) (rN_l _ _) (by omega))) (l_S hS z1 o1)
  show H1[H.size]? = some (vp_cell _ _)
  rw [e1, vp_cell_i]
  congr 1
  exact arrV_c _ _ (fun j hj => by rw [rN_0 _ _ (by omega)]; rfl)
end LJ6
theorem szw_b {w : Nat} (hw : w ≤ 99999999) : w < 10 ^ szw w ∧ (szw w = 1 ∨ 10 ^ (szw w - 1) ≤ w) := by
  have key : ∀ i, 1 ≤ i → i ≤ 9 → w < 10 ^ i → (i = 1 ∨ 10 ^ (i - 1) ≤ w) → w < 10 ^ szw w ∧ (szw w = 1 ∨ 10 ^ (szw w - 1) ≤ w) := fun i h1 h9 h h2 => by
    rw [szw_eq h1 h9 h h2]
    exact ⟨h, h2⟩
  by_cases h1 : w < 10
  · exact key 1 (by decide) (by decide) h1 (Or.inl rfl)
  by_cases h2 : w < 100
  · exact key 2 (by decide) (by decide) h2 (Or.inr (by show 10 ≤ w; omega))
  by_cases h3 : w < 1000
  · exact key 3 (by decide) (by decide) h3 (Or.inr (by show 100 ≤ w; omega))
  by_cases h4 : w < 10000
  · exact key 4 (by decide) (by decide) h4 (Or.inr (by show 1000 ≤ w; omega))
  by_cases h5 : w < 100000
  · exact key 5 (by decide) (by decide) h5 (Or.inr (by show 10000 ≤ w; omega))
  by_cases h6 : w < 1000000
  · exact key 6 (by decide) (by decide) h6 (Or.inr (by show 100000 ≤ w; omega))
  by_cases h7 : w < 10000000
  · exact key 7 (by decide) (by decide) h7 (Or.inr (by show 1000000 ≤ w; omega))
  · exact key 8 (by decide) (by decide) (by show w < 100000000; omega) (Or.inr (by show 10000000 ≤ w; omega))
