/-! THE LAW'S act: what it leaves; what is thrown, caught; blocks that are bought -/
abbrev RA : Room := rmz 10 330 70 700
def ActP (ad : Nat → Nat) (N : Nat) (s : MG) (ad' : Nat → Nat) (m' g' : MG) : Prop := (ad' 30 = ad 30 ∧ ad' 600 = ad 600) ∧ ∃ s', LE (N + 1) s' ∧ Mo s s' ∧ SimR s' m' ∧ Fr m' 900 ∧ Rl s' g' ∧ nfO s ≤ nfO s' ∧ npO s ≤ npO s'
def RetA (P : Pm) (Z : Zc) (ad : Nat → Nat) (N : Nat) (s : MG) : Prop := ∀ (pc : Nat) (lo' : Lo) (ad' : Nat → Nat) (m' g' : MG), decode cL_act pc = .ok (.ireturn, 1) → ActP ad N s ad' m' g' → V P RA (Z.wl ad' m') lo' pc [.int 1] g' RA.cells RA.slots
section VA1
variable {P : Pm} {R : Room} {Z : Zc} {cc : ByteArray} {own : String} {lo : Lo} {pc : Nat} {rest : List Value} {g : MG} {cs sl : Nat}
/-- thrown where the i-th handler alone covers -/
theorem v_catchU (C : Cx P Z cc own) (hS9 : CxS P) {hh : List (Nat × Nat × Nat × Nat)} (hT : CxT P hh) (i : Nat) {k : Fin 3} {a b hp ct : Nat} (hi : hh[i]? = some (a, b, hp, ct)) (hcov : a ≤ pc ∧ pc < b) (hct : ct ≠ 0) (hlink : Cond.classLink own ct (exC k) ∈ wsG) (hcast : Cond.castable (exC k) (exC k) ∈ wsN) (hpre : ∀ j, j < i → ∃ x : Nat × Nat × Nat × Nat, hh[j]? = some x ∧ ¬ (x.1 ≤ pc ∧ pc < x.2.1)) {q : Nat} (kk : V P R Z lo hp [.ref q] g cs sl) : VT P R Z lo pc rest (exC k) q g cs sl := by
  obtain ⟨p, l, e, s, m, args, below, meth, c, Q, nL⟩ := P
  intro ls H locs ce hl hw hS h1 h2 h3
  have hlen : i < hh.length := (List.getElem?_eq_some_iff.mp hi).1
  have hsp : c.exceptionTable.toList = (tableOf hh).take i ++ (⟨a, b, hp, ct⟩ : ExceptionTableEntry) :: (tableOf hh).drop (i + 1) := by
    have hT' : c.exceptionTable.toList = tableOf hh := hT
    rw [hT']
    have hlt : i < (tableOf hh).length := by unfold tableOf; rw [List.length_map]; exact hlen
    have hg : (tableOf hh)[i] = (⟨a, b, hp, ct⟩ : ExceptionTableEntry) := by
      have : (tableOf hh)[i]? = some (⟨a, b, hp, ct⟩ : ExceptionTableEntry) := by unfold tableOf; rw [List.getElem?_map, hi]; rfl
      exact (List.getElem?_eq_some_iff.mp this).2
    rw [← hg, ← List.drop_eq_getElem_cons hlt, List.take_append_drop]
  refine vx_catch (own := own) (name := exC k) (E := exC k) (ce := ce) C.2.2.2.1 _ _ _ hsp (fun z hz => ?_) ?_ hct (C.2.2.2.2.1 _ hlink) (va_tabs (wsN_ot _ hcast) rfl (hS9.1.1 _ hcast)) h1 h2 h3 (kk ls H locs hl hw hS)
  · left
    obtain ⟨j, hj⟩ := List.getElem?_of_mem hz
    have hji : j < i := by
      have := (List.getElem?_eq_some_iff.mp hj).1
      rw [List.length_take] at this
      omega
    rw [List.getElem?_take, if_pos hji] at hj
    obtain ⟨x, hx, hx0⟩ := hpre j hji
    have hz2 : z = ⟨x.1, x.2.1, x.2.2.1, x.2.2.2⟩ := by
      unfold tableOf at hj
      rw [List.getElem?_map, hx] at hj
      exact (Option.some.inj hj).symm
    rw [hz2]
    by_cases hx1 : x.1 ≤ pc
    · have : ¬ pc < x.2.1 := fun z => hx0 ⟨hx1, z⟩
      simp [covers, this]
    · simp [covers, hx1]
  · simp [covers, hcov.1, hcov.2]
end VA1
theorem bl_9 {N : Nat} {s : MG} (hE : LE N s) {x : Nat} (hx : x < 50) : ∃ b, b ≤ 9 ∧ s 6 x = nI b := by
  obtain ⟨⟨b1, b2⟩, b3, b4, -, -⟩ := hE.1.2.2.2.2.2 x hx
  obtain ⟨a, ha, hae⟩ := ou_nI hE.1.1 hE.2.1 hx
  rw [hae, nI_toInt (by omega)] at b3
  exact ti_nI (by omega) (by omega) (by decide)
theorem cdBuy_v {s : MG} (hI : IvM s) {f k v b : Nat} (hf : f < nfO s) (hk : k < 10) (hv : 1 ≤ v ∧ v ≤ 3) (hb : b ≤ 9) (hbe : s 6 (10 * f + k) = nI b) : cdBuy s (nI f) (nI k) (nI v) = if b + v ≤ 9 then 0 else 3 := by
  have hf5 := (IvM_nf hI).1
  have k2 : inB (nI v) 1 9 = true := inB_t.mpr (by rw [nI_toInt (by omega)]; exact ⟨by show (1 : Int) ≤ v; omega, by show (v : Int) ≤ 9; omega⟩)
  unfold cdBuy isFL
  rw [isN_of hf (by omega), isN_of hk (by decide), k2, at_n (by omega) hk, hbe, nI_add]
  rw [if_neg (by decide), if_neg (by decide)]
  by_cases h : b + v ≤ 9
  · rw [if_pos h]; exact if_neg (nI_nlt (a := 9) (b := b + v) h (by decide))
  · rw [if_neg h]; exact if_pos (nI_lt (a := 9) (b := b + v) (by omega) (by omega))
