/-! THE LAW'S CELLS: rows of rows of rows come anew -/
section LR2
variable {P : Pm} {R : Room} {Z : Zc} {cc : ByteArray} {own : String} {lo : Lo} {pc : Nat} {rest st : List Value} {g : MG} {cs sl : Nat} {ad : Nat → Nat} {m : MG} {T : Nat}
theorem l_newB (C : Cx P Z cc own) (hL : CxL P) (hF : Fr m T) (hT : T < 1200) {N idx : Nat} (h31 : N < 1000) (hlink : Cond.classLink own idx "[[I" ∈ wsG) (hdg : decode cc pc = .ok (.anewarray idx, 3)) (hcells : cs + 1 ≤ R.cells) (hslots : sl + N ≤ R.slots) (kk : ∀ ad' : Nat → Nat, (∀ k, k ≠ T → ad' k = ad k) → V P R (Z.wl ad' (rwr m T (rN 3 N))) lo (pc + 3) (.ref (ad' T) :: rest) g (cs + 1) (sl + N)) : V P R (Z.wl ad m) lo pc (.int (nI N) :: rest) g cs sl := by
  obtain ⟨p, l, e, s, mm, args, below, meth, c, Q, nL⟩ := P
  intro ls H locs hl hw hS
  have hz : Z.z ≤ H.size := Nat.le_trans C.2.2.2.2.2.2.1 hS.1
  have eN : (nI N).toNatClampNeg = N := nI_clamp (by omega)
  have e0 : (FieldType.array (FieldType.array FieldType.int)).toString = "[[I" := by decide +kernel
  refine W.anewA (t := .array .int) C.1 C.2.1 C.2.2.2.1 (by rw [e0]; exact C.2.2.2.2.1 _ hlink) (va_AOA.use hL.2.2.2.1) rfl hdg rfl (nI_pos (by omega)) (by rw [eN]; omega) hcells (by rw [eN]; exact hslots) (fun cA kA comp h1 h2 h3 h4 => ?_)
  have hcA : cA = Z.Y.2.2.2.1 := by
    have h9 : s.vm.findClass ("[" ++ (FieldType.array (.array .int)).toString) = some Z.Y.2.2.2.1 := (C.2.2.2.2.2.1.2 3 _ rfl).2
    exact Option.some.inj (h1.symm.trans h9)
  subst hcA
  rw [eN]
  generalize hH1 : H.push { cls := Z.Y.2.2.2.1, slots := Array.replicate N .null, vm := .none } = H1
  have z1 : H1.size = H.size + 1 := by rw [← hH1, Array.size_push]
  have e1 : H1[H.size]? = some (arrV Z.Y.2.2.2.1 N (fun _ => .null)) := by rw [← hH1, Array.getElem?_push_size, ← arrV_new]
  have o1 : ∀ q : Nat, q < H.size → H1[q]? = H[q]? := fun q hq => by rw [← hH1, Array.getElem?_push, if_neg (Nat.ne_of_lt hq)]
  have h1 := kk (upN ad T H.size) (fun k hk => upN_o ad hk)
  rw [upN_s] at h1
  refine h1 ls H1 locs hl (Hw_grow (Z := Z.wl ad m) hw hF hT hz (Nat.le_refl _) (e := .inl (Z.Y.2.2.2.1, N, .inr (.inr (.inr (.inr (fun j => fW (upN ad T H.size) (rN 3 N j))))))) ?_ o1 (cW_3 (rN_k _ _) (rN_l _ _) (by omega))) (l_S hS z1 o1)
  show H1[H.size]? = some (vp_cell _ _)
  rw [e1, vp_cell_q]
  congr 1
  exact arrV_c _ _ (fun j hj => by rw [rN_0 _ _ (by omega)]; rfl)
end LR2
