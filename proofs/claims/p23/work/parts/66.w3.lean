/-! THE LAW'S CELLS: fields written, cells that come anew, names -/
section LR2
variable {P : Pm} {R : Room} {Z : Zc} {cc : ByteArray} {own : String} {lo : Lo} {pc : Nat} {rest st : List Value} {g : MG} {cs sl : Nat} {ad : Nat → Nat} {m : MG} {T : Nat}
theorem l_put (C : Cx P Z cc own) {Cn : String} {Tt : u_T} {N ci index : Nat} (hin : ∀ w ∈ u_ws Cn Tt N, w ∈ wsG) (hc : vwCl[ci]? = some (Cn, Tt, N)) (ty0 : Nat → FieldType) (hty : ∀ k, k < N → parseFieldDescriptor (Tt k).2.2.1 = some (ty0 k)) (hnm : ∀ a, a < N → ∀ b, b < N → a ≠ b → (Tt a).2.1 ≠ (Tt b).2.1) (j : Nat) (hj : j < N) (hlink : Cond.fieldLink own index Cn (Tt j).2.1 (Tt j).2.2.1 ∈ wsG) (hsame : (Tt j).1 = Cn) (hfin : (Tt j).2.2.2 = false) {ty : FieldType} (hd : parseFieldDescriptor (Tt j).2.2.1 = some ty) {v : Value} (hn : narrow ty v = v) (hfit : fits ty v = true) {k : Nat} (hk9 : 600 ≤ k ∧ k < 1200) {fs : List Value} (hk : cW Z.Y ad (m k) = some (.inr (ci, fs))) (hl : j < fs.length) {x : Int32}
    (hk' : cW Z.Y ad (upd (m k) j x) = some (.inr (ci, fs.set j v))) (hdg : decode cc pc = .ok (.putfield index, 3)) (kk : V P R (Z.wl ad (wr m k j x)) lo (pc + 3) rest g cs sl) : V P R (Z.wl ad m) lo pc (v :: .ref (ad k) :: rest) g cs sl := by
  obtain ⟨p, l, e, s, mm, args, below, meth, c, Q, nL⟩ := P
  intro ls H locs hll hw hS0
  have hap := va_apart (own := own) C.2.2.2.2.1 hin ty0 hty hnm C.2.2.2.2.2.1 hc
  obtain ⟨⟨r, h1, cell, q1, q2, q3, q4⟩, hza⟩ := l_at hw hk9 hk
  have hr : r = (Cn, Tt, N) := Option.some.inj (h1.symm.trans hc)
  subst hr
  obtain ⟨hS, hfc, kC, hkC, hkind⟩ := C.2.2.2.2.2.1.1 ci _ hc
  obtain ⟨cf, kf, fi, f, hi, hsl⟩ := hS j hj
  have hlay := C.2.2.2.2.1 _ (hin _ (u_in_lay hj))
  unfold u_lay at hlay
  rw [if_neg (by rw [hfin]; decide)] at hlay
  have hst := (u_facts hfc hkC (u_lays C.2.2.2.2.1 hin hj) hi).1
  have h6 := u_store hfc hkC hkind hlay hi hd hn hfit
  refine W.putK C.1 C.2.1 (f := f) ⟨C.2.2.2.1, C.2.2.2.2.1 _ hlink, ⟨_, _, _, by rw [hsame] at hi; exact hi⟩, hst⟩ (by rw [q2]; exact h6) q1 q3 (by rw [hsl]; exact k2_hasslot (q4 j hj)) rfl rfl hdg fun H' e1 e2 e3 => ?_
  rw [hsl] at e1 ⊢
  refine kk ls H' _ hll ?_ (hS0.put e2 e3 hza)
  rw [wr_rwr]
  exact Hw_wrl (Z := Z.wl ad m) hw hk9 hk hk' ⟨_, hc, t_OB.to (V := updV (vp_V fs) j v) ⟨_, e1, q2, q3, t_set q4 hap hj v⟩ (fun i _ => vp_updV_set hl v i)⟩ e3
theorem l_map {ad' : Nat → Nat} {m' : MG} (σ : Nat → Nat) (hlo : ∀ k, k < 600 → ad' k = ad k) (h : ∀ k, 600 ≤ k → k < 1200 → m' k 100000 ≠ 0 → (600 ≤ σ k ∧ σ k < 1200) ∧ cW Z.Y ad' (m' k) = cW Z.Y ad (m (σ k)) ∧ ad' k = ad (σ k)) (hinj : ∀ a b, 600 ≤ a → a < 1200 → 600 ≤ b → b < 1200 → m' a 100000 ≠ 0 → m' b 100000 ≠ 0 → σ a = σ b → a = b) (kk : V P R (Z.wl ad' m') lo pc st g cs sl) : V P R (Z.wl ad m) lo pc st g cs sl := by
  obtain ⟨p, l, e, s, mm, args, below, meth, c, Q, nL⟩ := P
  exact fun ls H locs hl hw hS => kk ls H locs hl (Hw_map (Z := Z.wl ad m) hw σ hlo h hinj) hS
/-- what is wanting of a world that has grown -/
theorem l_S {H H1 : Heap} {H0 : Heap} {locs : List Loc} {A : Nat → Prop} (hS : va_S A H0 H locs) (z1 : H1.size = H.size + 1) (o1 : ∀ q : Nat, q < H.size → H1[q]? = H[q]?) : va_S A H0 H1 locs := ⟨Nat.le_trans hS.1 (by omega), fun x h1 h2 => (o1 x (Nat.lt_of_lt_of_le h1 hS.1)).trans (hS.2.1 x h1 h2), hS.2.2⟩
theorem l_newi (C : Cx P Z cc own) (hF : Fr m T) (hT : T < 1200) {N : Nat} (h31 : N < 1000) (hdg : decode cc pc = .ok (.newarray .int, 2)) (hcells : cs + 1 ≤ R.cells) (hslots : sl + N ≤ R.slots) (kk : ∀ ad' : Nat → Nat, (∀ k, k ≠ T → ad' k = ad k) → V P R (Z.wl ad' (rwr m T (rN 1 N))) lo (pc + 2) (.ref (ad' T) :: rest) g (cs + 1) (sl + N)) : V P R (Z.wl ad m) lo pc (.int (nI N) :: rest) g cs sl := by
  obtain ⟨p, l, e, s, mm, args, below, meth, c, Q, nL⟩ := P
  intro ls H locs hl hw hS
  have hz : Z.z ≤ H.size := Nat.le_trans C.2.2.2.2.2.2.1 hS.1
  refine va_newaK (atype := .int) C.1 C.2.1 (C.2.2.2.2.1 _ (tg1 88 rfl rfl)) rfl hdg rfl (nI_pos (by omega)) (nI_clamp (by omega)) (by show N * 4 ≤ 536870912; omega) hcells hslots rfl (fun H1 cA e1 z1 o1 hAr hNm => ?_)
  have hcA : cA = Z.Y.1 := by
    have h1 : s.vm.findClass ("[" ++ FieldType.int.toString) = some Z.Y.1 := (C.2.2.2.2.2.1.2 0 _ rfl).2
    exact Option.some.inj (hNm.symm.trans h1)
  subst hcA
  have h1 := kk (upN ad T H.size) (fun k hk => upN_o ad hk)
  rw [upN_s] at h1
  refine h1 ls H1 locs hl (Hw_grow (Z := Z.wl ad m) hw hF hT hz (Nat.le_refl _) (e := .inl (Z.Y.1, N, .inl (rN 1 N))) ?_ o1 (cW_1 (rN_k _ _) (rN_l _ _) (by omega))) (l_S hS z1 o1)
  show H1[H.size]? = some (vp_cell _ _)
  rw [e1, vp_cell_i]
  congr 1
  exact arrV_c _ _ (fun j hj => by rw [rN_0 _ _ (by omega)]; rfl)
theorem l_newA (C : Cx P Z cc own) (hL : CxL P) (hF : Fr m T) (hT : T < 1200) {N idx : Nat} (h31 : N < 1000) (hlink : Cond.classLink own idx "[I" ∈ wsG) (hdg : decode cc pc = .ok (.anewarray idx, 3)) (hcells : cs + 1 ≤ R.cells) (hslots : sl + N ≤ R.slots) (kk : ∀ ad' : Nat → Nat, (∀ k, k ≠ T → ad' k = ad k) → V P R (Z.wl ad' (rwr m T (rN 2 N))) lo (pc + 3) (.ref (ad' T) :: rest) g (cs + 1) (sl + N)) : V P R (Z.wl ad m) lo pc (.int (nI N) :: rest) g cs sl := by
  obtain ⟨p, l, e, s, mm, args, below, meth, c, Q, nL⟩ := P
  intro ls H locs hl hw hS
  have hz : Z.z ≤ H.size := Nat.le_trans C.2.2.2.2.2.2.1 hS.1
  have eN : (nI N).toNatClampNeg = N := nI_clamp (by omega)
  have e0 : (FieldType.array FieldType.int).toString = "[I" := by decide +kernel
  refine W.anewA (t := .int) C.1 C.2.1 C.2.2.2.1 (by rw [e0]; exact C.2.2.2.2.1 _ hlink) (va_AOA.use hL.2.2.1) rfl hdg rfl (nI_pos (by omega)) (by rw [eN]; omega) hcells (by rw [eN]; exact hslots) (fun cA kA comp h1 h2 h3 h4 => ?_)
  have hcA : cA = Z.Y.2.2.1 := by
    have h9 : s.vm.findClass ("[" ++ (FieldType.array .int).toString) = some Z.Y.2.2.1 := (C.2.2.2.2.2.1.2 2 _ rfl).2
    exact Option.some.inj (h1.symm.trans h9)
  subst hcA
  rw [eN]
  generalize hH1 : H.push { cls := Z.Y.2.2.1, slots := Array.replicate N .null, vm := .none } = H1
  have z1 : H1.size = H.size + 1 := by rw [← hH1, Array.size_push]
  have e1 : H1[H.size]? = some (arrV Z.Y.2.2.1 N (fun _ => .null)) := by rw [← hH1, Array.getElem?_push_size, ← arrV_new]
  have o1 : ∀ q : Nat, q < H.size → H1[q]? = H[q]? := fun q hq => by rw [← hH1, Array.getElem?_push, if_neg (Nat.ne_of_lt hq)]
  have h1 := kk (upN ad T H.size) (fun k hk => upN_o ad hk)
  rw [upN_s] at h1
  refine h1 ls H1 locs hl (Hw_grow (Z := Z.wl ad m) hw hF hT hz (Nat.le_refl _) (e := .inl (Z.Y.2.2.1, N, .inr (.inr (.inr (.inr (fun j => fW (upN ad T H.size) (rN 2 N j))))))) ?_ o1 (cW_2 (rN_k _ _) (rN_l _ _) (by omega))) (l_S hS z1 o1)
  show H1[H.size]? = some (vp_cell _ _)
  rw [e1, vp_cell_q]
  congr 1
  exact arrV_c _ _ (fun j hj => by rw [rN_0 _ _ (by omega)]; rfl)
theorem l_newP (C : Cx P Z cc own) (hL : CxL P) (hF : Fr m T) (hT : T < 1200) {N idx : Nat} (h31 : N < 1000) (hlink : Cond.classLink own idx "PosterTypesLaw$Poster" ∈ wsG) (hdg : decode cc pc = .ok (.anewarray idx, 3)) (hcells : cs + 1 ≤ R.cells) (hslots : sl + N ≤ R.slots) (kk : ∀ ad' : Nat → Nat, (∀ k, k ≠ T → ad' k = ad k) → V P R (Z.wl ad' (rwr m T (rN 4 N))) lo (pc + 3) (.ref (ad' T) :: rest) g (cs + 1) (sl + N)) : V P R (Z.wl ad m) lo pc (.int (nI N) :: rest) g cs sl := by
  obtain ⟨p, l, e, s, mm, args, below, meth, c, Q, nL⟩ := P
  intro ls H locs hl hw hS
  have hz : Z.z ≤ H.size := Nat.le_trans C.2.2.2.2.2.2.1 hS.1
  have eN : (nI N).toNatClampNeg = N := nI_clamp (by omega)
  refine W.anew (C := "PosterTypesLaw$Poster") C.1 C.2.1 C.2.2.2.1 (C.2.2.2.2.1 _ hlink) (va_AO.use hL.2.1) rfl hdg rfl (nI_pos (by omega)) (by rw [eN]; omega) hcells (by rw [eN]; exact hslots) (fun cA kA comp h1 h2 h3 h4 => ?_)
  have hcA : cA = Z.Y.2.2.2.2.1 := by
    obtain ⟨_, _, _, _, _, h9⟩ := (C.2.2.2.2.2.1.2 4 _ rfl).2
    exact Option.some.inj (h1.symm.trans h9)
  subst hcA
  rw [eN]
  generalize hH1 : H.push { cls := Z.Y.2.2.2.2.1, slots := Array.replicate N .null, vm := .none } = H1
  have z1 : H1.size = H.size + 1 := by rw [← hH1, Array.size_push]
  have e1 : H1[H.size]? = some (arrV Z.Y.2.2.2.2.1 N (fun _ => .null)) := by rw [← hH1, Array.getElem?_push_size, ← arrV_new]
  have o1 : ∀ q : Nat, q < H.size → H1[q]? = H[q]? := fun q hq => by rw [← hH1, Array.getElem?_push, if_neg (Nat.ne_of_lt hq)]
  have h1 := kk (upN ad T H.size) (fun k hk => upN_o ad hk)
  rw [upN_s] at h1
  refine h1 ls H1 locs hl (Hw_grow (Z := Z.wl ad m) hw hF hT hz (Nat.le_refl _) (e := .inl (Z.Y.2.2.2.2.1, N, .inr (.inr (.inr (.inr (fun j => fW (upN ad T H.size) (rN 4 N j))))))) ?_ o1 (cW_4 (rN_k _ _) (rN_l _ _) (by omega))) (l_S hS z1 o1)
  show H1[H.size]? = some (vp_cell _ _)
  rw [e1, vp_cell_q]
  congr 1
  exact arrV_c _ _ (fun j hj => by rw [rN_0 _ _ (by omega)]; rfl)
theorem l_newo (C : Cx P Z cc own) (hF : Fr m T) (hT : T < 1200) {Cn : String} {Tt : u_T} {N ci index : Nat} (hin : ∀ w ∈ u_ws Cn Tt N, w ∈ wsG) (ty : Nat → FieldType) (hty : ∀ k, k < N → parseFieldDescriptor (Tt k).2.2.1 = some (ty k)) (hcl : Cond.classLink own index Cn ∈ wsG) (hinst : Cond.instantiable Cn N ∈ wsG) (hini : Cond.initialized Cn ∈ wsG) (hc : vwCl[ci]? = some (Cn, Tt, N)) {kd : Int32} {fs : List Value} (hkd : ∀ ad', cW Z.Y ad' (rN kd 0) = some (.inr (ci, fs))) (hfs : ∀ j, j < N → defaultValue (ty j) = vp_V fs j) (hcells : cs + 1 ≤ R.cells) (hslots : sl + N ≤ R.slots) (hdg : decode cc pc = .ok (.new index, 3)) (kk : ∀ ad' : Nat → Nat, (∀ k, k ≠ T → ad' k = ad k) → V P R (Z.wl ad' (rwr m T (rN kd 0))) lo (pc + 3) (.ref (ad' T) :: rest) g (cs + 1) (sl + N)) : V P R (Z.wl ad m) lo pc rest g cs sl := by
  obtain ⟨p, l, e, s, mm, args, below, meth, c, Q, nL⟩ := P
  intro ls H locs hl hw hS
  have hKn := C.2.2.2.2.2.1.1 ci _ hc
  have hz : Z.z ≤ H.size := Nat.le_trans C.2.2.2.2.2.2.1 hS.1
  refine W.newcK C.1 C.2.1 C.2.2.2.1 (C.2.2.2.2.1 _ hcl) (C.2.2.2.2.1 _ hinst) (C.2.2.2.2.1 _ hini) rfl hdg hcells hslots hKn.2.1 rfl fun H1 kC hkC e1 z1 o1 => ?_
  have h1 := kk (upN ad T H.size) (fun k hk => upN_o ad hk)
  rw [upN_s] at h1
  exact h1 ls H1 locs hl (Hw_grow (Z := Z.wl ad m) hw hF hT hz (Nat.le_refl _) (e := .inr (ci, fs)) ⟨_, hc, (u_born ty C.2.2.2.2.1 hin hKn hkC e1 hty).to hfs⟩ o1 (hkd _)) (l_S hS z1 o1)
theorem l_objInit (C : Cx P Z cc own) {idx : Nat} (hlink : Cond.methodLink own idx ⟨"java/lang/Object", "<init>", "()V"⟩ ∈ wsG) {a : Nat} (hd : decode cc pc = .ok (.invokespecial idx, 3)) (hframes : 1 ≤ R.frames) (hlocals : (rest.map fun v => v.category).sum + 12 ≤ R.locals) (kk : V P R Z lo (pc + 3) rest g cs sl) : V P R Z lo pc (.ref a :: rest) g cs sl := by
  obtain ⟨p, l, e, s, m, args, below, meth, c, Q, nL⟩ := P
  exact fun ls H locs hl hw hS => W.objInit C.1 C.2.1 C.2.2.2.1 (C.2.2.2.2.1 _ hlink) (C.2.2.2.2.1 _ (tg1 35 rfl rfl)) (C.2.2.2.2.1 _ (tg1 36 rfl rfl)) rfl (hl.2.1.trans C.2.2.1.symm) rfl hd hframes (by show 2 * 0 + _ + 12 ≤ _; omega) (kk ls H locs hl hw hS)
theorem l_castA (C : Cx P Z cc own) {idx k n : Nat} (hk : 600 ≤ k ∧ k < 1200) (h1 : m k 100000 = 1) (h2 : m k 100001 = nI n) (hn : n < 1000) (hlink : Cond.classLink own idx "[I" ∈ wsG) (hdg : decode cc pc = .ok (.checkcast idx, 3)) (kk : V P R (Z.wl ad m) lo (pc + 3) (.ref (ad k) :: rest) g cs sl) : V P R (Z.wl ad m) lo pc (.ref (ad k) :: rest) g cs sl := by
  obtain ⟨p, l, e, s, mm, args, below, meth, c, Q, nL⟩ := P
  intro ls H locs hl hw hS
  have hP : va_P Z.D vwCl [(ad k, .inl (Z.Y.1, n, .inl (m k)))] H := by
    intro i q hq
    rcases List.mem_singleton.mp (List.mem_of_getElem? hq) with rfl
    exact (l_at hw hk (cW_1 h1 h2 (by omega))).1
  have hnm : s.vm.findClass "[I" = some Z.Y.1 := (C.2.2.2.2.2.1.2 0 _ rfl).2
  exact va_castA C.1 C.2.1 C.2.2.2.1 (C.2.2.2.2.1 _ hlink) hP 0 rfl hnm hdg (kk ls H locs hl hw hS)
end LR2
