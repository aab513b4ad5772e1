/-! THE LAW'S CELLS: the rows of a walk -/
def va_AOA (t : FieldType) (U : State) : Prop := (Cond.arrayOver (.array t)).before #[] U = true
theorem va_AOA.moved {t : FieldType} {u U : State} (hvm : u.vm.Alike U.vm) (h : va_AOA t u) : va_AOA t U := by
  obtain ⟨comp, c, k, h1, h2, h3, h4, h5⟩ := arrayOverA_spec h
  obtain ⟨k', hk', he⟩ := hvm.2.2 _ _ h3
  have hi := (va_idx_bare U.vm comp).symm
  have hb : U.vm.bare = u.vm.bare := by first | exact hvm.bare_eq | exact hvm.bare_eq.symm
  rw [hb, va_idx_bare] at hi
  have hi := hi.trans h2
  have hkind : k'.kind = .array comp (.array t) := by rw [he]; exact h4
  have f1 : U.vm.findClass (FieldType.array t).toString = some comp := by rw [hvm.findClass]; exact h1
  have f2 : U.vm.findClass ("[" ++ (FieldType.array t).toString) = some c := by rw [hvm.findClass]; exact h5
  unfold va_AOA Cond.before Cond.holds
  simp only [Cond.value]
  rw [f1, Option.bind_some]
  refine (congrArg (fun o : Option Nat => (o.bind (fun c => (U.vm.classes[c]?).map fun (k : Class) => match k.kind with | .array _ ty => decide (ty = FieldType.array t) && decide (U.vm.findClass ("[" ++ (FieldType.array t).toString) = some c) | _ => false) == some true)) hi).trans ?_
  simp [hk', hkind, f2]
theorem va_AOA.use {t : FieldType} {A : Array Value} {U : State} (h : va_AOA t U) : (Cond.arrayOver (.array t)).before A U = true := h
/-- words of the law's own rows -/
def wsNest : List Cond := [.methodLinkNest "PosterTypesLaw" 27 ⟨"PosterTypesLaw$Poster", "<init>", "()V"⟩ "PosterTypesLaw", .methodLinkNest "PosterTypesLaw" 108 ⟨"PosterTypesLaw$Sim", "<init>", "()V"⟩ "PosterTypesLaw"]
def StrL (U : State) : Prop := va_Nw (.castable "[I" "java/lang/Cloneable") U ∧ va_AO "PosterTypesLaw$Poster" U ∧ va_AOA .int U ∧ va_AOA (.array .int) U ∧ ∀ w ∈ wsNest, va_Nw w U
theorem StrL.warm {s U : State} (hW : s.WarmedH U.vm) (h : StrL s) : StrL U := by
  refine ⟨va_Nw.warmC hW h.1, h.2.1.moved hW.alike, h.2.2.1.moved hW.alike, h.2.2.2.1.moved hW.alike, fun w hw => ?_⟩
  have h1 := h.2.2.2.2 w hw
  simp only [wsNest, List.mem_cons, List.not_mem_nil, or_false] at hw
  rcases hw with rfl | rfl
  · exact va_Nw.warmM hW h1
  · exact va_Nw.warmM hW h1
theorem StrL.same {u U : State} (h : u.vm = U.vm) (hM : StrL u) : StrL U := by
  refine ⟨va_Nw.same rfl h hM.1, hM.2.1.moved (by rw [h]; exact Vm.Alike.refl U.vm), hM.2.2.1.moved (by rw [h]; exact Vm.Alike.refl U.vm), hM.2.2.2.1.moved (by rw [h]; exact Vm.Alike.refl U.vm), fun w hw => ?_⟩
  have h1 := hM.2.2.2.2 w hw
  simp only [wsNest, List.mem_cons, List.not_mem_nil, or_false] at hw
  rcases hw with rfl | rfl
  · exact va_Nw.same rfl h h1
  · exact va_Nw.same rfl h h1
def CxL (P : Pm) : Prop := match P with
  | (_, _, _, s, _, _, _, _, _, _, _) => StrL s
theorem arrV_c (cA : ClassId) (N : Nat) {f f' : Nat → Value} (h : ∀ j, j < N → f j = f' j) : arrV cA N f = arrV cA N f' := by
  unfold arrV
  congr 2
  funext j
  exact h j.1 j.2
theorem wr_rwr (g : MG) (k j : Nat) (x : Int32) : wr g k j x = rwr g k (upd (g k) j x) := by
  funext q
  by_cases hq : q = k
  · subst hq; rw [wr_own, rwr_same]
  · rw [wr_row _ _ _ _ hq, rwr_ne _ _ _ hq]
theorem fW_nI {ad : Nat → Nat} {k : Nat} (h : 600 ≤ k ∧ k < 1200) : fW ad (nI k) = some (ad k) := by
  unfold fW
  rw [iz_nI (by omega), if_neg (by omega)]
/-- a row of a kind and a length, empty -/
def rN (kd : Int32) (n : Nat) : Nat → Int32 := fun j => if j = 100000 then kd else if j = 100001 then nI n else 0
theorem rN_k (kd : Int32) (n : Nat) : rN kd n 100000 = kd := rfl
theorem rN_l (kd : Int32) (n : Nat) : rN kd n 100001 = nI n := rfl
theorem rN_0 (kd : Int32) (n : Nat) {j : Nat} (h : j < 100000) : rN kd n j = 0 := by
  unfold rN
  rw [if_neg (by omega), if_neg (by omega)]
def psF (ad : Nat → Nat) (r : Nat → Int32) : List Value := [.int (r 0), .int (r 1), va_rf (fW ad (r 2)), .int (r 3), .int (r 4), va_rf (fW ad (r 5)), va_rf (fW ad (r 6)), va_rf (fW ad (r 7))]
def smF (ad : Nat → Nat) (r : Nat → Int32) : List Value := [.int (r 0), .int (r 1), va_rf (fW ad (r 2)), va_rf (fW ad (r 3)), va_rf (fW ad (r 4)), va_rf (fW ad (r 5)), va_rf (fW ad (r 6))]
theorem cW_1 {Y : Yc} {ad : Nat → Nat} {r : Nat → Int32} {n : Nat} (h : r 100000 = 1) (h2 : r 100001 = nI n) (hn : n < 2147483648) : cW Y ad r = some (.inl (Y.1, n, .inl r)) := by
  unfold cW
  rw [if_pos h, h2, iz_nI hn]
theorem cW_2 {Y : Yc} {ad : Nat → Nat} {r : Nat → Int32} {n : Nat} (h : r 100000 = 2) (h2 : r 100001 = nI n) (hn : n < 2147483648) : cW Y ad r = some (.inl (Y.2.2.1, n, .inr (.inr (.inr (.inr (fun j => fW ad (r j))))))) := by
  unfold cW
  rw [if_neg (by rw [h]; decide), if_pos h, h2, iz_nI hn]
theorem cW_3 {Y : Yc} {ad : Nat → Nat} {r : Nat → Int32} {n : Nat} (h : r 100000 = 3) (h2 : r 100001 = nI n) (hn : n < 2147483648) : cW Y ad r = some (.inl (Y.2.2.2.1, n, .inr (.inr (.inr (.inr (fun j => fW ad (r j))))))) := by
  unfold cW
  rw [if_neg (by rw [h]; decide), if_neg (by rw [h]; decide), if_pos h, h2, iz_nI hn]
theorem cW_4 {Y : Yc} {ad : Nat → Nat} {r : Nat → Int32} {n : Nat} (h : r 100000 = 4) (h2 : r 100001 = nI n) (hn : n < 2147483648) : cW Y ad r = some (.inl (Y.2.2.2.2.1, n, .inr (.inr (.inr (.inr (fun j => fW ad (r j))))))) := by
  unfold cW
  rw [if_neg (by rw [h]; decide), if_neg (by rw [h]; decide), if_neg (by rw [h]; decide), if_pos h, h2, iz_nI hn]
theorem cW_5 {Y : Yc} {ad : Nat → Nat} {r : Nat → Int32} (h : r 100000 = 5) : cW Y ad r = some (.inr (5, psF ad r)) := by
  unfold cW
  rw [if_neg (by rw [h]; decide), if_neg (by rw [h]; decide), if_neg (by rw [h]; decide), if_neg (by rw [h]; decide), if_pos h]
  rfl
theorem cW_6 {Y : Yc} {ad : Nat → Nat} {r : Nat → Int32} (h : r 100000 = 6) : cW Y ad r = some (.inr (6, smF ad r)) := by
  unfold cW
  rw [if_neg (by rw [h]; decide), if_neg (by rw [h]; decide), if_neg (by rw [h]; decide), if_neg (by rw [h]; decide), if_neg (by rw [h]; decide), if_pos h]
  rfl
theorem cW_7 {Y : Yc} {ad : Nat → Nat} {r : Nat → Int32} {n : Nat} (h : r 100000 = 7) (h2 : r 100001 = nI n) (hn : n < 2147483648) : cW Y ad r = some (.inl (Y.2.2.2.2.2.1, n, .inl r)) := by
  unfold cW
  rw [if_neg (by rw [h]; decide), if_neg (by rw [h]; decide), if_neg (by rw [h]; decide), if_neg (by rw [h]; decide), if_neg (by rw [h]; decide), if_neg (by rw [h]; decide), if_pos h, h2, iz_nI hn]
def sbF (ad : Nat → Nat) (r : Nat → Int32) : List Value := [va_rf (fW ad (r 0)), .int (r 1), .int (r 2), .int (r 3)]
theorem cW_8 {Y : Yc} {ad : Nat → Nat} {r : Nat → Int32} (h : r 100000 = 8) : cW Y ad r = some (.inr (7, sbF ad r)) := by
  unfold cW
  rw [if_neg (by rw [h]; decide), if_neg (by rw [h]; decide), if_neg (by rw [h]; decide), if_neg (by rw [h]; decide), if_neg (by rw [h]; decide), if_neg (by rw [h]; decide), if_neg (by rw [h]; decide), if_pos h]
  rfl
theorem cW_9 {Y : Yc} {ad : Nat → Nat} {r : Nat → Int32} (h : r 100000 = 9) : cW Y ad r = some (.inr (8, sbF ad r)) := by
  unfold cW
  rw [if_neg (by rw [h]; decide), if_neg (by rw [h]; decide), if_neg (by rw [h]; decide), if_neg (by rw [h]; decide), if_neg (by rw [h]; decide), if_neg (by rw [h]; decide), if_neg (by rw [h]; decide), if_neg (by rw [h]; decide), if_pos h]
  rfl
section LR
variable {P : Pm} {R : Room} {Z : Zc} {cc : ByteArray} {own : String} {lo : Lo} {pc : Nat} {rest st : List Value} {g : MG} {cs sl : Nat} {ad : Nat → Nat} {m : MG} {T : Nat}
theorem l_cx {k : Nat} {e : va_E} (hk : 600 ≤ k ∧ k < 1200) (h : cW Z.Y ad (m k) = some e) : cx (Z.wl ad m).Y ad (Z.wl ad m).df g k = some e := (cx_law hk).trans h
theorem l_at {k : Nat} {e : va_E} {H : Heap} (hw : HwZ (Z.wl ad m) g H) (hk : 600 ≤ k ∧ k < 1200) (h : cW Z.Y ad (m k) = some e) : va_at Z.D vwCl (ad k, e) H ∧ Z.z ≤ ad k := hw.1 k e (l_cx hk h)
theorem l_iald (C : Cx P Z cc own) {k n a : Nat} (hk : 600 ≤ k ∧ k < 1200) (h1 : m k 100000 = 1) (h2 : m k 100001 = nI n) (ha : a < n ∧ n < 1000) (hdg : decode cc pc = .ok (.iaload, 1)) (kk : V P R (Z.wl ad m) lo (pc + 1) (.int (m k a) :: rest) g cs sl) : V P R (Z.wl ad m) lo pc (.int (nI a) :: .ref (ad k) :: rest) g cs sl := by
  obtain ⟨p, l, e, s, mm, args, below, meth, c, Q, nL⟩ := P
  intro ls H locs hl hw hS
  have hP : va_P Z.D vwCl [(ad k, .inl (Z.Y.1, n, .inl (m k)))] H := by
    intro i q hq
    rcases List.mem_singleton.mp (List.mem_of_getElem? hq) with rfl
    exact (l_at hw hk (cW_1 h1 h2 (by omega))).1
  have ea : (nI a).toNatClampNeg = a := nI_clamp (by omega)
  exact va_iald (D := Z.D) C.1 C.2.1 C.2.2.2.2.2.1 hP 0 0 rfl rfl (vp_in_nI ha.1 (by omega)) hdg (by rw [ea]; exact kk ls H locs hl hw hS)
theorem l_iast (C : Cx P Z cc own) {k n a : Nat} {x : Int32} (hk : 600 ≤ k ∧ k < 1200) (h1 : m k 100000 = 1) (h2 : m k 100001 = nI n) (ha : a < n ∧ n < 1000) (hdg : decode cc pc = .ok (.iastore, 1)) (kk : V P R (Z.wl ad (wr m k a x)) lo (pc + 1) rest g cs sl) : V P R (Z.wl ad m) lo pc (.int x :: .int (nI a) :: .ref (ad k) :: rest) g cs sl := by
  obtain ⟨p, l, e, s, mm, args, below, meth, c, Q, nL⟩ := P
  intro ls H locs hl hw hS
  have h0 := l_at hw hk (cW_1 h1 h2 (by omega))
  have ea : (nI a).toNatClampNeg = a := nI_clamp (by omega)
  refine W.iast C.1 C.2.1 (a := ad k) h0.1 ((C.2.2.2.2.2.1.2 0 _ rfl).1 n (fun j => .int (m k j))) (fun q => by cases q) (by show ¬ (nI a < 0 ∨ (arrV _ _ _).slots.size ≤ _); rw [arrV_size]; exact vp_in_nI ha.1 (show n < 2147483648 by omega)) rfl rfl hdg fun H1 e z oq => ?_
  refine kk ls H1 _ hl ?_ (hS.put z oq h0.2)
  rw [wr_rwr]
  have u1 : upd (m k) a x 100000 = 1 := by rw [← h1]; exact if_neg (by omega)
  have u2 : upd (m k) a x 100001 = nI n := by rw [← h2]; exact if_neg (by omega)
  refine Hw_wrl (Z := Z.wl ad m) hw hk (cW_1 h1 h2 (by omega)) (cW_1 u1 u2 (by omega)) ?_ oq
  show H1[ad k]? = some (vp_cell _ _)
  rw [e, ea]
  rw [vp_cell_i, vp_cell_i, arrV_store]
  congr 2
  funext q
  by_cases hq : q = a
  · subst hq
    simp [updV, upd]
  · simp [updV, upd, hq]
theorem l_len (C : Cx P Z cc own) {k n : Nat} (hk : 600 ≤ k ∧ k < 1200) (h1 : m k 100000 = 1 ∨ m k 100000 = 2 ∨ m k 100000 = 3 ∨ m k 100000 = 4) (h2 : m k 100001 = nI n) (hn : n < 1000) (hdg : decode cc pc = .ok (.arraylength, 1)) (kk : V P R (Z.wl ad m) lo (pc + 1) (.int (nI n) :: rest) g cs sl) : V P R (Z.wl ad m) lo pc (.ref (ad k) :: rest) g cs sl := by
  obtain ⟨p, l, e, s, mm, args, below, meth, c, Q, nL⟩ := P
  intro ls H locs hl hw hS
  have hP : ∀ e : va_E, cW Z.Y ad (m k) = some e → va_P Z.D vwCl [(ad k, e)] H := by
    intro e he i q hq
    rcases List.mem_singleton.mp (List.mem_of_getElem? hq) with rfl
    exact (l_at hw hk he).1
  rcases h1 with h1 | h1 | h1 | h1
  · exact va_alen (D := Z.D) C.1 C.2.1 C.2.2.2.2.2.1 (hP _ (cW_1 h1 h2 (by omega))) 0 0 rfl rfl rfl hdg (kk ls H locs hl hw hS)
  · exact va_alen (D := Z.D) C.1 C.2.1 C.2.2.2.2.2.1 (hP _ (cW_2 h1 h2 (by omega))) 0 2 rfl rfl rfl hdg (kk ls H locs hl hw hS)
  · exact va_alen (D := Z.D) C.1 C.2.1 C.2.2.2.2.2.1 (hP _ (cW_3 h1 h2 (by omega))) 0 3 rfl rfl rfl hdg (kk ls H locs hl hw hS)
  · exact va_alen (D := Z.D) C.1 C.2.1 C.2.2.2.2.2.1 (hP _ (cW_4 h1 h2 (by omega))) 0 4 rfl rfl rfl hdg (kk ls H locs hl hw hS)
theorem l_aald (C : Cx P Z cc own) {k n a k2 : Nat} (hk : 600 ≤ k ∧ k < 1200) (h1 : m k 100000 = 2 ∨ m k 100000 = 3 ∨ m k 100000 = 4) (h2 : m k 100001 = nI n) (ha : a < n ∧ n < 1000) (hv : m k a = nI k2) (hk2 : 600 ≤ k2 ∧ k2 < 1200) (hdg : decode cc pc = .ok (.aaload, 1)) (kk : V P R (Z.wl ad m) lo (pc + 1) (.ref (ad k2) :: rest) g cs sl) : V P R (Z.wl ad m) lo pc (.int (nI a) :: .ref (ad k) :: rest) g cs sl := by
  obtain ⟨p, l, e, s, mm, args, below, meth, c, Q, nL⟩ := P
  intro ls H locs hl hw hS
  have ea : (nI a).toNatClampNeg = a := nI_clamp (by omega)
  have ev : va_rf (fW ad (m k a)) = .ref (ad k2) := by rw [hv, fW_nI hk2]; rfl
  rcases h1 with h1 | h1 | h1
  · exact W.aald (v := .ref (ad k2)) (ty := .array .int) C.1 C.2.1 (l_at hw hk (cW_2 h1 h2 (by omega))).1 ((C.2.2.2.2.2.1.2 2 _ rfl).1 n (fun j => va_rf (fW ad (m k j)))) rfl (fun q => by cases q) (by show ¬ (nI a < 0 ∨ (arrV _ _ _).slots.size ≤ _); rw [arrV_size]; exact vp_in_nI ha.1 (show n < 2147483648 by omega)) (by show (arrV _ _ _).slots[_]? = _; rw [ea, arrV_read _ _ ha.1, ev]) rfl rfl hdg (kk ls H locs hl hw hS)
  · exact W.aald (v := .ref (ad k2)) (ty := .array (.array .int)) C.1 C.2.1 (l_at hw hk (cW_3 h1 h2 (by omega))).1 ((C.2.2.2.2.2.1.2 3 _ rfl).1 n (fun j => va_rf (fW ad (m k j)))) rfl (fun q => by cases q) (by show ¬ (nI a < 0 ∨ (arrV _ _ _).slots.size ≤ _); rw [arrV_size]; exact vp_in_nI ha.1 (show n < 2147483648 by omega)) (by show (arrV _ _ _).slots[_]? = _; rw [ea, arrV_read _ _ ha.1, ev]) rfl rfl hdg (kk ls H locs hl hw hS)
  · exact W.aald (v := .ref (ad k2)) (ty := .object "PosterTypesLaw$Poster") C.1 C.2.1 (l_at hw hk (cW_4 h1 h2 (by omega))).1 ((C.2.2.2.2.2.1.2 4 _ rfl).1 n (fun j => va_rf (fW ad (m k j)))) rfl (fun q => by cases q) (by show ¬ (nI a < 0 ∨ (arrV _ _ _).slots.size ≤ _); rw [arrV_size]; exact vp_in_nI ha.1 (show n < 2147483648 by omega)) (by show (arrV _ _ _).slots[_]? = _; rw [ea, arrV_read _ _ ha.1, ev]) rfl rfl hdg (kk ls H locs hl hw hS)
theorem asg_self (vm : Vm) (c : ClassId) : vm.assignable c c = true := by
  show vm.assignableAux (255 + 1) c c = true
  rw [Vm.assignableAux]
  simp
/-- a row of numbers is stored in a row of such -/
theorem l_aast (C : Cx P Z cc own) (hL : CxL P) {k n a k2 n2 : Nat} (hk : 600 ≤ k ∧ k < 1200) (h1 : m k 100000 = 2) (h2 : m k 100001 = nI n) (ha : a < n ∧ n < 1000) (hk2 : 600 ≤ k2 ∧ k2 < 1200) (h3 : m k2 100000 = 1) (h4 : m k2 100001 = nI n2) (hn2 : n2 < 1000) (hdg : decode cc pc = .ok (.aastore, 1)) (kk : V P R (Z.wl ad (wr m k a (nI k2))) lo (pc + 1) rest g cs sl) : V P R (Z.wl ad m) lo pc (.ref (ad k2) :: .int (nI a) :: .ref (ad k) :: rest) g cs sl := by
  obtain ⟨p, l, e, s, mm, args, below, meth, c, Q, nL⟩ := P
  intro ls H locs hl hw hS
  have h0 := l_at hw hk (cW_2 h1 h2 (by omega))
  have h9 := l_at hw hk2 (cW_1 h3 h4 (by omega))
  have ea : (nI a).toNatClampNeg = a := nI_clamp (by omega)
  obtain ⟨comp, c0, k0, f1, -, f3, f4, f5⟩ := arrayOverA_spec hL.2.2.1
  have e1 : s.vm.findClass ("[" ++ FieldType.int.toString) = some Z.Y.1 := (C.2.2.2.2.2.1.2 0 _ rfl).2
  have e2 : s.vm.findClass ("[" ++ (FieldType.array .int).toString) = some Z.Y.2.2.1 := (C.2.2.2.2.2.1.2 2 _ rfl).2
  have ec : comp = Z.Y.1 := Option.some.inj (f1.symm.trans (show s.vm.findClass (FieldType.array .int).toString = some Z.Y.1 from e1))
  have ec0 : c0 = Z.Y.2.2.1 := Option.some.inj (f5.symm.trans e2)
  subst ec; subst ec0
  obtain ⟨-, kS, hkS, -⟩ := (C.2.2.2.2.2.1.2 0 _ rfl).1 0 (fun _ => .null)
  have hkS : s.vm.classes[Z.Y.1]? = some kS := hkS
  refine W.aast C.1 C.2.1 (a := ad k) h0.1 (fun q h => by cases h) (fun h => by cases h) f3 f4 rfl hkS ⟨nI_pos (by omega), by show _ < (arrV _ _ _).slots.size; rw [arrV_size, ea]; exact ha.1⟩ (v := ad k2) h9.1 (fun q h => by cases h) hkS (asg_self _ _) rfl rfl hdg fun H1 e z oq => ?_
  refine kk ls H1 _ hl ?_ (hS.put z oq h0.2)
  rw [wr_rwr]
  have u1 : upd (m k) a (nI k2) 100000 = 2 := by rw [← h1]; exact if_neg (by omega)
  have u2 : upd (m k) a (nI k2) 100001 = nI n := by rw [← h2]; exact if_neg (by omega)
  refine Hw_wrl (Z := Z.wl ad m) hw hk (cW_2 h1 h2 (by omega)) (cW_2 u1 u2 (by omega)) ?_ oq
  show H1[ad k]? = some (vp_cell _ _)
  rw [e, ea]
  rw [vp_cell_q, vp_cell_q, arrV_store]
  congr 2
  funext q
  by_cases hq : q = a
  · subst hq
    simp [updV, upd, fW_nI hk2, va_rf]
    rfl
  · simp [updV, upd, hq]
    rfl
/-- a poster is stored in a row of posters -/
theorem l_aastP (C : Cx P Z cc own) {k n a k2 : Nat} (hk : 600 ≤ k ∧ k < 1200) (h1 : m k 100000 = 4) (h2 : m k 100001 = nI n) (ha : a < n ∧ n < 1000) (hk2 : 600 ≤ k2 ∧ k2 < 1200) (h3 : m k2 100000 = 5) (hdg : decode cc pc = .ok (.aastore, 1)) (kk : V P R (Z.wl ad (wr m k a (nI k2))) lo (pc + 1) rest g cs sl) : V P R (Z.wl ad m) lo pc (.ref (ad k2) :: .int (nI a) :: .ref (ad k) :: rest) g cs sl := by
  obtain ⟨p, l, e, s, mm, args, below, meth, c, Q, nL⟩ := P
  intro ls H locs hl hw hS
  have h0 := l_at hw hk (cW_4 h1 h2 (by omega))
  obtain ⟨⟨r, g0, cellV, g1, g2, g3, -⟩, -⟩ := l_at hw hk2 (cW_5 h3)
  have ea : (nI a).toNatClampNeg = a := nI_clamp (by omega)
  have hcls := (C.2.2.2.2.2.1.1 5 _ rfl).2
  obtain ⟨kA, comp, k1, k2', k3, -⟩ := (C.2.2.2.2.2.1.2 4 _ rfl).2
  have hcomp : comp = Z.D.1 5 := Option.some.inj (k3.symm.trans hcls.1)
  subst hcomp
  obtain ⟨kC, hkC, -⟩ := hcls.2
  refine W.aast C.1 C.2.1 (a := ad k) h0.1 (fun q h => by cases h) (fun h => by cases h) k1 k2' rfl hkC ⟨nI_pos (by omega), by show _ < (arrV _ _ _).slots.size; rw [arrV_size, ea]; exact ha.1⟩ (v := ad k2) g1 (fun q h => by rw [g3] at h; cases h) (by rw [g2]; exact hkC) (by rw [g2]; exact asg_self _ _) rfl rfl hdg fun H1 e z oq => ?_
  refine kk ls H1 _ hl ?_ (hS.put z oq h0.2)
  rw [wr_rwr]
  have u1 : upd (m k) a (nI k2) 100000 = 4 := by rw [← h1]; exact if_neg (by omega)
  have u2 : upd (m k) a (nI k2) 100001 = nI n := by rw [← h2]; exact if_neg (by omega)
  refine Hw_wrl (Z := Z.wl ad m) hw hk (cW_4 h1 h2 (by omega)) (cW_4 u1 u2 (by omega)) ?_ oq
  show H1[ad k]? = some (vp_cell _ _)
  rw [e, ea]
  rw [vp_cell_q, vp_cell_q, arrV_store]
  congr 2
  funext q
  by_cases hq : q = a
  · subst hq
    simp [updV, upd, fW_nI hk2, va_rf]
    rfl
  · simp [updV, upd, hq]
    rfl
end LR
