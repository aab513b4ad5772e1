/-! THE JDK'S TEXTS: members that are inherited; the empty text; bytes are copied -/
theorem j_selP {Cn : String} {y : MethodName} {s : State} {args : Array Value} {n : Nat} (hy : y.cls ≠ "java/lang/invoke/MethodHandle" ∧ y.cls ≠ "java/lang/invoke/VarHandle") (hins : (Cond.instantiable Cn n).before args s = true) (hpriv : (Cond.privateMethod y).before args s = true) (hinst : (Cond.instanceMethod y).before args s = true) (hsame : (Cond.sameMethod y.cls y.cls y.name y.desc).before args s = true) : (Cond.selects Cn y y).before args s = true := by
  obtain ⟨c, k, hc, hk, -, hniab, -, -⟩ := Cond.instantiable_spec hins
  have hni : k.isInterface = false := (Bool.or_eq_false_iff.mp hniab).1
  obtain ⟨mk, methM, hnamed, hmethM, -, -⟩ := Cond.instanceMethod_spec hinst
  have hfound : s.methodFound? y.cls y.name y.desc = some mk := State.methodFound?_of_named hnamed hy
  have hsel : selectMethod {} s.vm c mk = .method mk := selectMethod_private hmethM (Cond.privateMethod_at hpriv mk methM hnamed hmethM)
  have hcm := findClass_of_methodNamed hnamed
  simp only [Cond.before, Cond.holds, Cond.value, hc, hfound, hnamed, hsel, hk]
  simp
  obtain ⟨cn, ck, r1, hcn, hck, hni1, -, -⟩ := Cond.sameMethod_found hsame
  have e1 : cn = mk.cls := Option.some.inj (hcn.symm.trans hcm)
  rw [← e1, hck]
  show (!ck.isInterface) = true
  rw [hni1]
  rfl
theorem j_cu {own Cn : String} {idx maxL n m0 : Nat} {x y : MethodName} {cc' b0 : ByteArray} {ret r0 : Option FieldType} {rm' R : Room} {s : State} {args : Array Value} (hts : ∀ w ∈ wsG, w.before args s = true) (hl : Cond.methodLink own idx x ∈ wsG) (hs : Cond.sameMethod x.cls x.cls x.name x.desc ∈ wsG) (hdx : Cond.instanceMethod x ∈ wsG) (h0 : Cond.code x b0 m0 r0 ∈ wsG) (hsel : (Cond.selects Cn x y).before args s = true) (hi : Cond.instanceMethod y ∈ wsG) (hini : Cond.initialized y.cls ∈ wsG) (hc : Cond.code y cc' maxL ret ∈ wsG) (hd : x.cls ≠ "java/lang/invoke/MethodHandle" ∧ x.cls ≠ "java/lang/invoke/VarHandle" ∧ (parseMethodDescriptor x.desc).map (fun d => d.parameters.length) = some n) (hR : rm'.frames + 1 ≤ R.frames ∧ 8 + (maxL + 11) + rm'.locals ≤ R.locals) : va_CU R s args own Cn x.cls idx x y cc' maxL ret (wz y cc' maxL ret) rm' rm'.cells rm'.slots n := by
  have hG := gi (own := own) (idx := idx) hc
  refine ⟨⟨rfl, rfl, hR.1, hR.2, pay_in hts hG, List.mem_cons_self⟩, hts _ hc, hts _ hini, ⟨hd.1, hd.2.1⟩, fun sig h => ?_, hts _ hl, hts _ hs, va_Decl.of (hts _ hdx) (hts _ h0), hsel, hts _ hi⟩
  have h2 := hd.2.2
  rw [h] at h2
  exact (Option.some.inj h2).symm
theorem j_csu {own : String} {idx maxL n : Nat} {y : MethodName} {cc' : ByteArray} {ret : Option FieldType} {rm' R : Room} {s : State} {args : Array Value} (hts : ∀ w ∈ wsG, w.before args s = true) (hl : Cond.methodLink own idx y ∈ wsG) (hs : Cond.sameMethod y.cls y.cls y.name y.desc ∈ wsG) (hsup : Cond.superclass own y.cls ∈ wsG) (hi : Cond.instanceMethod y ∈ wsG) (hini : Cond.initialized y.cls ∈ wsG) (hc : Cond.code y cc' maxL ret ∈ wsG) (hd : y.name ≠ "<init>" ∧ (parseMethodDescriptor y.desc).map (fun d => d.parameters.length) = some n) (hR : rm'.frames + 1 ≤ R.frames ∧ 8 + (maxL + 11) + rm'.locals ≤ R.locals) : va_CS R s args own idx y cc' maxL ret (wz y cc' maxL ret) rm' rm'.cells rm'.slots n := by
  have hG := gi (own := own) (idx := idx) hc
  refine ⟨⟨rfl, rfl, hR.1, hR.2, pay_in hts hG, List.mem_cons_self⟩, hts _ hl, hts _ hs, hts _ hsup, hts _ hi, hts _ hini, hts _ hc, hd.1, fun sig h => ?_⟩
  have h2 := hd.2
  rw [h] at h2
  exact (Option.some.inj h2).symm
/-- the words of the builder's own and inherited members -/
def CxB (P : Pm) : Prop := match P with
  | (_, _, _, s, _, _, _, _, _, _, _) => ∀ w ∈ wsSel, va_Nw w s
theorem CxW.B {P : Pm} {Z : Zc} (h : CxW P Z) : CxB P := by
  obtain ⟨p, l, e, s, mm, args, below, meth, c, Q, nL⟩ := P
  have h : StrA s ∧ StrL s ∧ StaL Z.2.2.2.2 s s.heap := h
  obtain ⟨b, -, -, -, -, -, h1⟩ := h.2.2.2.2.2.2
  exact h1
theorem wsSel_any {w : Cond} (hw : w ∈ wsSel) {args : Array Value} {s : State} (h : va_Nw w s) : w.before args s = true := by
  simp only [wsSel, List.mem_cons, List.not_mem_nil, or_false] at hw
  rcases hw with rfl | rfl | rfl <;> exact va_tabs rfl rfl h
section LJ10
variable {P : Pm} {R : Room} {Z : Zc} {cc : ByteArray} {own : String} {lo : Lo} {pc : Nat} {rest st : List Value} {g : MG} {cs sl : Nat} {ad : Nat → Nat} {m : MG} {T : Nat}
theorem j_callUi (C : Cx P Z cc own) (hW9 : CxW P Z) {y x : MethodName} {cc' : ByteArray} {maxL idx n k ci N : Nat} {ret : Option FieldType} {rm' : Room} {as : List Value} {post : Int32 → (Nat → Nat) → MG → MG → Prop} {Cn : String} {T : u_T} {fs : List Value} (hM : LMi P.2.1 y cc' maxL ret rm' Z (.ref (ad k) :: as) ad m g post) (hcu : ∀ (s : State) (args : Array Value), (∀ w ∈ wsG, w.before args s = true) → (∀ w ∈ wsSel, w.before args s = true) → va_CU R s args own Cn x.cls idx x y cc' maxL ret (wz y cc' maxL ret) rm' rm'.cells rm'.slots n) (hc : vwCl[ci]? = some (Cn, T, N)) (hk9 : 600 ≤ k ∧ k < 1200) (hk : cW Z.Y ad (m k) = some (.inr (ci, fs))) (hn : as.length = n) (hst : st = as.reverse ++ .ref (ad k) :: rest) (hr : (rest.map fun v => v.category).sum ≤ 8) (hdg : decode cc pc = .ok (.invokevirtual idx, 3)) (hf : cs + rm'.cells ≤ R.cells ∧ sl + rm'.slots ≤ R.slots)
    (kk : ∀ (r : Int32) (ad' : Nat → Nat) (m' g' : MG), post r ad' m' g' → V P R (Z.wl ad' m') lo (pc + 3) (.int r :: rest) g' (cs + rm'.cells) (sl + rm'.slots)) : V P R (Z.wl ad m) lo pc st g cs sl := by
  obtain ⟨p, l, e, s, mm, args, below, meth, c, Q, nL⟩ := P
  subst hst
  intro ls H locs hl hw hS
  have hP : va_P Z.D vwCl [(ad k, .inr (ci, fs))] H := by
    intro i q hq
    rcases List.mem_singleton.mp (List.mem_of_getElem? hq) with rfl
    exact (l_at hw hk9 hk).1
  refine va_calli (va_runU (As := as) (rest := rest) ⟨C.1, C.2.1, C.2.2.1, C.2.2.2.1, C.2.2.2.2.1⟩ hM (hcu s args C.2.2.2.2.1 (fun w hw => wsSel_any hw (CxW.B (P := (p, l, e, s, mm, args, below, meth, c, Q, nL)) hW9 w hw))) ⟨WL_fb, va_recv C.2.2.2.2.2.1 hP hc (q0 := 0) rfl, fun U hU hW => ⟨rfl, Wd_of (Z := Z.wl ad m) hw C.2.2.2.2.2.1 C.2.2.2.2.2.2.1 C.2.2.2.2.2.2.2.2 hS hU hW.alike, StrA.warm hW hW9.1, StrL.warm hW hW9.2.1, by rw [hU]; exact (hW9.2.2.kept hS.2.1).warm hW⟩⟩ rfl hn hl.2.1 rfl (lv_room hr) hdg hf) hS (fun _ _ h => h) (fun _ h => h) (fun r u t H1 locs1 ht hvm hp hB hz1 hk1 hS1 => ?_)
  refine kk r u.1 u.2.1 u.2.2 hp ls H1 locs1 hl ?_ hS1
  rw [← ht]; exact hB.1
theorem j_callSUi (C : Cx P Z cc own) (hW9 : CxW P Z) {y : MethodName} {cc' : ByteArray} {maxL idx n k ci N : Nat} {ret : Option FieldType} {rm' : Room} {as : List Value} {post : Int32 → (Nat → Nat) → MG → MG → Prop} {Cn : String} {T : u_T} {fs : List Value} (hM : LMi P.2.1 y cc' maxL ret rm' Z (.ref (ad k) :: as) ad m g post) (hcu : ∀ (s : State) (args : Array Value), (∀ w ∈ wsG, w.before args s = true) → va_CS R s args own idx y cc' maxL ret (wz y cc' maxL ret) rm' rm'.cells rm'.slots n) (hc : vwCl[ci]? = some (Cn, T, N)) (hk9 : 600 ≤ k ∧ k < 1200) (hk : cW Z.Y ad (m k) = some (.inr (ci, fs))) (hn : as.length = n) (hst : st = as.reverse ++ .ref (ad k) :: rest) (hr : (rest.map fun v => v.category).sum ≤ 8) (hdg : decode cc pc = .ok (.invokespecial idx, 3)) (hf : cs + rm'.cells ≤ R.cells ∧ sl + rm'.slots ≤ R.slots)
    (kk : ∀ (r : Int32) (ad' : Nat → Nat) (m' g' : MG), post r ad' m' g' → V P R (Z.wl ad' m') lo (pc + 3) (.int r :: rest) g' (cs + rm'.cells) (sl + rm'.slots)) : V P R (Z.wl ad m) lo pc st g cs sl := by
  obtain ⟨p, l, e, s, mm, args, below, meth, c, Q, nL⟩ := P
  subst hst
  intro ls H locs hl hw hS
  have hP : va_P Z.D vwCl [(ad k, .inr (ci, fs))] H := by
    intro i q hq
    rcases List.mem_singleton.mp (List.mem_of_getElem? hq) with rfl
    exact (l_at hw hk9 hk).1
  refine va_calli (va_runSU (C := Cn) (As := as) (rest := rest) (C.2.2.2.2.2.1.1 ci _ hc).2 ⟨C.1, C.2.1, C.2.2.1, C.2.2.2.1, C.2.2.2.2.1⟩ hM (hcu s args C.2.2.2.2.1) ⟨WL_fb, va_recv C.2.2.2.2.2.1 hP hc (q0 := 0) rfl, fun U hU hW => ⟨rfl, Wd_of (Z := Z.wl ad m) hw C.2.2.2.2.2.1 C.2.2.2.2.2.2.1 C.2.2.2.2.2.2.2.2 hS hU hW.alike, StrA.warm hW hW9.1, StrL.warm hW hW9.2.1, by rw [hU]; exact (hW9.2.2.kept hS.2.1).warm hW⟩⟩ rfl hn hl.2.1 rfl (lv_room hr) hdg hf) hS (fun _ _ h => h) (fun _ h => h) (fun r u t H1 locs1 ht hvm hp hB hz1 hk1 hS1 => ?_)
  refine kk r u.1 u.2.1 u.2.2 hp ls H1 locs1 hl ?_ hS1
  rw [← ht]; exact hB.1
theorem j_callEi (C : Cx P Z cc own) (hW9 : CxW P Z) {y : MethodName} {cc' : ByteArray} {maxL idx n : Nat} {ret : Option FieldType} {rm' : Room} {as : List Value} {post : Int32 → (Nat → Nat) → MG → MG → Prop} (hM : LMi P.2.1 y cc' maxL ret rm' Z (.ref Z.e :: as) ad m g post) (hG : GoodIn wsG (wsV own idx "java/lang/String" y (wz y cc' maxL ret)))
    (hd : y.cls = "java/lang/String" ∧ y.cls ≠ "java/lang/invoke/MethodHandle" ∧ y.cls ≠ "java/lang/invoke/VarHandle" ∧ (parseMethodDescriptor y.desc).map (fun d => d.parameters.length) = some n) (hR : rm'.frames + 1 ≤ R.frames ∧ 8 + (maxL + 11) + rm'.locals ≤ R.locals) (hn : as.length = n) (hst : st = as.reverse ++ .ref Z.e :: rest) (hr : (rest.map fun v => v.category).sum ≤ 8) (hdg : decode cc pc = .ok (.invokevirtual idx, 3)) (hf : cs + rm'.cells ≤ R.cells ∧ sl + rm'.slots ≤ R.slots)
    (kk : ∀ (r : Int32) (ad' : Nat → Nat) (m' g' : MG), post r ad' m' g' → V P R (Z.wl ad' m') lo (pc + 3) (.int r :: rest) g' (cs + rm'.cells) (sl + rm'.slots)) : V P R (Z.wl ad m) lo pc st g cs sl := by
  obtain ⟨p, l, e, s, mm, args, below, meth, c, Q, nL⟩ := P
  subst hst
  intro ls H locs hl hw hS
  have hrec : ∃ cell : Cell, H[Z.e]? = some cell ∧ cell.vm.isStatics = false ∧ s.vm.findClass "java/lang/String" = some cell.cls := by
    have hW9 : StrA s ∧ StrL s ∧ StaL Z.2.2.2.2 s s.heap := hW9
    obtain ⟨b, -, hO, -⟩ := hW9.2.2.2.2.2.2
    obtain ⟨cell, h1, h2, h3, -⟩ := hO.kept hS.2.1
    exact ⟨cell, h1, h2, h3⟩
  refine va_calli (va_runV (As := as) (rest := rest) ⟨C.1, C.2.1, C.2.2.1, C.2.2.2.1, C.2.2.2.2.1⟩ hM (cwV n C.2.2.2.2.1 hG rfl rfl rfl hd hR) ⟨WL_fb, hrec, fun U hU hW => ⟨rfl, Wd_of (Z := Z.wl ad m) hw C.2.2.2.2.2.1 C.2.2.2.2.2.2.1 C.2.2.2.2.2.2.2.2 hS hU hW.alike, StrA.warm hW hW9.1, StrL.warm hW hW9.2.1, by rw [hU]; exact (hW9.2.2.kept hS.2.1).warm hW⟩⟩ rfl hn hl.2.1 rfl (lv_room hr) hdg hf) hS (fun _ _ h => h) (fun _ h => h) (fun r u t H1 locs1 ht hvm hp hB hz1 hk1 hS1 => ?_)
  refine kk r u.1 u.2.1 u.2.2 hp ls H1 locs1 hl ?_ hS1
  rw [← ht]; exact hB.1
theorem j_callUq (C : Cx P Z cc own) (hW9 : CxW P Z) {y x : MethodName} {cc' : ByteArray} {maxL idx n k ci N : Nat} {ret : Option FieldType} {rm' : Room} {as : List Value} {post : Option Nat → (Nat → Nat) → MG → MG → Prop} {Cn : String} {T : u_T} {fs : List Value} (hM : LMq P.2.1 y cc' maxL ret rm' Z (.ref (ad k) :: as) ad m g post) (hcu : ∀ (s : State) (args : Array Value), (∀ w ∈ wsG, w.before args s = true) → (∀ w ∈ wsSel, w.before args s = true) → va_CU R s args own Cn x.cls idx x y cc' maxL ret (wz y cc' maxL ret) rm' rm'.cells rm'.slots n) (hc : vwCl[ci]? = some (Cn, T, N)) (hk9 : 600 ≤ k ∧ k < 1200) (hk : cW Z.Y ad (m k) = some (.inr (ci, fs))) (hn : as.length = n) (hst : st = as.reverse ++ .ref (ad k) :: rest) (hr : (rest.map fun v => v.category).sum ≤ 8) (hdg : decode cc pc = .ok (.invokevirtual idx, 3)) (hf : cs + rm'.cells ≤ R.cells ∧ sl + rm'.slots ≤ R.slots)
    (kk : ∀ (r : Option Nat) (ad' : Nat → Nat) (m' g' : MG), post r ad' m' g' → V P R (Z.wl ad' m') lo (pc + 3) (va_rf r :: rest) g' (cs + rm'.cells) (sl + rm'.slots)) : V P R (Z.wl ad m) lo pc st g cs sl := by
  obtain ⟨p, l, e, s, mm, args, below, meth, c, Q, nL⟩ := P
  subst hst
  intro ls H locs hl hw hS
  have hP : va_P Z.D vwCl [(ad k, .inr (ci, fs))] H := by
    intro i q hq
    rcases List.mem_singleton.mp (List.mem_of_getElem? hq) with rfl
    exact (l_at hw hk9 hk).1
  refine va_callq (va_runU (As := as) (rest := rest) ⟨C.1, C.2.1, C.2.2.1, C.2.2.2.1, C.2.2.2.2.1⟩ hM (hcu s args C.2.2.2.2.1 (fun w hw => wsSel_any hw (CxW.B (P := (p, l, e, s, mm, args, below, meth, c, Q, nL)) hW9 w hw))) ⟨WL_fb, va_recv C.2.2.2.2.2.1 hP hc (q0 := 0) rfl, fun U hU hW => ⟨rfl, Wd_of (Z := Z.wl ad m) hw C.2.2.2.2.2.1 C.2.2.2.2.2.2.1 C.2.2.2.2.2.2.2.2 hS hU hW.alike, StrA.warm hW hW9.1, StrL.warm hW hW9.2.1, by rw [hU]; exact (hW9.2.2.kept hS.2.1).warm hW⟩⟩ rfl hn hl.2.1 rfl (lv_room hr) hdg hf) hS (fun _ _ h => h) (fun _ h => h) (fun r u t H1 locs1 ht hvm hp hB hz1 hk1 hS1 => ?_)
  refine kk r u.1 u.2.1 u.2.2 hp ls H1 locs1 hl ?_ hS1
  rw [← ht]; exact hB.1
theorem j_callSUq (C : Cx P Z cc own) (hW9 : CxW P Z) {y : MethodName} {cc' : ByteArray} {maxL idx n k ci N : Nat} {ret : Option FieldType} {rm' : Room} {as : List Value} {post : Option Nat → (Nat → Nat) → MG → MG → Prop} {Cn : String} {T : u_T} {fs : List Value} (hM : LMq P.2.1 y cc' maxL ret rm' Z (.ref (ad k) :: as) ad m g post) (hcu : ∀ (s : State) (args : Array Value), (∀ w ∈ wsG, w.before args s = true) → va_CS R s args own idx y cc' maxL ret (wz y cc' maxL ret) rm' rm'.cells rm'.slots n) (hc : vwCl[ci]? = some (Cn, T, N)) (hk9 : 600 ≤ k ∧ k < 1200) (hk : cW Z.Y ad (m k) = some (.inr (ci, fs))) (hn : as.length = n) (hst : st = as.reverse ++ .ref (ad k) :: rest) (hr : (rest.map fun v => v.category).sum ≤ 8) (hdg : decode cc pc = .ok (.invokespecial idx, 3)) (hf : cs + rm'.cells ≤ R.cells ∧ sl + rm'.slots ≤ R.slots)
    (kk : ∀ (r : Option Nat) (ad' : Nat → Nat) (m' g' : MG), post r ad' m' g' → V P R (Z.wl ad' m') lo (pc + 3) (va_rf r :: rest) g' (cs + rm'.cells) (sl + rm'.slots)) : V P R (Z.wl ad m) lo pc st g cs sl := by
  obtain ⟨p, l, e, s, mm, args, below, meth, c, Q, nL⟩ := P
  subst hst
  intro ls H locs hl hw hS
  have hP : va_P Z.D vwCl [(ad k, .inr (ci, fs))] H := by
    intro i q hq
    rcases List.mem_singleton.mp (List.mem_of_getElem? hq) with rfl
    exact (l_at hw hk9 hk).1
  refine va_callq (va_runSU (C := Cn) (As := as) (rest := rest) (C.2.2.2.2.2.1.1 ci _ hc).2 ⟨C.1, C.2.1, C.2.2.1, C.2.2.2.1, C.2.2.2.2.1⟩ hM (hcu s args C.2.2.2.2.1) ⟨WL_fb, va_recv C.2.2.2.2.2.1 hP hc (q0 := 0) rfl, fun U hU hW => ⟨rfl, Wd_of (Z := Z.wl ad m) hw C.2.2.2.2.2.1 C.2.2.2.2.2.2.1 C.2.2.2.2.2.2.2.2 hS hU hW.alike, StrA.warm hW hW9.1, StrL.warm hW hW9.2.1, by rw [hU]; exact (hW9.2.2.kept hS.2.1).warm hW⟩⟩ rfl hn hl.2.1 rfl (lv_room hr) hdg hf) hS (fun _ _ h => h) (fun _ h => h) (fun r u t H1 locs1 ht hvm hp hB hz1 hk1 hS1 => ?_)
  refine kk r u.1 u.2.1 u.2.2 hp ls H1 locs1 hl ?_ hS1
  rw [← ht]; exact hB.1
theorem j_callUv (C : Cx P Z cc own) (hW9 : CxW P Z) {y x : MethodName} {cc' : ByteArray} {maxL idx n k ci N : Nat} {rm' : Room} {as : List Value} {post : (Nat → Nat) → MG → MG → Prop} {Cn : String} {T : u_T} {fs : List Value} (hM : LMv P.2.1 y cc' maxL rm' Z (.ref (ad k) :: as) ad m g post) (hcu : ∀ (s : State) (args : Array Value), (∀ w ∈ wsG, w.before args s = true) → (∀ w ∈ wsSel, w.before args s = true) → va_CU R s args own Cn x.cls idx x y cc' maxL none (wz y cc' maxL none) rm' rm'.cells rm'.slots n) (hc : vwCl[ci]? = some (Cn, T, N)) (hk9 : 600 ≤ k ∧ k < 1200) (hk : cW Z.Y ad (m k) = some (.inr (ci, fs))) (hn : as.length = n) (hst : st = as.reverse ++ .ref (ad k) :: rest) (hr : (rest.map fun v => v.category).sum ≤ 8) (hdg : decode cc pc = .ok (.invokevirtual idx, 3)) (hf : cs + rm'.cells ≤ R.cells ∧ sl + rm'.slots ≤ R.slots)
    (kk : ∀ (ad' : Nat → Nat) (m' g' : MG), post ad' m' g' → V P R (Z.wl ad' m') lo (pc + 3) (rest) g' (cs + rm'.cells) (sl + rm'.slots)) : V P R (Z.wl ad m) lo pc st g cs sl := by
  obtain ⟨p, l, e, s, mm, args, below, meth, c, Q, nL⟩ := P
  subst hst
  intro ls H locs hl hw hS
  have hP : va_P Z.D vwCl [(ad k, .inr (ci, fs))] H := by
    intro i q hq
    rcases List.mem_singleton.mp (List.mem_of_getElem? hq) with rfl
    exact (l_at hw hk9 hk).1
  refine va_callv (va_runU (As := as) (rest := rest) ⟨C.1, C.2.1, C.2.2.1, C.2.2.2.1, C.2.2.2.2.1⟩ hM (hcu s args C.2.2.2.2.1 (fun w hw => wsSel_any hw (CxW.B (P := (p, l, e, s, mm, args, below, meth, c, Q, nL)) hW9 w hw))) ⟨WL_fb, va_recv C.2.2.2.2.2.1 hP hc (q0 := 0) rfl, fun U hU hW => ⟨rfl, Wd_of (Z := Z.wl ad m) hw C.2.2.2.2.2.1 C.2.2.2.2.2.2.1 C.2.2.2.2.2.2.2.2 hS hU hW.alike, StrA.warm hW hW9.1, StrL.warm hW hW9.2.1, by rw [hU]; exact (hW9.2.2.kept hS.2.1).warm hW⟩⟩ rfl hn hl.2.1 rfl (lv_room hr) hdg hf) hS (fun _ _ h => h) (fun _ h => h) (fun u t H1 locs1 ht hvm hp hB hz1 hk1 hS1 => ?_)
  refine kk u.1 u.2.1 u.2.2 hp ls H1 locs1 hl ?_ hS1
  rw [← ht]; exact hB.1
theorem j_callSUv (C : Cx P Z cc own) (hW9 : CxW P Z) {y : MethodName} {cc' : ByteArray} {maxL idx n k ci N : Nat} {rm' : Room} {as : List Value} {post : (Nat → Nat) → MG → MG → Prop} {Cn : String} {T : u_T} {fs : List Value} (hM : LMv P.2.1 y cc' maxL rm' Z (.ref (ad k) :: as) ad m g post) (hcu : ∀ (s : State) (args : Array Value), (∀ w ∈ wsG, w.before args s = true) → va_CS R s args own idx y cc' maxL none (wz y cc' maxL none) rm' rm'.cells rm'.slots n) (hc : vwCl[ci]? = some (Cn, T, N)) (hk9 : 600 ≤ k ∧ k < 1200) (hk : cW Z.Y ad (m k) = some (.inr (ci, fs))) (hn : as.length = n) (hst : st = as.reverse ++ .ref (ad k) :: rest) (hr : (rest.map fun v => v.category).sum ≤ 8) (hdg : decode cc pc = .ok (.invokespecial idx, 3)) (hf : cs + rm'.cells ≤ R.cells ∧ sl + rm'.slots ≤ R.slots)
    (kk : ∀ (ad' : Nat → Nat) (m' g' : MG), post ad' m' g' → V P R (Z.wl ad' m') lo (pc + 3) (rest) g' (cs + rm'.cells) (sl + rm'.slots)) : V P R (Z.wl ad m) lo pc st g cs sl := by
  obtain ⟨p, l, e, s, mm, args, below, meth, c, Q, nL⟩ := P
  subst hst
  intro ls H locs hl hw hS
  have hP : va_P Z.D vwCl [(ad k, .inr (ci, fs))] H := by
    intro i q hq
    rcases List.mem_singleton.mp (List.mem_of_getElem? hq) with rfl
    exact (l_at hw hk9 hk).1
  refine va_callv (va_runSU (C := Cn) (As := as) (rest := rest) (C.2.2.2.2.2.1.1 ci _ hc).2 ⟨C.1, C.2.1, C.2.2.1, C.2.2.2.1, C.2.2.2.2.1⟩ hM (hcu s args C.2.2.2.2.1) ⟨WL_fb, va_recv C.2.2.2.2.2.1 hP hc (q0 := 0) rfl, fun U hU hW => ⟨rfl, Wd_of (Z := Z.wl ad m) hw C.2.2.2.2.2.1 C.2.2.2.2.2.2.1 C.2.2.2.2.2.2.2.2 hS hU hW.alike, StrA.warm hW hW9.1, StrL.warm hW hW9.2.1, by rw [hU]; exact (hW9.2.2.kept hS.2.1).warm hW⟩⟩ rfl hn hl.2.1 rfl (lv_room hr) hdg hf) hS (fun _ _ h => h) (fun _ h => h) (fun u t H1 locs1 ht hvm hp hB hz1 hk1 hS1 => ?_)
  refine kk u.1 u.2.1 u.2.2 hp ls H1 locs1 hl ?_ hS1
  rw [← ht]; exact hB.1
theorem j_callEv (C : Cx P Z cc own) (hW9 : CxW P Z) {y : MethodName} {cc' : ByteArray} {maxL idx n : Nat} {rm' : Room} {as : List Value} {post : (Nat → Nat) → MG → MG → Prop} (hM : LMv P.2.1 y cc' maxL rm' Z (.ref Z.e :: as) ad m g post) (hG : GoodIn wsG (wsV own idx "java/lang/String" y (wz y cc' maxL none)))
    (hd : y.cls = "java/lang/String" ∧ y.cls ≠ "java/lang/invoke/MethodHandle" ∧ y.cls ≠ "java/lang/invoke/VarHandle" ∧ (parseMethodDescriptor y.desc).map (fun d => d.parameters.length) = some n) (hR : rm'.frames + 1 ≤ R.frames ∧ 8 + (maxL + 11) + rm'.locals ≤ R.locals) (hn : as.length = n) (hst : st = as.reverse ++ .ref Z.e :: rest) (hr : (rest.map fun v => v.category).sum ≤ 8) (hdg : decode cc pc = .ok (.invokevirtual idx, 3)) (hf : cs + rm'.cells ≤ R.cells ∧ sl + rm'.slots ≤ R.slots)
    (kk : ∀ (ad' : Nat → Nat) (m' g' : MG), post ad' m' g' → V P R (Z.wl ad' m') lo (pc + 3) (rest) g' (cs + rm'.cells) (sl + rm'.slots)) : V P R (Z.wl ad m) lo pc st g cs sl := by
  obtain ⟨p, l, e, s, mm, args, below, meth, c, Q, nL⟩ := P
  subst hst
  intro ls H locs hl hw hS
  have hrec : ∃ cell : Cell, H[Z.e]? = some cell ∧ cell.vm.isStatics = false ∧ s.vm.findClass "java/lang/String" = some cell.cls := by
    have hW9 : StrA s ∧ StrL s ∧ StaL Z.2.2.2.2 s s.heap := hW9
    obtain ⟨b, -, hO, -⟩ := hW9.2.2.2.2.2.2
    obtain ⟨cell, h1, h2, h3, -⟩ := hO.kept hS.2.1
    exact ⟨cell, h1, h2, h3⟩
  refine va_callv (va_runV (As := as) (rest := rest) ⟨C.1, C.2.1, C.2.2.1, C.2.2.2.1, C.2.2.2.2.1⟩ hM (cwV n C.2.2.2.2.1 hG rfl rfl rfl hd hR) ⟨WL_fb, hrec, fun U hU hW => ⟨rfl, Wd_of (Z := Z.wl ad m) hw C.2.2.2.2.2.1 C.2.2.2.2.2.2.1 C.2.2.2.2.2.2.2.2 hS hU hW.alike, StrA.warm hW hW9.1, StrL.warm hW hW9.2.1, by rw [hU]; exact (hW9.2.2.kept hS.2.1).warm hW⟩⟩ rfl hn hl.2.1 rfl (lv_room hr) hdg hf) hS (fun _ _ h => h) (fun _ h => h) (fun u t H1 locs1 ht hvm hp hB hz1 hk1 hS1 => ?_)
  refine kk u.1 u.2.1 u.2.2 hp ls H1 locs1 hl ?_ hS1
  rw [← ht]; exact hB.1
theorem j_ldcE (C : Cx P Z cc "PosterTypesLaw$Sim") (hW9 : CxW P Z) (hdg : decode cc pc = .ok (.ldc 35, 2)) (kk : V P R (Z.wl ad m) lo (pc + 2) (.ref Z.e :: st) g cs sl) : V P R (Z.wl ad m) lo pc st g cs sl := by
  obtain ⟨p, l, e, s, mm, args, below, meth, c, Q, nL⟩ := P
  have hW9 : StrA s ∧ StrL s ∧ StaL Z.2.2.2.2 s s.heap := hW9
  obtain ⟨b, h1, -⟩ := hW9.2.2.2.2.2.2
  exact fun ls H locs hl hw hS => va_ldcS C.1 C.2.1 C.2.2.2.1 h1 hdg (kk ls H locs hl hw hS)
theorem j_Ecod (C : Cx P Z cc own) (hW9 : CxW P Z) {index : Nat} (hlink : Cond.fieldLink own index "java/lang/String" "coder" "B" ∈ wsG) (hdg : decode cc pc = .ok (.getfield index, 3)) (kk : V P R (Z.wl ad m) lo (pc + 3) (.int 0 :: rest) g cs sl) : V P R (Z.wl ad m) lo pc (.ref Z.e :: rest) g cs sl := by
  obtain ⟨p, l, e, s, mm, args, below, meth, c, Q, nL⟩ := P
  have hW9 : StrA s ∧ StrL s ∧ StaL Z.2.2.2.2 s s.heap := hW9
  obtain ⟨b, -, -, h1, -⟩ := hW9.2.2.2.2.2.2
  exact fun ls H locs hl hw hS => vk_getf C.1 C.2.1 h1 hS C.2.2.2.1 (C.2.2.2.2.1 _ hlink) (fun x h => h) hdg (kk ls H locs hl hw hS)
/-- the row of the empty text -/
def EmB (P : Pm) (z b : Nat) : Prop := match P with
  | (_, _, _, s, _, _, _, _, _, _, _) => va_T .byte b 0 (fun _ => .int 0) (A0 z) s s.heap
theorem j_Eval (C : Cx P Z cc own) (hW9 : CxW P Z) {index : Nat} (hlink : Cond.fieldLink own index "java/lang/String" "value" "[B" ∈ wsG) (hdg : decode cc pc = .ok (.getfield index, 3)) (kk : ∀ b, EmB P Z.z b → V P R (Z.wl ad m) lo (pc + 3) (.ref b :: rest) g cs sl) : V P R (Z.wl ad m) lo pc (.ref Z.e :: rest) g cs sl := by
  obtain ⟨p, l, e, s, mm, args, below, meth, c, Q, nL⟩ := P
  have hW9 : StrA s ∧ StrL s ∧ StaL Z.2.2.2.2 s s.heap := hW9
  obtain ⟨b, -, -, -, h1, h2, -⟩ := hW9.2.2.2.2.2.2
  exact fun ls H locs hl hw hS => vk_getf C.1 C.2.1 h1 hS C.2.2.2.1 (C.2.2.2.2.1 _ hlink) (fun x h => h) hdg (kk b h2 ls H locs hl hw hS)
theorem j_Elen (C : Cx P Z cc own) {b : Nat} (hB : EmB P Z.z b) (hdg : decode cc pc = .ok (.arraylength, 1)) (kk : V P R (Z.wl ad m) lo (pc + 1) (.int 0 :: rest) g cs sl) : V P R (Z.wl ad m) lo pc (.ref b :: rest) g cs sl := by
  obtain ⟨p, l, e, s, mm, args, below, meth, c, Q, nL⟩ := P
  exact fun ls H locs hl hw hS => va_tlen (A := A0 Z.z) C.1 C.2.1 hB hS rfl hdg (kk ls H locs hl hw hS)
theorem j_putF (C : Cx P Z cc own) {Cn : String} {Tt : u_T} {N ci index : Nat} (hin : ∀ w ∈ u_ws Cn Tt N, w ∈ wsG) (hc : vwCl[ci]? = some (Cn, Tt, N)) (ty0 : Nat → FieldType) (hty : ∀ k, k < N → parseFieldDescriptor (Tt k).2.2.1 = some (ty0 k)) (hnm : ∀ a, a < N → ∀ b, b < N → a ≠ b → (Tt a).2.1 ≠ (Tt b).2.1) (j : Nat) (hj : j < N) (hlink : Cond.fieldLink own index (Tt j).1 (Tt j).2.1 (Tt j).2.2.1 ∈ wsG) (hfin : (Tt j).2.2.2 = true) (hinit : CxI P) (hdecl : (Tt j).1 = own) {ty : FieldType} (hd : parseFieldDescriptor (Tt j).2.2.1 = some ty) {v : Value} (hn : narrow ty v = v) (hfit : fits ty v = true) {k : Nat} (hk9 : 600 ≤ k ∧ k < 1200) {fs : List Value} (hk : cW Z.Y ad (m k) = some (.inr (ci, fs))) (hl : j < fs.length) {x : Int32}
    (hk' : cW Z.Y ad (upd (m k) j x) = some (.inr (ci, fs.set j v))) (hdg : decode cc pc = .ok (.putfield index, 3)) (kk : V P R (Z.wl ad (wr m k j x)) lo (pc + 3) rest g cs sl) : V P R (Z.wl ad m) lo pc (v :: .ref (ad k) :: rest) g cs sl := by
  obtain ⟨p, l, e, s, mm, args, below, meth, c, Q, nL⟩ := P
  intro ls H locs hll hw hS0
  have hap := va_apart (own := own) C.2.2.2.2.1 hin ty0 hty hnm C.2.2.2.2.2.1 hc
  obtain ⟨⟨r, h1, cell, q1, q2, q3, q4⟩, hza⟩ := l_at hw hk9 hk
  have hr : r = (Cn, Tt, N) := Option.some.inj (h1.symm.trans hc)
  subst hr
  obtain ⟨hS, hfc, kC, hkC, hkind⟩ := C.2.2.2.2.2.1.1 ci _ hc
  obtain ⟨cf, kf, fi, f, hi, hsl⟩ := hS j hj
  have hlay := C.2.2.2.2.1 _ (hin _ (u_in_lay hj))
  unfold u_lay at hlay
  rw [if_pos hfin] at hlay
  have hst := (u_facts hfc hkC (u_lays C.2.2.2.2.1 hin hj) hi).1
  have hcf : mm.cls = cf := by
    obtain ⟨_, _, c', _, _, _, -, -, hf', -, -, -, hown2, -⟩ := Cond.laysFinal_spec hlay
    have e1 : c' = cf := by have := hi.symm.trans hf'; simp at this; exact this.1.symm
    rw [hdecl] at hown2
    rw [← e1]; exact Option.some.inj (C.2.2.2.1.symm.trans hown2)
  have h6 := u_fits hfc hkC hkind (Or.inr hlay) hi hd hn hfit
  refine W.putFinK C.1 C.2.1 C.2.2.2.1 (C.2.2.2.2.1 _ hlink) hi hst hcf hinit (by rw [q2]; exact h6) q1 q3 (by rw [hsl]; exact k2_hasslot (q4 j hj)) rfl rfl hdg fun H' e1 e2 e3 => ?_
  rw [hsl] at e1 ⊢
  refine kk ls H' _ hll ?_ (hS0.put e2 e3 hza)
  rw [wr_rwr]
  exact Hw_wrl (Z := Z.wl ad m) hw hk9 hk hk' ⟨_, hc, t_OB.to (V := updV (vp_V fs) j v) ⟨_, e1, q2, q3, t_set q4 hap hj v⟩ (fun i _ => vp_updV_set hl v i)⟩ e3
end LJ10
/-- one law's cell of the list set anew -/
theorem Hw_setl {Z : Zc} {g : MG} {H H1 : Heap} (hw : HwZ Z g H) {k i : Nat} (hk : 600 ≤ k ∧ k < 1200) {r : Nat → Int32} {e e' : va_E} (h0 : cW Z.Y Z.ad (Z.m k) = some e) (h1 : cW Z.Y Z.ad r = some e') (hi : (wL Z.Y Z.ad Z.df g)[i]? = some (Z.ad k, e)) (hP : va_P Z.D vwCl ((wL Z.Y Z.ad Z.df g).set i (Z.ad k, e')) H1) : HwZ (Z.wl Z.ad (rwr Z.m k r)) g H1 := by
  have hs : ∀ q, q ≠ k → cx (Z.wl Z.ad (rwr Z.m k r)).Y Z.ad Z.df g q = cx Z.Y Z.ad Z.df g q := by
    intro q hq
    by_cases h1 : q < 600
    · exact cx_Y h1
    · by_cases h2 : q < 1200
      · rw [cx_law ⟨by omega, h2⟩, cx_law ⟨by omega, h2⟩]
        have em : (Z.wl Z.ad (rwr Z.m k r)).Y.m q = Z.m q := rwr_ne _ _ _ hq
        rw [em]
        rfl
      · rw [cx_top _ _ _ _ (by omega), cx_top _ _ _ _ (by omega)]
  have hn : cx (Z.wl Z.ad (rwr Z.m k r)).Y Z.ad Z.df g k = some e' := by
    rw [cx_law hk]
    have em : (Z.wl Z.ad (rwr Z.m k r)).Y.m k = r := rwr_same _ _ _
    rw [em]
    exact h1
  have ho : cx Z.Y Z.ad Z.df g k = some e := (cx_law hk).trans h0
  have hne : ∀ q, cx (Z.wl Z.ad (rwr Z.m k r)).Y Z.ad Z.df g q ≠ none ↔ cx Z.Y Z.ad Z.df g q ≠ none := fun q => by
    by_cases hq : q = k
    · rw [hq, hn, ho]; simp
    · rw [hs q hq]
  have hil := (List.getElem?_eq_some_iff.mp hi).1
  refine ⟨fun q e0 he0 => ?_, fun a b ha hb hab => hw.2.1 a b ((hne a).mp ha) ((hne b).mp hb) hab, hw.2.2⟩
  have he0 : cx (Z.wl Z.ad (rwr Z.m k r)).Y Z.ad Z.df g q = some e0 := he0
  show va_at Z.D vwCl (Z.ad q, e0) H1 ∧ Z.z ≤ Z.ad q
  by_cases hq : q = k
  · subst hq
    rw [hn] at he0
    cases he0
    exact ⟨hP i _ (List.getElem?_set_self hil), (hw.1 q e ho).2⟩
  · rw [hs q hq] at he0
    obtain ⟨j, hj⟩ := List.getElem?_of_mem (wL_mem.mpr ⟨q, he0, rfl⟩ : ((Z.ad q, e0) : Nat × va_E) ∈ wL Z.Y Z.ad Z.df g)
    have hij : i ≠ j := by
      rintro rfl
      rw [hi] at hj
      have h1 : Z.ad k = Z.ad q := congrArg (fun x => (Option.getD x (0, e)).1) hj
      exact hq (hw.2.1 q k (by rw [he0]; simp) (by rw [ho]; simp) h1.symm)
    exact ⟨hP j _ (by rw [List.getElem?_set_ne hij]; exact hj), (hw.1 q e0 he0).2⟩
section LJ11
variable {P : Pm} {R : Room} {Z : Zc} {cc : ByteArray} {own : String} {lo : Lo} {pc : Nat} {rest st : List Value} {g : MG} {cs sl : Nat} {ad : Nat → Nat} {m : MG} {T : Nat}
theorem cpy_0 {α : Type} (f g : Nat → α) (a b : Nat) : va_cpy f g a b 0 = g := by
  funext k
  unfold va_cpy
  rw [if_neg (by omega)]
/-- no byte of the empty text is copied -/
theorem j_Ecpy (C : Cx P Z cc own) {idx : Nat} (w1 : Cond.methodLink own idx arraycopyName ∈ wsG) (w2 : Cond.native arraycopyName ∈ wsG) (w3 : Cond.static arraycopyName ∈ wsG) (w4 : Cond.initialized "java/lang/System" ∈ wsG) {b k n : Nat} (hB : EmB P Z.z b) (hk : 600 ≤ k ∧ k < 1200) (h1 : m k 100000 = 7) (h2 : m k 100001 = nI n) (hn : n < 1000)
    (hframes : 1 ≤ R.frames) (hlocals : (rest.map fun v => v.category).sum + (nativeFrameWords "java/lang/System" "arraycopy" 5 + 11) ≤ R.locals) (hdg : decode cc pc = .ok (.invokestatic idx, 3)) (kk : V P R (Z.wl ad m) lo (pc + 3) rest g cs sl) : V P R (Z.wl ad m) lo pc (.int 0 :: .int 0 :: .ref (ad k) :: .int 0 :: .ref b :: rest) g cs sl := by
  obtain ⟨p, l, e, s, mm, args, below, meth, c, Q, nL⟩ := P
  intro ls H locs hl hw hS
  obtain ⟨hP, hD⟩ := Hw_P hw
  have h0 : cx (Z.wl ad m).Y ad Z.df g k = some (.inl (Z.Y.2.2.2.2.2.1, n, .inl (m k))) := (cx_law hk).trans (cW_7 h1 h2 (by omega))
  obtain ⟨i, hi⟩ := List.getElem?_of_mem (wL_mem.mpr ⟨k, h0, rfl⟩ : ((ad k, .inl (Z.Y.2.2.2.2.2.1, n, .inl (m k))) : Nat × va_E) ∈ wL (Z.wl ad m).Y ad Z.df g)
  refine vk_copyt (D := Z.D) (f := fun _ => 0) C.1 C.2.1 (C.2.2.1.trans hl.2.1.symm) C.2.2.2.1 (C.2.2.2.2.1 _ w1) (C.2.2.2.2.1 _ w2) (C.2.2.2.2.1 _ w3) (C.2.2.2.2.1 _ w4) C.2.2.2.2.2.1 hP hD hS hB i 5 hi rfl (by decide) (by decide) (by decide) (by decide) (Nat.zero_le _) (fun i hi => absurd hi (Nat.not_lt_zero _)) hframes hlocals hdg (fun H1 locs1 hP1 hD1 hS1 => ?_)
  have h9 := Hw_setl (Z := Z.wl ad m) hw hk (r := m k) (cW_7 h1 h2 (by omega)) (cW_7 h1 h2 (by omega)) hi (by
    have e0 : va_cpy (fun _ => (0 : Int32)) (m k) (0 : Int32).toNatClampNeg (0 : Int32).toNatClampNeg (0 : Int32).toNatClampNeg = m k := cpy_0 _ _ _ _
    rw [e0] at hP1
    exact hP1)
  have e1 : rwr m k (m k) = m := by
    funext q
    by_cases hq : q = k
    · rw [hq, rwr_same]
    · rw [rwr_ne _ _ _ hq]
  have h9 : HwZ (Z.wl ad (rwr m k (m k))) g H1 := h9
  rw [e1] at h9
  exact kk ls H1 locs1 hl h9 hS1
/-- bytes are copied from one row to another -/
theorem j_cpy (C : Cx P Z cc own) {idx : Nat} (w1 : Cond.methodLink own idx arraycopyName ∈ wsG) (w2 : Cond.native arraycopyName ∈ wsG) (w3 : Cond.static arraycopyName ∈ wsG) (w4 : Cond.initialized "java/lang/System" ∈ wsG) {k n k2 n2 a b c9 : Nat} (hk : 600 ≤ k ∧ k < 1200) (h1 : m k 100000 = 7) (h2 : m k 100001 = nI n) (hn : n < 1000) (hk2 : 600 ≤ k2 ∧ k2 < 1200) (h12 : m k2 100000 = 7) (h22 : m k2 100001 = nI n2) (hn2 : n2 < 1000) (h4 : a + c9 ≤ n) (h5 : b + c9 ≤ n2) (hfit : ∀ i, i < c9 → fits .byte (.int (m k (a + i))) = true)
    (hframes : 1 ≤ R.frames) (hlocals : (rest.map fun v => v.category).sum + (nativeFrameWords "java/lang/System" "arraycopy" 5 + 11) ≤ R.locals) (hdg : decode cc pc = .ok (.invokestatic idx, 3)) (kk : V P R (Z.wl ad (rwr m k2 (va_cpy (m k) (m k2) a b c9))) lo (pc + 3) rest g cs sl) : V P R (Z.wl ad m) lo pc (.int (nI c9) :: .int (nI b) :: .ref (ad k2) :: .int (nI a) :: .ref (ad k) :: rest) g cs sl := by
  obtain ⟨p, l, e, s, mm, args, below, meth, c, Q, nL⟩ := P
  intro ls H locs hl hw hS
  obtain ⟨hP, hD⟩ := Hw_P hw
  have h0 : cx (Z.wl ad m).Y ad Z.df g k = some (.inl (Z.Y.2.2.2.2.2.1, n, .inl (m k))) := (cx_law hk).trans (cW_7 h1 h2 (by omega))
  have h02 : cx (Z.wl ad m).Y ad Z.df g k2 = some (.inl (Z.Y.2.2.2.2.2.1, n2, .inl (m k2))) := (cx_law hk2).trans (cW_7 h12 h22 (by omega))
  obtain ⟨i, hi⟩ := List.getElem?_of_mem (wL_mem.mpr ⟨k, h0, rfl⟩ : ((ad k, .inl (Z.Y.2.2.2.2.2.1, n, .inl (m k))) : Nat × va_E) ∈ wL (Z.wl ad m).Y ad Z.df g)
  obtain ⟨j, hj⟩ := List.getElem?_of_mem (wL_mem.mpr ⟨k2, h02, rfl⟩ : ((ad k2, .inl (Z.Y.2.2.2.2.2.1, n2, .inl (m k2))) : Nat × va_E) ∈ wL (Z.wl ad m).Y ad Z.df g)
  have ea : (nI a).toNatClampNeg = a := nI_clamp (by omega)
  have eb : (nI b).toNatClampNeg = b := nI_clamp (by omega)
  have en : (nI c9).toNatClampNeg = c9 := nI_clamp (by omega)
  refine va_copyi (D := Z.D) C.1 C.2.1 (C.2.2.1.trans hl.2.1.symm) C.2.2.2.1 (C.2.2.2.2.1 _ w1) (C.2.2.2.2.1 _ w2) (C.2.2.2.2.1 _ w3) (C.2.2.2.2.1 _ w4) C.2.2.2.2.2.1 hP hD hS i j 5 5 hi hj rfl rfl rfl (nI_pos (by omega)) (nI_pos (by omega)) (nI_pos (by omega)) (by rw [ea, en]; exact h4) (by rw [eb, en]; exact h5) (fun i hi => by rw [ea]; rw [en] at hi; exact hfit i hi) hframes hlocals hdg (fun H1 locs1 hP1 hD1 hS1 => ?_)
  rw [ea, eb, en] at hP1
  have u1 : va_cpy (m k) (m k2) a b c9 100000 = 7 := by rw [← h12]; unfold va_cpy; exact if_neg (by omega)
  have u2 : va_cpy (m k) (m k2) a b c9 100001 = nI n2 := by rw [← h22]; unfold va_cpy; exact if_neg (by omega)
  have h9 := Hw_setl (Z := Z.wl ad m) hw hk2 (r := va_cpy (m k) (m k2) a b c9) (cW_7 h12 h22 (by omega)) (cW_7 u1 u2 (by omega)) hj hP1
  exact kk ls H1 locs1 hl h9 hS1
end LJ11
