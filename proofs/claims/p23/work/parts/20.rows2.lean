/-! MORE ROWS: references, lists, longs -/
def MR (l : Launch) (y : MethodName) (cc : ByteArray) (maxL : Nat) (ret : Option FieldType) (rm : Room) (Z : Zc) (as : List Value) (g : MG) (post : Option Nat → MG → Prop) : Prop := Met l y (wz y cc maxL ret) rm (va_Pc as (fun U => Wd Z g U)) (va_Qq post (fun g' t => Wd Z g' t) (A0 Z.z)) rm.cells rm.slots (A0 Z.z)
theorem ent_q {l : Launch} {y : MethodName} {cc : ByteArray} {maxL : Nat} {cn : String} {rm : Room} {Z : Zc} {as : List Value} {g : MG} {post : Option Nat → MG → Prop} {own : String} {lo : Lo} (hy : plainName y.cls = true) (ho : y.cls = own) (hlen : (lg_sl as).length ≤ maxL) (hlo : loA (lv_args 0 as) maxL = lo)
    (body : ∀ P : Pm, P.2.1 = l → Cx P Z cc own → (∀ (pc : Nat) (lo' : Lo) (v : Option Nat) (g' : MG), decode cc pc = .ok (.areturn, 1) → post v g' → V P rm Z lo' pc [va_rf v] g' rm.cells rm.slots) → V P rm Z lo 0 [] g 0 0) : MR l y cc maxL (some (.object cn)) rm Z as g post := by
  refine Met.ofW (cc := cc) (maxL := maxL) (ret := some (.object cn)) hy rfl ?_
  intro p e s m args below meth c s₁ B hml hv
  obtain ⟨rfl, hw, hK, hz, hst⟩ := hv
  have hts : ∀ w ∈ wsG, w.before as.toArray s = true := fun w h => atoms_spec (ws := wz y cc maxL (some (.object cn))) B.pre w (List.mem_cons_of_mem _ h)
  have hown : s.vm.findClass own = some m.cls := ho ▸ findClass_of_methodNamed B.named
  have hl := lv_entry as hlen
  rw [lg_entry_eq]
  generalize (lg_sl as ++ List.replicate (maxL - (lg_sl as).length) Slot.unset).toArray = ls at hl ⊢
  refine body (p, l, e, s, m, as.toArray, below, meth, c, _, maxL) rfl ⟨B.exec, B.bytes, hml, hown, hts, hK, hz, B.notSynchronized, hst⟩ ?_ ls s.heap [] (hlo ▸ Lv_of hl) hw va_S.rf
  intro pc lo' v g' hdg hp ls H locs hl hw' hS
  exact W.aret B.exec B.bytes B.returns (Or.inl ⟨cn, rfl⟩) (va_rf_or v) (fun t ht hW => ⟨⟨v, g', rfl, hp, Wd_of hw' hK hz hst hS ht hW.alike⟩, hS.F ht⟩) hS.2.2 hdg
theorem ent_l {l : Launch} {y : MethodName} {cc : ByteArray} {maxL : Nat} {rm : Room} {Z : Zc} {as : List Value} {g : MG} {post : Int64 → MG → Prop} {own : String} {lo : Lo} (hy : plainName y.cls = true) (ho : y.cls = own) (hlen : (lg_sl as).length ≤ maxL) (hlo : loA (lv_args 0 as) maxL = lo)
    (body : ∀ P : Pm, P.2.1 = l → Cx P Z cc own → (∀ (pc : Nat) (lo' : Lo) (v : Int64) (g' : MG), decode cc pc = .ok (.lreturn, 1) → post v g' → V P rm Z lo' pc [.long v] g' rm.cells rm.slots) → V P rm Z lo 0 [] g 0 0) : ML l y cc maxL rm Z as g post := by
  refine Met.ofW (cc := cc) (maxL := maxL) (ret := some .long) hy rfl ?_
  intro p e s m args below meth c s₁ B hml hv
  obtain ⟨rfl, hw, hK, hz, hst⟩ := hv
  have hts : ∀ w ∈ wsG, w.before as.toArray s = true := fun w h => atoms_spec (ws := wz y cc maxL (some .long)) B.pre w (List.mem_cons_of_mem _ h)
  have hown : s.vm.findClass own = some m.cls := ho ▸ findClass_of_methodNamed B.named
  have hl := lv_entry as hlen
  rw [lg_entry_eq]
  generalize (lg_sl as ++ List.replicate (maxL - (lg_sl as).length) Slot.unset).toArray = ls at hl ⊢
  refine body (p, l, e, s, m, as.toArray, below, meth, c, _, maxL) rfl ⟨B.exec, B.bytes, hml, hown, hts, hK, hz, B.notSynchronized, hst⟩ ?_ ls s.heap [] (hlo ▸ Lv_of hl) hw va_S.rf
  intro pc lo' v g' hdg hp ls H locs hl hw' hS
  exact W.lret B.exec B.bytes B.returns (fun t ht hW => ⟨⟨v, g', rfl, hp, Wd_of hw' hK hz hst hS ht hW.alike⟩, hS.F ht⟩) hS.2.2 hdg
theorem gs2 {own : String} {idx : Nat} {y : MethodName} {cc : ByteArray} {maxL : Nat} {ret : Option FieldType} (h1 : Cond.methodLink own idx y ∈ wsG) (h2 : Cond.static y ∈ wsG) (h4 : Cond.initialized y.cls ∈ wsG) (h5 : Cond.code y cc maxL ret ∈ wsG) : GoodIn wsG (va_wsS own idx y (wz y cc maxL ret)) := by
  intro w hw
  have : w ∈ wsG := by
    simp only [va_wsS, List.mem_append, List.mem_cons, List.not_mem_nil, or_false] at hw
    rcases hw with (rfl | rfl | rfl) | rfl | hw
    · exact h1
    · exact h2
    · exact h4
    · exact h5
    · exact hw
  exact ⟨this, good_all this⟩
section VR4
variable {P : Pm} {R : Room} {Z : Zc} {cc : ByteArray} {own : String} {lo : Lo} {pc : Nat} {rest st : List Value} {g : MG} {cs sl : Nat}
theorem v_null (C : Cx P Z cc own) (hdg : decode cc pc = .ok (.aconst_null, 1)) (kk : V P R Z lo (pc + 1) (.null :: rest) g cs sl) : V P R Z lo pc rest g cs sl := by
  obtain ⟨p, l, e, s, m, args, below, meth, c, Q, nL⟩ := P
  exact fun ls H locs hl hw hS => lv_null C.1 C.2.1 hdg (kk ls H locs hl hw hS)
theorem v_aald (C : Cx P Z cc own) {k n a : Nat} {f : Nat → Option Nat} (hk : cx Z.Y Z.ad Z.df g k = some (.inl (Z.Y.2.1, n, .inr (.inr (.inr (.inr f)))))) (ha : a < n ∧ n < 2147483648) (hdg : decode cc pc = .ok (.aaload, 1)) (kk : V P R Z lo (pc + 1) (va_rf (f a) :: rest) g cs sl) : V P R Z lo pc (.int (nI a) :: .ref (Z.ad k) :: rest) g cs sl := by
  obtain ⟨p, l, e, s, m, args, below, meth, c, Q, nL⟩ := P
  intro ls H locs hl hw hS
  have hP : va_P Z.D vwCl [(Z.ad k, .inl (Z.Y.2.1, n, .inr (.inr (.inr (.inr f)))))] H := by
    intro i q hq
    rcases List.mem_singleton.mp (List.mem_of_getElem? hq) with rfl
    exact (hw.1 k _ hk).1
  have ea : (nI a).toNatClampNeg = a := nI_clamp (by have := ha.1; have := ha.2; omega)
  exact va_aldq (D := Z.D) C.1 C.2.1 C.2.2.2.2.2.1 hP 0 1 rfl rfl (vp_in_nI ha.1 ha.2) hdg (by rw [ea]; exact kk ls H locs hl hw hS)
theorem v_callSxi (C : Cx P Z cc own) {y : MethodName} {cc' : ByteArray} {maxL idx n : Nat} {ret : Option FieldType} {rm' : Room} {as : List Value} {post : Int32 → MG → Prop} (hM : MI P.2.1 y cc' maxL ret rm' Z as g post) (hG : GoodIn wsG (va_wsS own idx y (wz y cc' maxL ret)))
    (hd : y.cls ≠ "java/lang/invoke/MethodHandle" ∧ y.cls ≠ "java/lang/invoke/VarHandle" ∧ (parseMethodDescriptor y.desc).map (fun d => d.parameters.length) = some n) (hR : rm'.frames + 1 ≤ R.frames ∧ 8 + (maxL + 11) + rm'.locals ≤ R.locals) (hn : as.length = n) (hst : st = as.reverse ++ rest) (hr : (rest.map fun v => v.category).sum ≤ 8) (hdg : decode cc pc = .ok (.invokestatic idx, 3)) (hf : cs + rm'.cells ≤ R.cells ∧ sl + rm'.slots ≤ R.slots)
    (kk : ∀ (r : Int32) (g' : MG), post r g' → V P R Z lo (pc + 3) (.int r :: rest) g' (cs + rm'.cells) (sl + rm'.slots)) : V P R Z lo pc st g cs sl := by
  obtain ⟨p, l, e, s, m, args, below, meth, c, Q, nL⟩ := P
  subst hst
  intro ls H locs hl hw hS
  refine va_calli (va_runS (As := as) (rest := rest) ⟨C.1, C.2.1, C.2.2.1, C.2.2.2.1, C.2.2.2.2.1⟩ hM (va_cwS n C.2.2.2.2.1 hG rfl rfl rfl hd hR) ⟨Wd_fb, fun U hU hW => ⟨rfl, Wd_of hw C.2.2.2.2.2.1 C.2.2.2.2.2.2.1 C.2.2.2.2.2.2.2.2 hS hU hW.alike⟩⟩ rfl hn hl.2.1 rfl (lv_room hr) hdg hf) hS (fun _ _ h => h) (fun _ h => h) (fun r u t H1 locs1 ht hvm hp hB hz1 hk1 hS1 => ?_)
  refine kk r u hp ls H1 locs1 hl ?_ hS1
  rw [← ht]; exact hB.1
theorem v_callSxv (C : Cx P Z cc own) {y : MethodName} {cc' : ByteArray} {maxL idx n : Nat} {rm' : Room} {as : List Value} {post : MG → Prop} (hM : MV P.2.1 y cc' maxL rm' Z as g post) (hG : GoodIn wsG (va_wsS own idx y (wz y cc' maxL none)))
    (hd : y.cls ≠ "java/lang/invoke/MethodHandle" ∧ y.cls ≠ "java/lang/invoke/VarHandle" ∧ (parseMethodDescriptor y.desc).map (fun d => d.parameters.length) = some n) (hR : rm'.frames + 1 ≤ R.frames ∧ 8 + (maxL + 11) + rm'.locals ≤ R.locals) (hn : as.length = n) (hst : st = as.reverse ++ rest) (hr : (rest.map fun v => v.category).sum ≤ 8) (hdg : decode cc pc = .ok (.invokestatic idx, 3)) (hf : cs + rm'.cells ≤ R.cells ∧ sl + rm'.slots ≤ R.slots)
    (kk : ∀ (g' : MG), post g' → V P R Z lo (pc + 3) rest g' (cs + rm'.cells) (sl + rm'.slots)) : V P R Z lo pc st g cs sl := by
  obtain ⟨p, l, e, s, m, args, below, meth, c, Q, nL⟩ := P
  subst hst
  intro ls H locs hl hw hS
  refine va_callv (va_runS (As := as) (rest := rest) ⟨C.1, C.2.1, C.2.2.1, C.2.2.2.1, C.2.2.2.2.1⟩ hM (va_cwS n C.2.2.2.2.1 hG rfl rfl rfl hd hR) ⟨Wd_fb, fun U hU hW => ⟨rfl, Wd_of hw C.2.2.2.2.2.1 C.2.2.2.2.2.2.1 C.2.2.2.2.2.2.2.2 hS hU hW.alike⟩⟩ rfl hn hl.2.1 rfl (lv_room hr) hdg hf) hS (fun _ _ h => h) (fun _ h => h) (fun u t H1 locs1 ht hvm hp hB hz1 hk1 hS1 => ?_)
  refine kk u hp ls H1 locs1 hl ?_ hS1
  rw [← ht]; exact hB.1
theorem v_callVq (C : Cx P Z cc own) {y : MethodName} {cc' : ByteArray} {maxL idx n k ci N : Nat} {ret : Option FieldType} {rm' : Room} {as : List Value} {post : Option Nat → MG → Prop} {Cn : String} {T : u_T} {fs : List Value} (hM : MR P.2.1 y cc' maxL ret rm' Z (.ref (Z.ad k) :: as) g post) (hG : GoodIn wsG (wsV own idx Cn y (wz y cc' maxL ret)))
    (hd : y.cls = Cn ∧ y.cls ≠ "java/lang/invoke/MethodHandle" ∧ y.cls ≠ "java/lang/invoke/VarHandle" ∧ (parseMethodDescriptor y.desc).map (fun d => d.parameters.length) = some n) (hR : rm'.frames + 1 ≤ R.frames ∧ 8 + (maxL + 11) + rm'.locals ≤ R.locals) (hc : vwCl[ci]? = some (Cn, T, N)) (hk : cx Z.Y Z.ad Z.df g k = some (.inr (ci, fs))) (hn : as.length = n) (hst : st = as.reverse ++ .ref (Z.ad k) :: rest) (hr : (rest.map fun v => v.category).sum ≤ 8) (hdg : decode cc pc = .ok (.invokevirtual idx, 3)) (hf : cs + rm'.cells ≤ R.cells ∧ sl + rm'.slots ≤ R.slots)
    (kk : ∀ (r : Option Nat) (g' : MG), post r g' → V P R Z lo (pc + 3) (va_rf r :: rest) g' (cs + rm'.cells) (sl + rm'.slots)) : V P R Z lo pc st g cs sl := by
  obtain ⟨p, l, e, s, m, args, below, meth, c, Q, nL⟩ := P
  subst hst
  intro ls H locs hl hw hS
  have hP : va_P Z.D vwCl [(Z.ad k, .inr (ci, fs))] H := by
    intro i q hq
    rcases List.mem_singleton.mp (List.mem_of_getElem? hq) with rfl
    exact (hw.1 k _ hk).1
  refine va_callq (va_runV (As := as) (rest := rest) ⟨C.1, C.2.1, C.2.2.1, C.2.2.2.1, C.2.2.2.2.1⟩ hM (cwV n C.2.2.2.2.1 hG rfl rfl rfl hd hR) ⟨Wd_fb, va_recv C.2.2.2.2.2.1 hP hc (q0 := 0) rfl, fun U hU hW => ⟨rfl, Wd_of hw C.2.2.2.2.2.1 C.2.2.2.2.2.2.1 C.2.2.2.2.2.2.2.2 hS hU hW.alike⟩⟩ rfl hn hl.2.1 rfl (lv_room hr) hdg hf) hS (fun _ _ h => h) (fun _ h => h) (fun r u t H1 locs1 ht hvm hp hB hz1 hk1 hS1 => ?_)
  refine kk r u hp ls H1 locs1 hl ?_ hS1
  rw [← ht]; exact hB.1
theorem v_callVl (C : Cx P Z cc own) {y : MethodName} {cc' : ByteArray} {maxL idx n k ci N : Nat} {rm' : Room} {as : List Value} {post : Int64 → MG → Prop} {Cn : String} {T : u_T} {fs : List Value} (hM : ML P.2.1 y cc' maxL rm' Z (.ref (Z.ad k) :: as) g post) (hG : GoodIn wsG (wsV own idx Cn y (wz y cc' maxL (some .long))))
    (hd : y.cls = Cn ∧ y.cls ≠ "java/lang/invoke/MethodHandle" ∧ y.cls ≠ "java/lang/invoke/VarHandle" ∧ (parseMethodDescriptor y.desc).map (fun d => d.parameters.length) = some n) (hR : rm'.frames + 1 ≤ R.frames ∧ 8 + (maxL + 11) + rm'.locals ≤ R.locals) (hc : vwCl[ci]? = some (Cn, T, N)) (hk : cx Z.Y Z.ad Z.df g k = some (.inr (ci, fs))) (hn : as.length = n) (hst : st = as.reverse ++ .ref (Z.ad k) :: rest) (hr : (rest.map fun v => v.category).sum ≤ 8) (hdg : decode cc pc = .ok (.invokevirtual idx, 3)) (hf : cs + rm'.cells ≤ R.cells ∧ sl + rm'.slots ≤ R.slots)
    (kk : ∀ (r : Int64) (g' : MG), post r g' → V P R Z lo (pc + 3) (.long r :: rest) g' (cs + rm'.cells) (sl + rm'.slots)) : V P R Z lo pc st g cs sl := by
  obtain ⟨p, l, e, s, m, args, below, meth, c, Q, nL⟩ := P
  subst hst
  intro ls H locs hl hw hS
  have hP : va_P Z.D vwCl [(Z.ad k, .inr (ci, fs))] H := by
    intro i q hq
    rcases List.mem_singleton.mp (List.mem_of_getElem? hq) with rfl
    exact (hw.1 k _ hk).1
  refine va_calll (va_runV (As := as) (rest := rest) ⟨C.1, C.2.1, C.2.2.1, C.2.2.2.1, C.2.2.2.2.1⟩ hM (cwV n C.2.2.2.2.1 hG rfl rfl rfl hd hR) ⟨Wd_fb, va_recv C.2.2.2.2.2.1 hP hc (q0 := 0) rfl, fun U hU hW => ⟨rfl, Wd_of hw C.2.2.2.2.2.1 C.2.2.2.2.2.2.1 C.2.2.2.2.2.2.2.2 hS hU hW.alike⟩⟩ rfl hn hl.2.1 rfl (lv_room hr) hdg hf) hS (fun _ _ h => h) (fun _ h => h) (fun r u t H1 locs1 ht hvm hp hB hz1 hk1 hS1 => ?_)
  refine kk r u hp ls H1 locs1 hl ?_ hS1
  rw [← ht]; exact hB.1
theorem v_lload_n (C : Cx P Z cc own) {k : Fin 4} {i : Nat} {x : Int64} (hdg : decode cc pc = .ok (.lload_n k, 1)) (hi : (k : Nat) = i) (hl0 : lo[i]? = some (some (.long x))) (kk : V P R Z lo (pc + 1) (.long x :: rest) g cs sl) : V P R Z lo pc rest g cs sl := by
  obtain ⟨p, l, e, s, m, args, below, meth, c, Q, nL⟩ := P
  exact fun ls H locs hl hw hS => lv_lload_n C.1 C.2.1 hdg hi (hl.at hl0) (kk ls H locs hl hw hS)
theorem v_lload (C : Cx P Z cc own) {i : Nat} {x : Int64} (hdg : decode cc pc = .ok (.lload i, 2)) (hl0 : lo[i]? = some (some (.long x))) (kk : V P R Z lo (pc + 2) (.long x :: rest) g cs sl) : V P R Z lo pc rest g cs sl := by
  obtain ⟨p, l, e, s, m, args, below, meth, c, Q, nL⟩ := P
  exact fun ls H locs hl hw hS => lv_lload C.1 C.2.1 hdg (hl.at hl0) (kk ls H locs hl hw hS)
theorem v_lstore_n (C : Cx P Z cc own) {k : Fin 4} {i : Nat} {x : Int64} {lo' : Lo} (hdg : decode cc pc = .ok (.lstore_n k, 1)) (hi : (k : Nat) = i) (hlt : i + 1 < lo.length) (hck : ck1 lo i = true) (he : (lo.set i (some (.long x))).set (i + 1) none = lo') (kk : V P R Z lo' (pc + 1) rest g cs sl) : V P R Z lo pc (.long x :: rest) g cs sl := by
  obtain ⟨p, l, e, s, m, args, below, meth, c, Q, nL⟩ := P
  subst he
  exact fun ls H locs hl hw hS => lv_lstore_n C.1 C.2.1 hdg hi hl.2 (Nat.lt_of_lt_of_le hlt hl.1) rfl (fun ls' h' => kk ls' H locs (Lv.st2 hl.1 hlt hck h') hw hS)
theorem v_lstore (C : Cx P Z cc own) {i : Nat} {x : Int64} {lo' : Lo} (hdg : decode cc pc = .ok (.lstore i, 2)) (hlt : i + 1 < lo.length) (hck : ck1 lo i = true) (he : (lo.set i (some (.long x))).set (i + 1) none = lo') (kk : V P R Z lo' (pc + 2) rest g cs sl) : V P R Z lo pc (.long x :: rest) g cs sl := by
  obtain ⟨p, l, e, s, m, args, below, meth, c, Q, nL⟩ := P
  subst he
  exact fun ls H locs hl hw hS => lv_lstore C.1 C.2.1 hdg hl.2 (Nat.lt_of_lt_of_le hlt hl.1) rfl (fun ls' h' => kk ls' H locs (Lv.st2 hl.1 hlt hck h') hw hS)
theorem v_ladd (C : Cx P Z cc own) {x y : Int64} (hdg : decode cc pc = .ok (.ladd, 1)) (kk : V P R Z lo (pc + 1) (.long (x + y) :: rest) g cs sl) : V P R Z lo pc (.long y :: .long x :: rest) g cs sl := by
  obtain ⟨p, l, e, s, m, args, below, meth, c, Q, nL⟩ := P
  exact fun ls H locs hl hw hS => lv_ladd C.1 C.2.1 hdg (kk ls H locs hl hw hS)
theorem v_lmul (C : Cx P Z cc own) {x y : Int64} (hdg : decode cc pc = .ok (.lmul, 1)) (kk : V P R Z lo (pc + 1) (.long (x * y) :: rest) g cs sl) : V P R Z lo pc (.long y :: .long x :: rest) g cs sl := by
  obtain ⟨p, l, e, s, m, args, below, meth, c, Q, nL⟩ := P
  exact fun ls H locs hl hw hS => lv_lmul C.1 C.2.1 hdg (kk ls H locs hl hw hS)
theorem v_i2l (C : Cx P Z cc own) {x : Int32} (hdg : decode cc pc = .ok (.i2l, 1)) (kk : V P R Z lo (pc + 1) (.long x.toInt64 :: rest) g cs sl) : V P R Z lo pc (.int x :: rest) g cs sl := by
  obtain ⟨p, l, e, s, m, args, below, meth, c, Q, nL⟩ := P
  exact fun ls H locs hl hw hS => lv_i2l C.1 C.2.1 hdg rfl (kk ls H locs hl hw hS)
theorem v_topl {x y : Int64} (h : x = y) (k : V P R Z lo pc (.long y :: rest) g cs sl) : V P R Z lo pc (.long x :: rest) g cs sl := by rw [h]; exact k
theorem v_st {st' : List Value} (h : st = st') (k : V P R Z lo pc st' g cs sl) : V P R Z lo pc st g cs sl := by rw [h]; exact k
/-- checkcast of an object of just that class -/
theorem v_cast (C : Cx P Z cc own) {Cn : String} {T : u_T} {N ci idx : Nat} (hc : vwCl[ci]? = some (Cn, T, N)) (hlink : Cond.classLink own idx Cn ∈ wsG) {k : Nat} {fs : List Value} (hk : cx Z.Y Z.ad Z.df g k = some (.inr (ci, fs))) (hdg : decode cc pc = .ok (.checkcast idx, 3)) (kk : V P R Z lo (pc + 3) (.ref (Z.ad k) :: rest) g cs sl) : V P R Z lo pc (.ref (Z.ad k) :: rest) g cs sl := by
  obtain ⟨p, l, e, s, m, args, below, meth, c, Q, nL⟩ := P
  intro ls H locs hl hw hS
  have hP : va_P Z.D vwCl [(Z.ad k, .inr (ci, fs))] H := by
    intro i q hq
    rcases List.mem_singleton.mp (List.mem_of_getElem? hq) with rfl
    exact (hw.1 k _ hk).1
  exact va_castS C.1 C.2.1 C.2.2.2.1 (C.2.2.2.2.1 _ hlink) (C.2.2.2.2.2.1.1 ci _ hc).2 (va_recv C.2.2.2.2.2.1 hP hc (q0 := 0) rfl) hdg (kk ls H locs hl hw hS)
theorem v_ifnull (C : Cx P Z cc own) {x : Nat} {off : Int} (hdg : decode cc pc = .ok (.ifnull off, 3)) (kk : V P R Z lo (pc + 3) rest g cs sl) : V P R Z lo pc (.ref x :: rest) g cs sl := by
  obtain ⟨p, l, e, s, m, args, below, meth, c, Q, nL⟩ := P
  exact fun ls H locs hl hw hS => lv_ifnull C.1 C.2.1 hdg (kk ls H locs hl hw hS)
theorem v_ifnonnull (C : Cx P Z cc own) {x : Nat} {off : Int} {tgt : Nat} (hdg : decode cc pc = .ok (.ifnonnull off, 3)) (ht : (pc : Int) + off = (tgt : Int)) (kk : V P R Z lo tgt rest g cs sl) : V P R Z lo pc (.ref x :: rest) g cs sl := by
  obtain ⟨p, l, e, s, m, args, below, meth, c, Q, nL⟩ := P
  exact fun ls H locs hl hw hS => lv_ifnonnull C.1 C.2.1 hdg ht (kk ls H locs hl hw hS)
theorem v_ifnullN (C : Cx P Z cc own) {off : Int} {tgt : Nat} (hdg : decode cc pc = .ok (.ifnull off, 3)) (ht : (pc : Int) + off = (tgt : Int)) (kk : V P R Z lo tgt rest g cs sl) : V P R Z lo pc (.null :: rest) g cs sl := by
  obtain ⟨p, l, e, s, m, args, below, meth, c, Q, nL⟩ := P
  exact fun ls H locs hl hw hS => lv_ifnullN C.1 C.2.1 hdg ht (kk ls H locs hl hw hS)
theorem v_ifnonnullN (C : Cx P Z cc own) {off : Int} (hdg : decode cc pc = .ok (.ifnonnull off, 3)) (kk : V P R Z lo (pc + 3) rest g cs sl) : V P R Z lo pc (.null :: rest) g cs sl := by
  obtain ⟨p, l, e, s, m, args, below, meth, c, Q, nL⟩ := P
  exact fun ls H locs hl hw hS => lv_ifnonnullN C.1 C.2.1 hdg (kk ls H locs hl hw hS)
theorem v_acmp_ne (C : Cx P Z cc own) {rx ry : Option Nat} {off : Int} {tgt : Nat} (hdg : decode cc pc = .ok (.if_acmp .ne off, 3)) (ht : (pc : Int) + off = (tgt : Int)) (kt : ¬ rx = ry → V P R Z lo tgt rest g cs sl) (kf : rx = ry → V P R Z lo (pc + 3) rest g cs sl) : V P R Z lo pc (va_rf ry :: va_rf rx :: rest) g cs sl := by
  obtain ⟨p, l, e, s, m, args, below, meth, c, Q, nL⟩ := P
  exact fun ls H locs hl hw hS => lv_acmp_ne C.1 C.2.1 hdg ht (fun h => kt h ls H locs hl hw hS) (fun h => kf h ls H locs hl hw hS)
theorem v_aload_nN (C : Cx P Z cc own) {k : Fin 4} {i : Nat} (hdg : decode cc pc = .ok (.aload_n k, 1)) (hi : (k : Nat) = i) (hl0 : lo[i]? = some (some .null)) (kk : V P R Z lo (pc + 1) (.null :: rest) g cs sl) : V P R Z lo pc rest g cs sl := by
  obtain ⟨p, l, e, s, m, args, below, meth, c, Q, nL⟩ := P
  exact fun ls H locs hl hw hS => lv_aload_nN C.1 C.2.1 hdg hi (hl.at hl0) (kk ls H locs hl hw hS)
theorem v_aloadN (C : Cx P Z cc own) {i : Nat} (hdg : decode cc pc = .ok (.aload i, 2)) (hl0 : lo[i]? = some (some .null)) (kk : V P R Z lo (pc + 2) (.null :: rest) g cs sl) : V P R Z lo pc rest g cs sl := by
  obtain ⟨p, l, e, s, m, args, below, meth, c, Q, nL⟩ := P
  exact fun ls H locs hl hw hS => lv_aloadN C.1 C.2.1 hdg (hl.at hl0) (kk ls H locs hl hw hS)
theorem v_astore_nN (C : Cx P Z cc own) {k : Fin 4} {i : Nat} {lo' : Lo} (hdg : decode cc pc = .ok (.astore_n k, 1)) (hi : (k : Nat) = i) (hlt : i < lo.length) (hck : ck1 lo i = true) (he : lo.set i (some .null) = lo') (kk : V P R Z lo' (pc + 1) rest g cs sl) : V P R Z lo pc (.null :: rest) g cs sl := by
  obtain ⟨p, l, e, s, m, args, below, meth, c, Q, nL⟩ := P
  subst he
  exact fun ls H locs hl hw hS => lv_astore_nN C.1 C.2.1 hdg hi hl.2 (Nat.lt_of_lt_of_le hlt hl.1) rfl (fun ls' h' => kk ls' H locs (Lv.st1 hl.1 hlt hck h') hw hS)
theorem v_astoreN (C : Cx P Z cc own) {i : Nat} {lo' : Lo} (hdg : decode cc pc = .ok (.astore i, 2)) (hlt : i < lo.length) (hck : ck1 lo i = true) (he : lo.set i (some .null) = lo') (kk : V P R Z lo' (pc + 2) rest g cs sl) : V P R Z lo pc (.null :: rest) g cs sl := by
  obtain ⟨p, l, e, s, m, args, below, meth, c, Q, nL⟩ := P
  subst he
  exact fun ls H locs hl hw hS => lv_astoreN C.1 C.2.1 hdg hl.2 (Nat.lt_of_lt_of_le hlt hl.1) rfl (fun ls' h' => kk ls' H locs (Lv.st1 hl.1 hlt hck h') hw hS)
end VR4
