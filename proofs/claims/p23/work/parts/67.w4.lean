/-! THE LAW'S OWN METHODS: contracts over worlds whose law's cells change; calls -/
def tensF (i : Nat) : Value := .int (Int32.ofNat (48 + i / 10))
def onesF (i : Nat) : Value := .int (Int32.ofNat (48 + i % 10))
/-- the builder's members that its superclass keeps to itself -/
def wsSel : List Cond := [.selects "java/lang/StringBuilder" yJ5_ensureCapacityInternal_d00df yJ5_ensureCapacityInternal_d00df, .selects "java/lang/StringBuilder" yJ5_putStringAt_47b60 yJ5_putStringAt_47b60, .selects "java/lang/StringBuilder" yJ5_inflateIfNeededFor_a7421 yJ5_inflateIfNeededFor_a7421]
theorem va_Nw.warmS {C : String} {x y : MethodName} {s U : State} (hW : s.WarmedH U.vm) (h : va_Nw (.selects C x y) s) : va_Nw (.selects C x y) U := word_at hW (Or.inl (by first | rfl | simp [Cond.onTables, Cond.keeps, Cond.steady])) h
theorem wsSel_warm {s U : State} (hW : s.WarmedH U.vm) (h : ∀ w ∈ wsSel, va_Nw w s) : ∀ w ∈ wsSel, va_Nw w U := by
  intro w hw
  have h1 := h w hw
  simp only [wsSel, List.mem_cons, List.not_mem_nil, or_false] at hw
  rcases hw with rfl | rfl | rfl <;> exact va_Nw.warmS hW h1
theorem wsSel_same {u U : State} (hv : u.vm = U.vm) (h : ∀ w ∈ wsSel, va_Nw w u) : ∀ w ∈ wsSel, va_Nw w U := by
  intro w hw
  have h1 := h w hw
  simp only [wsSel, List.mem_cons, List.not_mem_nil, or_false] at hw
  rcases hw with rfl | rfl | rfl <;> exact va_Nw.same rfl hv h1
/-- the empty text of the law's code -/
def EmL (z a : Nat) (U : State) (H : Heap) : Prop := ∃ b, vk_R "PosterTypesLaw$Sim" 35 "" a U ∧ va_O "java/lang/String" a (A0 z) U H ∧ va_OF "java/lang/String" "coder" "B" (.int 0) a (A0 z) U H ∧ va_OF "java/lang/String" "value" "[B" (.ref b) a (A0 z) U H ∧ va_T .byte b 0 (fun _ => .int 0) (A0 z) U H ∧ ∀ w ∈ wsSel, va_Nw w U
/-- the JDK's statics that are read, at addresses that no one writes -/
def StaL (q : Nat × Nat) (U : State) (H : Heap) : Prop := va_Z "java/lang/String" "COMPACT_STRINGS" "Z" (.int 1) (A0 q.1) U H ∧ (∃ t, va_Z "java/lang/Integer" "DigitTens" "[B" (.ref t) (A0 q.1) U H ∧ va_T .byte t 100 tensF (A0 q.1) U H) ∧ (∃ t, va_Z "java/lang/Integer" "DigitOnes" "[B" (.ref t) (A0 q.1) U H ∧ va_T .byte t 100 onesF (A0 q.1) U H) ∧ va_Zq "jdk/internal/util/Preconditions" "SIOOBE_FORMATTER" "Ljava/util/function/BiFunction;" (A0 q.1) U H ∧ EmL q.1 q.2 U H
theorem StaL.warm {z : Nat × Nat} {s U : State} {H : Heap} (hW : s.WarmedH U.vm) (h : StaL z s H) : StaL z U H := by
  have hvm := hW.alike
  obtain ⟨h1, ⟨t, h2, h3⟩, ⟨t', h4, h5⟩, h6, b, h7, h8, h9, h10, h11, h12⟩ := h
  exact ⟨h1.moved hvm, ⟨t, h2.moved hvm, h3.moved hvm⟩, ⟨t', h4.moved hvm, h5.moved hvm⟩, h6.moved hvm, b, h7.warm hW, h8.moved hvm, h9.moved hvm, h10.moved hvm, h11.moved hvm, wsSel_warm hW h12⟩
theorem StaL.same {z : Nat × Nat} {u U : State} {H : Heap} (hv : u.vm = U.vm) (h : StaL z u H) : StaL z U H := by
  have hvm : u.vm.Alike U.vm := by rw [hv]; exact Vm.Alike.refl U.vm
  obtain ⟨h1, ⟨t, h2, h3⟩, ⟨t', h4, h5⟩, h6, b, h7, h8, h9, h10, h11, h12⟩ := h
  exact ⟨h1.moved hvm, ⟨t, h2.moved hvm, h3.moved hvm⟩, ⟨t', h4.moved hvm, h5.moved hvm⟩, h6.moved hvm, b, vk_R.same hv.symm h7, h8.moved hvm, h9.moved hvm, h10.moved hvm, h11.moved hvm, wsSel_same hv h12⟩
theorem StaL.kept {z : Nat × Nat} {U : State} {H H1 : Heap} (h : StaL z U H) (hq : ∀ a : Nat, a < H.size → ¬ A0 z.1 a → H1[a]? = H[a]?) : StaL z U H1 := by
  obtain ⟨h1, ⟨t, h2, h3⟩, ⟨t', h4, h5⟩, h6, b, h7, h8, h9, h10, h11, h12⟩ := h
  exact ⟨h1.kept hq, ⟨t, h2.kept hq, h3.kept hq⟩, ⟨t', h4.kept hq, h5.kept hq⟩, h6.kept hq, b, h7, h8.kept hq, h9.kept hq, h10.kept hq, h11.kept hq, h12⟩
def WL (Z : Zc) (ad : Nat → Nat) (m g : MG) (U : State) : Prop := Wd (Z.wl ad m) g U ∧ StrA U ∧ StrL U ∧ StaL Z.2.2.2.2 U U.heap
def CxW (P : Pm) (Z : Zc) : Prop := match P with
  | (_, _, _, s, _, _, _, _, _, _, _) => StrA s ∧ StrL s ∧ StaL Z.2.2.2.2 s s.heap
theorem CxW.S {P : Pm} {Z : Zc} (h : CxW P Z) : CxS P := h.1
theorem CxW.M {P : Pm} {Z : Zc} (h : CxW P Z) : CxM P := h.1.2.1
theorem CxW.L {P : Pm} {Z : Zc} (h : CxW P Z) : CxL P := h.2.1
theorem WL_fb {Z : Zc} {as : List Value} {ad : Nat → Nat} {m g : MG} : FrameBlind (va_Pc as (fun U => WL Z ad m g U)) := fun a U g' mk h => ⟨h.1, Wd_blind (U := U) (U' := U.calling g' mk a) rfl (Vm.Alike.refl U.vm) h.2.1, StrA.same (u := U) rfl h.2.2.1, StrL.same (u := U) rfl h.2.2.2.1, h.2.2.2.2.same (u := U) rfl⟩
abbrev LU : Type := (Nat → Nat) × MG × MG
def LMi (l : Launch) (y : MethodName) (cc : ByteArray) (maxL : Nat) (ret : Option FieldType) (rm : Room) (Z : Zc) (as : List Value) (ad : Nat → Nat) (m g : MG) (post : Int32 → (Nat → Nat) → MG → MG → Prop) : Prop := Met l y (wz y cc maxL ret) rm (va_Pc as (fun U => WL Z ad m g U)) (va_Qi (fun r (u : LU) => post r u.1 u.2.1 u.2.2) (fun u t => Wd (Z.wl u.1 u.2.1) u.2.2 t) (A0 Z.z)) rm.cells rm.slots (A0 Z.z)
def LMq (l : Launch) (y : MethodName) (cc : ByteArray) (maxL : Nat) (ret : Option FieldType) (rm : Room) (Z : Zc) (as : List Value) (ad : Nat → Nat) (m g : MG) (post : Option Nat → (Nat → Nat) → MG → MG → Prop) : Prop := Met l y (wz y cc maxL ret) rm (va_Pc as (fun U => WL Z ad m g U)) (va_Qq (fun r (u : LU) => post r u.1 u.2.1 u.2.2) (fun u t => Wd (Z.wl u.1 u.2.1) u.2.2 t) (A0 Z.z)) rm.cells rm.slots (A0 Z.z)
def LMv (l : Launch) (y : MethodName) (cc : ByteArray) (maxL : Nat) (rm : Room) (Z : Zc) (as : List Value) (ad : Nat → Nat) (m g : MG) (post : (Nat → Nat) → MG → MG → Prop) : Prop := Met l y (wz y cc maxL none) rm (va_Pc as (fun U => WL Z ad m g U)) (va_Qv (fun (u : LU) => post u.1 u.2.1 u.2.2) (fun u t => Wd (Z.wl u.1 u.2.1) u.2.2 t) (A0 Z.z)) rm.cells rm.slots (A0 Z.z)
theorem ent_li {l : Launch} {y : MethodName} {cc : ByteArray} {maxL : Nat} {rm : Room} {Z : Zc} {as : List Value} {ad : Nat → Nat} {m g : MG} {post : Int32 → (Nat → Nat) → MG → MG → Prop} {own : String} {lo : Lo} (hy : plainName y.cls = true) (ho : y.cls = own) (hlen : (lg_sl as).length ≤ maxL) (hlo : loA (lv_args 0 as) maxL = lo)
    (body : ∀ P : Pm, P.2.1 = l → Cx P Z cc own → CxW P Z → (∀ (pc : Nat) (lo' : Lo) (v : Int32) (ad' : Nat → Nat) (m' g' : MG), decode cc pc = .ok (.ireturn, 1) → post v ad' m' g' → V P rm (Z.wl ad' m') lo' pc [.int v] g' rm.cells rm.slots) → V P rm (Z.wl ad m) lo 0 [] g 0 0) : LMi l y cc maxL (some .int) rm Z as ad m g post := by
  refine Met.ofW (cc := cc) (maxL := maxL) (ret := some .int) hy rfl ?_
  intro p e s mm args below meth c s₁ B hml hv
  obtain ⟨rfl, ⟨hw, hK, hz, hst⟩, hW9⟩ := hv
  have hts : ∀ w ∈ wsG, w.before as.toArray s = true := fun w h => atoms_spec (ws := wz y cc maxL (some .int)) B.pre w (List.mem_cons_of_mem _ h)
  have hown : s.vm.findClass own = some mm.cls := ho ▸ findClass_of_methodNamed B.named
  have hl := lv_entry as hlen
  rw [lg_entry_eq]
  generalize (lg_sl as ++ List.replicate (maxL - (lg_sl as).length) Slot.unset).toArray = ls at hl ⊢
  refine body (p, l, e, s, mm, as.toArray, below, meth, c, _, maxL) rfl ⟨B.exec, B.bytes, hml, hown, hts, hK, hz, B.notSynchronized, hst⟩ hW9 ?_ ls s.heap [] (hlo ▸ Lv_of hl) hw va_S.rf
  intro pc lo' v ad' m' g' hdg hp ls H locs hl hw' hS
  exact W.iret B.exec B.bytes B.returns (fun t ht hW => ⟨⟨v, (ad', m', g'), rfl, hp, Wd_of (Z := Z.wl ad' m') hw' hK hz hst hS ht hW.alike⟩, hS.F ht⟩) hS.2.2 hdg
theorem ent_lz {l : Launch} {y : MethodName} {cc : ByteArray} {maxL : Nat} {rm : Room} {Z : Zc} {as : List Value} {ad : Nat → Nat} {m g : MG} {post : Int32 → (Nat → Nat) → MG → MG → Prop} {own : String} {lo : Lo} (hy : plainName y.cls = true) (ho : y.cls = own) (hlen : (lg_sl as).length ≤ maxL) (hlo : loA (lv_args 0 as) maxL = lo)
    (body : ∀ P : Pm, P.2.1 = l → Cx P Z cc own → CxW P Z → (∀ (pc : Nat) (lo' : Lo) (v : Int32) (ad' : Nat → Nat) (m' g' : MG), decode cc pc = .ok (.ireturn, 1) → (v = 0 ∨ v = 1) → post v ad' m' g' → V P rm (Z.wl ad' m') lo' pc [.int v] g' rm.cells rm.slots) → V P rm (Z.wl ad m) lo 0 [] g 0 0) : LMi l y cc maxL (some .boolean) rm Z as ad m g post := by
  refine Met.ofW (cc := cc) (maxL := maxL) (ret := some .boolean) hy rfl ?_
  intro p e s mm args below meth c s₁ B hml hv
  obtain ⟨rfl, ⟨hw, hK, hz, hst⟩, hW9⟩ := hv
  have hts : ∀ w ∈ wsG, w.before as.toArray s = true := fun w h => atoms_spec (ws := wz y cc maxL (some .boolean)) B.pre w (List.mem_cons_of_mem _ h)
  have hown : s.vm.findClass own = some mm.cls := ho ▸ findClass_of_methodNamed B.named
  have hl := lv_entry as hlen
  rw [lg_entry_eq]
  generalize (lg_sl as ++ List.replicate (maxL - (lg_sl as).length) Slot.unset).toArray = ls at hl ⊢
  refine body (p, l, e, s, mm, as.toArray, below, meth, c, _, maxL) rfl ⟨B.exec, B.bytes, hml, hown, hts, hK, hz, B.notSynchronized, hst⟩ hW9 ?_ ls s.heap [] (hlo ▸ Lv_of hl) hw va_S.rf
  intro pc lo' v ad' m' g' hdg hv hp ls H locs hl hw' hS
  exact W.zret B.exec B.bytes B.returns (by rcases hv with rfl | rfl <;> rfl) (fun t ht hW => ⟨⟨v, (ad', m', g'), rfl, hp, Wd_of (Z := Z.wl ad' m') hw' hK hz hst hS ht hW.alike⟩, hS.F ht⟩) hS.2.2 hdg
theorem ent_lq {l : Launch} {y : MethodName} {cc : ByteArray} {maxL : Nat} {rm : Room} {Z : Zc} {as : List Value} {ad : Nat → Nat} {m g : MG} {post : Option Nat → (Nat → Nat) → MG → MG → Prop} {own : String} {lo : Lo} {rt : FieldType} (hrt : (∃ n, rt = .object n) ∨ ∃ t, rt = .array t) (hy : plainName y.cls = true) (ho : y.cls = own) (hlen : (lg_sl as).length ≤ maxL) (hlo : loA (lv_args 0 as) maxL = lo)
    (body : ∀ P : Pm, P.2.1 = l → Cx P Z cc own → CxW P Z → (∀ (pc : Nat) (lo' : Lo) (v : Option Nat) (ad' : Nat → Nat) (m' g' : MG), decode cc pc = .ok (.areturn, 1) → post v ad' m' g' → V P rm (Z.wl ad' m') lo' pc [va_rf v] g' rm.cells rm.slots) → V P rm (Z.wl ad m) lo 0 [] g 0 0) : LMq l y cc maxL (some rt) rm Z as ad m g post := by
  refine Met.ofW (cc := cc) (maxL := maxL) (ret := some rt) hy rfl ?_
  intro p e s mm args below meth c s₁ B hml hv
  obtain ⟨rfl, ⟨hw, hK, hz, hst⟩, hW9⟩ := hv
  have hts : ∀ w ∈ wsG, w.before as.toArray s = true := fun w h => atoms_spec (ws := wz y cc maxL (some rt)) B.pre w (List.mem_cons_of_mem _ h)
  have hown : s.vm.findClass own = some mm.cls := ho ▸ findClass_of_methodNamed B.named
  have hl := lv_entry as hlen
  rw [lg_entry_eq]
  generalize (lg_sl as ++ List.replicate (maxL - (lg_sl as).length) Slot.unset).toArray = ls at hl ⊢
  refine body (p, l, e, s, mm, as.toArray, below, meth, c, _, maxL) rfl ⟨B.exec, B.bytes, hml, hown, hts, hK, hz, B.notSynchronized, hst⟩ hW9 ?_ ls s.heap [] (hlo ▸ Lv_of hl) hw va_S.rf
  intro pc lo' v ad' m' g' hdg hp ls H locs hl hw' hS
  exact W.aret B.exec B.bytes B.returns hrt (va_rf_or v) (fun t ht hW => ⟨⟨v, (ad', m', g'), rfl, hp, Wd_of (Z := Z.wl ad' m') hw' hK hz hst hS ht hW.alike⟩, hS.F ht⟩) hS.2.2 hdg
theorem ent_lv {l : Launch} {y : MethodName} {cc : ByteArray} {maxL : Nat} {rm : Room} {Z : Zc} {as : List Value} {ad : Nat → Nat} {m g : MG} {post : (Nat → Nat) → MG → MG → Prop} {own : String} {lo : Lo} (hy : plainName y.cls = true) (ho : y.cls = own) (hlen : (lg_sl as).length ≤ maxL) (hlo : loA (lv_args 0 as) maxL = lo)
    (body : ∀ P : Pm, P.2.1 = l → Cx P Z cc own → CxW P Z → (∀ (pc : Nat) (lo' : Lo) (ad' : Nat → Nat) (m' g' : MG), decode cc pc = .ok (.return_, 1) → post ad' m' g' → V P rm (Z.wl ad' m') lo' pc [] g' rm.cells rm.slots) → V P rm (Z.wl ad m) lo 0 [] g 0 0) : LMv l y cc maxL rm Z as ad m g post := by
  refine Met.ofW (cc := cc) (maxL := maxL) (ret := none) hy rfl ?_
  intro p e s mm args below meth c s₁ B hml hv
  obtain ⟨rfl, ⟨hw, hK, hz, hst⟩, hW9⟩ := hv
  have hts : ∀ w ∈ wsG, w.before as.toArray s = true := fun w h => atoms_spec (ws := wz y cc maxL (none)) B.pre w (List.mem_cons_of_mem _ h)
  have hown : s.vm.findClass own = some mm.cls := ho ▸ findClass_of_methodNamed B.named
  have hl := lv_entry as hlen
  rw [lg_entry_eq]
  generalize (lg_sl as ++ List.replicate (maxL - (lg_sl as).length) Slot.unset).toArray = ls at hl ⊢
  refine body (p, l, e, s, mm, as.toArray, below, meth, c, _, maxL) rfl ⟨B.exec, B.bytes, hml, hown, hts, hK, hz, B.notSynchronized, hst⟩ hW9 ?_ ls s.heap [] (hlo ▸ Lv_of hl) hw va_S.rf
  intro pc lo' ad' m' g' hdg hp ls H locs hl hw' hS
  exact W.vret B.exec B.bytes B.returns (fun t ht hW => ⟨⟨(ad', m', g'), rfl, hp, Wd_of (Z := Z.wl ad' m') hw' hK hz hst hS ht hW.alike⟩, hS.F ht⟩) hS.2.2 hdg
section LC
variable {P : Pm} {R : Room} {Z : Zc} {cc : ByteArray} {own : String} {lo : Lo} {pc : Nat} {rest st : List Value} {g : MG} {cs sl : Nat} {ad : Nat → Nat} {m : MG}
theorem l_callVi (C : Cx P Z cc own) (hW9 : CxW P Z) {y : MethodName} {cc' : ByteArray} {maxL idx n k ci N : Nat} {ret : Option FieldType} {rm' : Room} {as : List Value} {post : Int32 → (Nat → Nat) → MG → MG → Prop} {Cn : String} {T : u_T} {fs : List Value} (hM : LMi P.2.1 y cc' maxL ret rm' Z (.ref (ad k) :: as) ad m g post) (hG : GoodIn wsG (wsV own idx Cn y (wz y cc' maxL ret)))
    (hd : y.cls = Cn ∧ y.cls ≠ "java/lang/invoke/MethodHandle" ∧ y.cls ≠ "java/lang/invoke/VarHandle" ∧ (parseMethodDescriptor y.desc).map (fun d => d.parameters.length) = some n) (hR : rm'.frames + 1 ≤ R.frames ∧ 8 + (maxL + 11) + rm'.locals ≤ R.locals) (hc : vwCl[ci]? = some (Cn, T, N)) (hk9 : 600 ≤ k ∧ k < 1200) (hk : cW Z.Y ad (m k) = some (.inr (ci, fs))) (hn : as.length = n) (hst : st = as.reverse ++ .ref (ad k) :: rest) (hr : (rest.map fun v => v.category).sum ≤ 8) (hdg : decode cc pc = .ok (.invokevirtual idx, 3)) (hf : cs + rm'.cells ≤ R.cells ∧ sl + rm'.slots ≤ R.slots)
    (kk : ∀ (r : Int32) (ad' : Nat → Nat) (m' g' : MG), post r ad' m' g' → V P R (Z.wl ad' m') lo (pc + 3) (.int r :: rest) g' (cs + rm'.cells) (sl + rm'.slots)) : V P R (Z.wl ad m) lo pc st g cs sl := by
  obtain ⟨p, l, e, s, mm, args, below, meth, c, Q, nL⟩ := P
  subst hst
  intro ls H locs hl hw hS
  have hP : va_P Z.D vwCl [(ad k, .inr (ci, fs))] H := by
    intro i q hq
    rcases List.mem_singleton.mp (List.mem_of_getElem? hq) with rfl
    exact (l_at hw hk9 hk).1
  refine va_calli (va_runV (As := as) (rest := rest) ⟨C.1, C.2.1, C.2.2.1, C.2.2.2.1, C.2.2.2.2.1⟩ hM (cwV n C.2.2.2.2.1 hG rfl rfl rfl hd hR) ⟨WL_fb, va_recv C.2.2.2.2.2.1 hP hc (q0 := 0) rfl, fun U hU hW => ⟨rfl, Wd_of (Z := Z.wl ad m) hw C.2.2.2.2.2.1 C.2.2.2.2.2.2.1 C.2.2.2.2.2.2.2.2 hS hU hW.alike, StrA.warm hW hW9.1, StrL.warm hW hW9.2.1, by rw [hU]; exact (hW9.2.2.kept hS.2.1).warm hW⟩⟩ rfl hn hl.2.1 rfl (lv_room hr) hdg hf) hS (fun _ _ h => h) (fun _ h => h) (fun r u t H1 locs1 ht hvm hp hB hz1 hk1 hS1 => ?_)
  refine kk r u.1 u.2.1 u.2.2 hp ls H1 locs1 hl ?_ hS1
  rw [← ht]; exact hB.1
theorem l_callSi (C : Cx P Z cc own) (hW9 : CxW P Z) {y : MethodName} {cc' : ByteArray} {maxL idx n : Nat} {ret : Option FieldType} {rm' : Room} {as : List Value} {post : Int32 → (Nat → Nat) → MG → MG → Prop} (hM : LMi P.2.1 y cc' maxL ret rm' Z as ad m g post) (hG : GoodIn wsG (va_wsS own idx y (wz y cc' maxL ret)))
    (hd : y.cls ≠ "java/lang/invoke/MethodHandle" ∧ y.cls ≠ "java/lang/invoke/VarHandle" ∧ (parseMethodDescriptor y.desc).map (fun d => d.parameters.length) = some n) (hR : rm'.frames + 1 ≤ R.frames ∧ 8 + (maxL + 11) + rm'.locals ≤ R.locals) (hn : as.length = n) (hst : st = as.reverse ++ rest) (hr : (rest.map fun v => v.category).sum ≤ 8) (hdg : decode cc pc = .ok (.invokestatic idx, 3)) (hf : cs + rm'.cells ≤ R.cells ∧ sl + rm'.slots ≤ R.slots)
    (kk : ∀ (r : Int32) (ad' : Nat → Nat) (m' g' : MG), post r ad' m' g' → V P R (Z.wl ad' m') lo (pc + 3) (.int r :: rest) g' (cs + rm'.cells) (sl + rm'.slots)) : V P R (Z.wl ad m) lo pc st g cs sl := by
  obtain ⟨p, l, e, s, mm, args, below, meth, c, Q, nL⟩ := P
  subst hst
  intro ls H locs hl hw hS
  refine va_calli (va_runS (As := as) (rest := rest) ⟨C.1, C.2.1, C.2.2.1, C.2.2.2.1, C.2.2.2.2.1⟩ hM (va_cwS n C.2.2.2.2.1 hG rfl rfl rfl hd hR) ⟨WL_fb, fun U hU hW => ⟨rfl, Wd_of (Z := Z.wl ad m) hw C.2.2.2.2.2.1 C.2.2.2.2.2.2.1 C.2.2.2.2.2.2.2.2 hS hU hW.alike, StrA.warm hW hW9.1, StrL.warm hW hW9.2.1, by rw [hU]; exact (hW9.2.2.kept hS.2.1).warm hW⟩⟩ rfl hn hl.2.1 rfl (lv_room hr) hdg hf) hS (fun _ _ h => h) (fun _ h => h) (fun r u t H1 locs1 ht hvm hp hB hz1 hk1 hS1 => ?_)
  refine kk r u.1 u.2.1 u.2.2 hp ls H1 locs1 hl ?_ hS1
  rw [← ht]; exact hB.1
theorem l_callVq (C : Cx P Z cc own) (hW9 : CxW P Z) {y : MethodName} {cc' : ByteArray} {maxL idx n k ci N : Nat} {ret : Option FieldType} {rm' : Room} {as : List Value} {post : Option Nat → (Nat → Nat) → MG → MG → Prop} {Cn : String} {T : u_T} {fs : List Value} (hM : LMq P.2.1 y cc' maxL ret rm' Z (.ref (ad k) :: as) ad m g post) (hG : GoodIn wsG (wsV own idx Cn y (wz y cc' maxL ret)))
    (hd : y.cls = Cn ∧ y.cls ≠ "java/lang/invoke/MethodHandle" ∧ y.cls ≠ "java/lang/invoke/VarHandle" ∧ (parseMethodDescriptor y.desc).map (fun d => d.parameters.length) = some n) (hR : rm'.frames + 1 ≤ R.frames ∧ 8 + (maxL + 11) + rm'.locals ≤ R.locals) (hc : vwCl[ci]? = some (Cn, T, N)) (hk9 : 600 ≤ k ∧ k < 1200) (hk : cW Z.Y ad (m k) = some (.inr (ci, fs))) (hn : as.length = n) (hst : st = as.reverse ++ .ref (ad k) :: rest) (hr : (rest.map fun v => v.category).sum ≤ 8) (hdg : decode cc pc = .ok (.invokevirtual idx, 3)) (hf : cs + rm'.cells ≤ R.cells ∧ sl + rm'.slots ≤ R.slots)
    (kk : ∀ (r : Option Nat) (ad' : Nat → Nat) (m' g' : MG), post r ad' m' g' → V P R (Z.wl ad' m') lo (pc + 3) (va_rf r :: rest) g' (cs + rm'.cells) (sl + rm'.slots)) : V P R (Z.wl ad m) lo pc st g cs sl := by
  obtain ⟨p, l, e, s, mm, args, below, meth, c, Q, nL⟩ := P
  subst hst
  intro ls H locs hl hw hS
  have hP : va_P Z.D vwCl [(ad k, .inr (ci, fs))] H := by
    intro i q hq
    rcases List.mem_singleton.mp (List.mem_of_getElem? hq) with rfl
    exact (l_at hw hk9 hk).1
  refine va_callq (va_runV (As := as) (rest := rest) ⟨C.1, C.2.1, C.2.2.1, C.2.2.2.1, C.2.2.2.2.1⟩ hM (cwV n C.2.2.2.2.1 hG rfl rfl rfl hd hR) ⟨WL_fb, va_recv C.2.2.2.2.2.1 hP hc (q0 := 0) rfl, fun U hU hW => ⟨rfl, Wd_of (Z := Z.wl ad m) hw C.2.2.2.2.2.1 C.2.2.2.2.2.2.1 C.2.2.2.2.2.2.2.2 hS hU hW.alike, StrA.warm hW hW9.1, StrL.warm hW hW9.2.1, by rw [hU]; exact (hW9.2.2.kept hS.2.1).warm hW⟩⟩ rfl hn hl.2.1 rfl (lv_room hr) hdg hf) hS (fun _ _ h => h) (fun _ h => h) (fun r u t H1 locs1 ht hvm hp hB hz1 hk1 hS1 => ?_)
  refine kk r u.1 u.2.1 u.2.2 hp ls H1 locs1 hl ?_ hS1
  rw [← ht]; exact hB.1
theorem l_callSq (C : Cx P Z cc own) (hW9 : CxW P Z) {y : MethodName} {cc' : ByteArray} {maxL idx n : Nat} {ret : Option FieldType} {rm' : Room} {as : List Value} {post : Option Nat → (Nat → Nat) → MG → MG → Prop} (hM : LMq P.2.1 y cc' maxL ret rm' Z as ad m g post) (hG : GoodIn wsG (va_wsS own idx y (wz y cc' maxL ret)))
    (hd : y.cls ≠ "java/lang/invoke/MethodHandle" ∧ y.cls ≠ "java/lang/invoke/VarHandle" ∧ (parseMethodDescriptor y.desc).map (fun d => d.parameters.length) = some n) (hR : rm'.frames + 1 ≤ R.frames ∧ 8 + (maxL + 11) + rm'.locals ≤ R.locals) (hn : as.length = n) (hst : st = as.reverse ++ rest) (hr : (rest.map fun v => v.category).sum ≤ 8) (hdg : decode cc pc = .ok (.invokestatic idx, 3)) (hf : cs + rm'.cells ≤ R.cells ∧ sl + rm'.slots ≤ R.slots)
    (kk : ∀ (r : Option Nat) (ad' : Nat → Nat) (m' g' : MG), post r ad' m' g' → V P R (Z.wl ad' m') lo (pc + 3) (va_rf r :: rest) g' (cs + rm'.cells) (sl + rm'.slots)) : V P R (Z.wl ad m) lo pc st g cs sl := by
  obtain ⟨p, l, e, s, mm, args, below, meth, c, Q, nL⟩ := P
  subst hst
  intro ls H locs hl hw hS
  refine va_callq (va_runS (As := as) (rest := rest) ⟨C.1, C.2.1, C.2.2.1, C.2.2.2.1, C.2.2.2.2.1⟩ hM (va_cwS n C.2.2.2.2.1 hG rfl rfl rfl hd hR) ⟨WL_fb, fun U hU hW => ⟨rfl, Wd_of (Z := Z.wl ad m) hw C.2.2.2.2.2.1 C.2.2.2.2.2.2.1 C.2.2.2.2.2.2.2.2 hS hU hW.alike, StrA.warm hW hW9.1, StrL.warm hW hW9.2.1, by rw [hU]; exact (hW9.2.2.kept hS.2.1).warm hW⟩⟩ rfl hn hl.2.1 rfl (lv_room hr) hdg hf) hS (fun _ _ h => h) (fun _ h => h) (fun r u t H1 locs1 ht hvm hp hB hz1 hk1 hS1 => ?_)
  refine kk r u.1 u.2.1 u.2.2 hp ls H1 locs1 hl ?_ hS1
  rw [← ht]; exact hB.1
theorem l_callVv (C : Cx P Z cc own) (hW9 : CxW P Z) {y : MethodName} {cc' : ByteArray} {maxL idx n k ci N : Nat} {rm' : Room} {as : List Value} {post : (Nat → Nat) → MG → MG → Prop} {Cn : String} {T : u_T} {fs : List Value} (hM : LMv P.2.1 y cc' maxL rm' Z (.ref (ad k) :: as) ad m g post) (hG : GoodIn wsG (wsV own idx Cn y (wz y cc' maxL none)))
    (hd : y.cls = Cn ∧ y.cls ≠ "java/lang/invoke/MethodHandle" ∧ y.cls ≠ "java/lang/invoke/VarHandle" ∧ (parseMethodDescriptor y.desc).map (fun d => d.parameters.length) = some n) (hR : rm'.frames + 1 ≤ R.frames ∧ 8 + (maxL + 11) + rm'.locals ≤ R.locals) (hc : vwCl[ci]? = some (Cn, T, N)) (hk9 : 600 ≤ k ∧ k < 1200) (hk : cW Z.Y ad (m k) = some (.inr (ci, fs))) (hn : as.length = n) (hst : st = as.reverse ++ .ref (ad k) :: rest) (hr : (rest.map fun v => v.category).sum ≤ 8) (hdg : decode cc pc = .ok (.invokevirtual idx, 3)) (hf : cs + rm'.cells ≤ R.cells ∧ sl + rm'.slots ≤ R.slots)
    (kk : ∀ (ad' : Nat → Nat) (m' g' : MG), post ad' m' g' → V P R (Z.wl ad' m') lo (pc + 3) rest g' (cs + rm'.cells) (sl + rm'.slots)) : V P R (Z.wl ad m) lo pc st g cs sl := by
  obtain ⟨p, l, e, s, mm, args, below, meth, c, Q, nL⟩ := P
  subst hst
  intro ls H locs hl hw hS
  have hP : va_P Z.D vwCl [(ad k, .inr (ci, fs))] H := by
    intro i q hq
    rcases List.mem_singleton.mp (List.mem_of_getElem? hq) with rfl
    exact (l_at hw hk9 hk).1
  refine va_callv (va_runV (As := as) (rest := rest) ⟨C.1, C.2.1, C.2.2.1, C.2.2.2.1, C.2.2.2.2.1⟩ hM (cwV n C.2.2.2.2.1 hG rfl rfl rfl hd hR) ⟨WL_fb, va_recv C.2.2.2.2.2.1 hP hc (q0 := 0) rfl, fun U hU hW => ⟨rfl, Wd_of (Z := Z.wl ad m) hw C.2.2.2.2.2.1 C.2.2.2.2.2.2.1 C.2.2.2.2.2.2.2.2 hS hU hW.alike, StrA.warm hW hW9.1, StrL.warm hW hW9.2.1, by rw [hU]; exact (hW9.2.2.kept hS.2.1).warm hW⟩⟩ rfl hn hl.2.1 rfl (lv_room hr) hdg hf) hS (fun _ _ h => h) (fun _ h => h) (fun u t H1 locs1 ht hvm hp hB hz1 hk1 hS1 => ?_)
  refine kk u.1 u.2.1 u.2.2 hp ls H1 locs1 hl ?_ hS1
  rw [← ht]; exact hB.1
theorem l_callSv (C : Cx P Z cc own) (hW9 : CxW P Z) {y : MethodName} {cc' : ByteArray} {maxL idx n : Nat} {rm' : Room} {as : List Value} {post : (Nat → Nat) → MG → MG → Prop} (hM : LMv P.2.1 y cc' maxL rm' Z as ad m g post) (hG : GoodIn wsG (va_wsS own idx y (wz y cc' maxL none)))
    (hd : y.cls ≠ "java/lang/invoke/MethodHandle" ∧ y.cls ≠ "java/lang/invoke/VarHandle" ∧ (parseMethodDescriptor y.desc).map (fun d => d.parameters.length) = some n) (hR : rm'.frames + 1 ≤ R.frames ∧ 8 + (maxL + 11) + rm'.locals ≤ R.locals) (hn : as.length = n) (hst : st = as.reverse ++ rest) (hr : (rest.map fun v => v.category).sum ≤ 8) (hdg : decode cc pc = .ok (.invokestatic idx, 3)) (hf : cs + rm'.cells ≤ R.cells ∧ sl + rm'.slots ≤ R.slots)
    (kk : ∀ (ad' : Nat → Nat) (m' g' : MG), post ad' m' g' → V P R (Z.wl ad' m') lo (pc + 3) rest g' (cs + rm'.cells) (sl + rm'.slots)) : V P R (Z.wl ad m) lo pc st g cs sl := by
  obtain ⟨p, l, e, s, mm, args, below, meth, c, Q, nL⟩ := P
  subst hst
  intro ls H locs hl hw hS
  refine va_callv (va_runS (As := as) (rest := rest) ⟨C.1, C.2.1, C.2.2.1, C.2.2.2.1, C.2.2.2.2.1⟩ hM (va_cwS n C.2.2.2.2.1 hG rfl rfl rfl hd hR) ⟨WL_fb, fun U hU hW => ⟨rfl, Wd_of (Z := Z.wl ad m) hw C.2.2.2.2.2.1 C.2.2.2.2.2.2.1 C.2.2.2.2.2.2.2.2 hS hU hW.alike, StrA.warm hW hW9.1, StrL.warm hW hW9.2.1, by rw [hU]; exact (hW9.2.2.kept hS.2.1).warm hW⟩⟩ rfl hn hl.2.1 rfl (lv_room hr) hdg hf) hS (fun _ _ h => h) (fun _ h => h) (fun u t H1 locs1 ht hvm hp hB hz1 hk1 hS1 => ?_)
  refine kk u.1 u.2.1 u.2.2 hp ls H1 locs1 hl ?_ hS1
  rw [← ht]; exact hB.1
theorem l_callI (C : Cx P Z cc own) (hW9 : CxW P Z) {y : MethodName} {cc' : ByteArray} {maxL idx n b : Nat} {rm' : Room} {as : List Value} {post : (Nat → Nat) → MG → MG → Prop} (hM : LMv P.2.1 y cc' maxL rm' Z (.ref b :: as) ad m g post) (hl1 : Cond.methodLink own idx y ∈ wsG) (hl2 : Cond.instanceMethod y ∈ wsG) (hl3 : Cond.initialized y.cls ∈ wsG) (hl4 : Cond.code y cc' maxL none ∈ wsG) (hyi : y.name = "<init>")
    (hd : y.cls ≠ "java/lang/invoke/MethodHandle" ∧ y.cls ≠ "java/lang/invoke/VarHandle" ∧ (parseMethodDescriptor y.desc).map (fun d => d.parameters.length) = some n) (hR : rm'.frames + 1 ≤ R.frames ∧ 8 + (maxL + 11) + rm'.locals ≤ R.locals) (hn : as.length = n) (hst : st = as.reverse ++ .ref b :: rest) (hr : (rest.map fun v => v.category).sum ≤ 8) (hdg : decode cc pc = .ok (.invokespecial idx, 3)) (hf : cs + rm'.cells ≤ R.cells ∧ sl + rm'.slots ≤ R.slots)
    (kk : ∀ (ad' : Nat → Nat) (m' g' : MG), post ad' m' g' → V P R (Z.wl ad' m') lo (pc + 3) rest g' (cs + rm'.cells) (sl + rm'.slots)) : V P R (Z.wl ad m) lo pc st g cs sl := by
  obtain ⟨p, l, e, s, mm, args, below, meth, c, Q, nL⟩ := P
  subst hst
  intro ls H locs hl hw hS
  refine va_callv (va_runI (As := as) (rest := rest) ⟨C.1, C.2.1, C.2.2.1, C.2.2.2.1, C.2.2.2.2.1⟩ hM (cwI n C.2.2.2.2.1 (gi (own := own) (idx := idx) hl4) rfl rfl rfl (C.2.2.2.2.1 _ hl3) (C.2.2.2.2.1 _ hl1) (C.2.2.2.2.1 _ hl2) hyi hd hR) ⟨WL_fb, fun U hU hW => ⟨rfl, Wd_of (Z := Z.wl ad m) hw C.2.2.2.2.2.1 C.2.2.2.2.2.2.1 C.2.2.2.2.2.2.2.2 hS hU hW.alike, StrA.warm hW hW9.1, StrL.warm hW hW9.2.1, by rw [hU]; exact (hW9.2.2.kept hS.2.1).warm hW⟩⟩ rfl hn hl.2.1 rfl (lv_room hr) hdg hf) hS (fun _ _ h => h) (fun _ h => h) (fun u t H1 locs1 ht hvm hp hB hz1 hk1 hS1 => ?_)
  refine kk u.1 u.2.1 u.2.2 hp ls H1 locs1 hl ?_ hS1
  rw [← ht]; exact hB.1
theorem l_callIN (C : Cx P Z cc own) (hW9 : CxW P Z) {y : MethodName} {cc' : ByteArray} {maxL idx n b : Nat} {host : String} {rm' : Room} {as : List Value} {post : (Nat → Nat) → MG → MG → Prop} (hM : LMv P.2.1 y cc' maxL rm' Z (.ref b :: as) ad m g post) (hl1 : Cond.methodLinkNest own idx y host ∈ wsNest) (hl2 : Cond.instanceMethod y ∈ wsG) (hl3 : Cond.initialized y.cls ∈ wsG) (hl4 : Cond.code y cc' maxL none ∈ wsG) (hyi : y.name = "<init>")
    (hd : y.cls ≠ "java/lang/invoke/MethodHandle" ∧ y.cls ≠ "java/lang/invoke/VarHandle" ∧ (parseMethodDescriptor y.desc).map (fun d => d.parameters.length) = some n) (hR : rm'.frames + 1 ≤ R.frames ∧ 8 + (maxL + 11) + rm'.locals ≤ R.locals) (hn : as.length = n) (hst : st = as.reverse ++ .ref b :: rest) (hr : (rest.map fun v => v.category).sum ≤ 8) (hdg : decode cc pc = .ok (.invokespecial idx, 3)) (hf : cs + rm'.cells ≤ R.cells ∧ sl + rm'.slots ≤ R.slots)
    (kk : ∀ (ad' : Nat → Nat) (m' g' : MG), post ad' m' g' → V P R (Z.wl ad' m') lo (pc + 3) rest g' (cs + rm'.cells) (sl + rm'.slots)) : V P R (Z.wl ad m) lo pc st g cs sl := by
  obtain ⟨p, l, e, s, mm, args, below, meth, c, Q, nL⟩ := P
  subst hst
  intro ls H locs hl hw hS
  refine va_callv (va_runIN (As := as) (rest := rest) ⟨C.1, C.2.1, C.2.2.1, C.2.2.2.1, C.2.2.2.2.1⟩ hM ⟨va_cnB n C.2.2.2.2.1 (gi (own := own) (idx := idx) hl4) rfl rfl rfl (hW9.2.1.2.2.2.2 _ hl1) (C.2.2.2.2.1 _ hl3) hd hR, hyi, C.2.2.2.2.1 _ hl2⟩ ⟨WL_fb, fun U hU hW => ⟨rfl, Wd_of (Z := Z.wl ad m) hw C.2.2.2.2.2.1 C.2.2.2.2.2.2.1 C.2.2.2.2.2.2.2.2 hS hU hW.alike, StrA.warm hW hW9.1, StrL.warm hW hW9.2.1, by rw [hU]; exact (hW9.2.2.kept hS.2.1).warm hW⟩⟩ rfl hn hl.2.1 rfl (lv_room hr) hdg hf) hS (fun _ _ h => h) (fun _ h => h) (fun u t H1 locs1 ht hvm hp hB hz1 hk1 hS1 => ?_)
  refine kk u.1 u.2.1 u.2.2 hp ls H1 locs1 hl ?_ hS1
  rw [← ht]; exact hB.1
end LC
