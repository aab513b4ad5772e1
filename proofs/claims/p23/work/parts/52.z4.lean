/-! A LIST GROWS: rows, ArrayList.grow, add -/
theorem StrM.same {u U : State} (h : u.vm = U.vm) (hM : StrM u) : StrM U := by
  refine ⟨fun w hw => ?_, hM.2.moved (by rw [h]; exact Vm.Alike.refl U.vm)⟩
  have h1 := hM.1 w hw
  simp only [wsM, List.mem_cons, List.not_mem_nil, or_false] at hw
  rcases hw with rfl | rfl | rfl
  · exact va_Nw.same rfl h h1
  · exact va_Nw.same rfl h h1
  · exact va_Nw.same rfl h h1
def WY (Z : Zc) (A : Nat → Prop) (ws : va_W) (U : State) : Prop := WX Z A ws U ∧ StrM U
theorem WY_fb {Z : Zc} {A : Nat → Prop} {as : List Value} {ws : va_W} : FrameBlind (va_Pc as (fun U => WY Z A ws U)) := fun a U g' mk h => ⟨h.1, WX_blind (U := U) (U' := U.calling g' mk a) rfl (Vm.Alike.refl U.vm) h.2.1, StrM.same (u := U) rfl h.2.2⟩
def MYv (l : Launch) (y : MethodName) (cc : ByteArray) (maxL : Nat) (rm : Room) (Z : Zc) (A : Nat → Prop) (as : List Value) (ws : va_W) (post : va_W → Prop) : Prop := Met l y (wz y cc maxL none) rm (va_Pc as (fun U => WY Z A ws U)) (va_Qv post (fun ws' t => WX Z A ws' t) A) rm.cells rm.slots A
def MYi (l : Launch) (y : MethodName) (cc : ByteArray) (maxL : Nat) (rm : Room) (Z : Zc) (A : Nat → Prop) (as : List Value) (ws : va_W) (post : Int32 → va_W → Prop) : Prop := Met l y (wz y cc maxL (some .boolean)) rm (va_Pc as (fun U => WY Z A ws U)) (va_Qi post (fun ws' t => WX Z A ws' t) A) rm.cells rm.slots A
def MYr (l : Launch) (y : MethodName) (cc : ByteArray) (maxL : Nat) (rm : Room) (Z : Zc) (A : Nat → Prop) (as : List Value) (ws : va_W) (post : Nat → va_W → Prop) : Prop := Met l y (wz y cc maxL (some (.array (.object "java/lang/Object")))) rm (va_Pc as (fun U => WY Z A ws U)) (va_Qr (fun _ => True) (fun ws' a t => post a ws' ∧ WX Z A ws' t) A) rm.cells rm.slots A
theorem ent_yv {l : Launch} {y : MethodName} {cc : ByteArray} {maxL : Nat} {rm : Room} {Z : Zc} {A : Nat → Prop} {as : List Value} {ws : va_W} {own : String} {lo : Lo} {post : va_W → Prop} (hy : plainName y.cls = true) (ho : y.cls = own) (hlen : (lg_sl as).length ≤ maxL) (hlo : loA (lv_args 0 as) maxL = lo)
    (body : ∀ P : Pm, P.2.1 = l → Cx P Z cc own → CxA P Z A → CxM P → (∀ (pc : Nat) (lo' : Lo) (ws' : va_W), decode cc pc = .ok (.return_, 1) → post ws' → VX P rm Z A ws' lo' pc [] rm.cells rm.slots) → VX P rm Z A ws lo 0 [] 0 0) : MYv l y cc maxL rm Z A as ws post := by
  refine Met.ofW (cc := cc) (maxL := maxL) (ret := none) hy rfl ?_
  intro p e s m args below meth c s₁ B hml hv
  obtain ⟨rfl, ⟨hA, hz9, hP, hD, hK, hz, hst⟩, hM⟩ := hv
  have hts : ∀ w ∈ wsG, w.before as.toArray s = true := fun w h => atoms_spec (ws := wz y cc maxL (none)) B.pre w (List.mem_cons_of_mem _ h)
  have hown : s.vm.findClass own = some m.cls := ho ▸ findClass_of_methodNamed B.named
  have hl := lv_entry as hlen
  rw [lg_entry_eq]
  generalize (lg_sl as ++ List.replicate (maxL - (lg_sl as).length) Slot.unset).toArray = ls at hl ⊢
  refine body (p, l, e, s, m, as.toArray, below, meth, c, _, maxL) rfl ⟨B.exec, B.bytes, hml, hown, hts, hK, hz, B.notSynchronized, hst⟩ ⟨hA, hz9⟩ hM ?_ ls s.heap [] (hlo ▸ Lv_of hl) hP hD va_S.rf
  intro pc lo' ws' hdg hp ls H locs hl hP' hD' hS
  exact W.vret B.exec B.bytes B.returns (fun t ht hW => ⟨⟨ws', rfl, hp, WX_of hA hz9 hP' hD' hK hz hst hS ht hW.alike⟩, hS.F ht⟩) hS.2.2 hdg
theorem ent_yi {l : Launch} {y : MethodName} {cc : ByteArray} {maxL : Nat} {rm : Room} {Z : Zc} {A : Nat → Prop} {as : List Value} {ws : va_W} {own : String} {lo : Lo} {post : Int32 → va_W → Prop} (hy : plainName y.cls = true) (ho : y.cls = own) (hlen : (lg_sl as).length ≤ maxL) (hlo : loA (lv_args 0 as) maxL = lo)
    (body : ∀ P : Pm, P.2.1 = l → Cx P Z cc own → CxA P Z A → CxM P → (∀ (pc : Nat) (lo' : Lo) (v : Int32) (ws' : va_W), decode cc pc = .ok (.ireturn, 1) → (v = 0 ∨ v = 1) → post v ws' → VX P rm Z A ws' lo' pc [.int v] rm.cells rm.slots) → VX P rm Z A ws lo 0 [] 0 0) : MYi l y cc maxL rm Z A as ws post := by
  refine Met.ofW (cc := cc) (maxL := maxL) (ret := some .boolean) hy rfl ?_
  intro p e s m args below meth c s₁ B hml hv
  obtain ⟨rfl, ⟨hA, hz9, hP, hD, hK, hz, hst⟩, hM⟩ := hv
  have hts : ∀ w ∈ wsG, w.before as.toArray s = true := fun w h => atoms_spec (ws := wz y cc maxL (some .boolean)) B.pre w (List.mem_cons_of_mem _ h)
  have hown : s.vm.findClass own = some m.cls := ho ▸ findClass_of_methodNamed B.named
  have hl := lv_entry as hlen
  rw [lg_entry_eq]
  generalize (lg_sl as ++ List.replicate (maxL - (lg_sl as).length) Slot.unset).toArray = ls at hl ⊢
  refine body (p, l, e, s, m, as.toArray, below, meth, c, _, maxL) rfl ⟨B.exec, B.bytes, hml, hown, hts, hK, hz, B.notSynchronized, hst⟩ ⟨hA, hz9⟩ hM ?_ ls s.heap [] (hlo ▸ Lv_of hl) hP hD va_S.rf
  intro pc lo' v ws' hdg hv hp ls H locs hl hP' hD' hS
  exact W.zret B.exec B.bytes B.returns (by rcases hv with rfl | rfl <;> rfl) (fun t ht hW => ⟨⟨v, ws', rfl, hp, WX_of hA hz9 hP' hD' hK hz hst hS ht hW.alike⟩, hS.F ht⟩) hS.2.2 hdg
theorem ent_yr {l : Launch} {y : MethodName} {cc : ByteArray} {maxL : Nat} {rm : Room} {Z : Zc} {A : Nat → Prop} {as : List Value} {ws : va_W} {own : String} {lo : Lo} {post : Nat → va_W → Prop} (hy : plainName y.cls = true) (ho : y.cls = own) (hlen : (lg_sl as).length ≤ maxL) (hlo : loA (lv_args 0 as) maxL = lo)
    (body : ∀ P : Pm, P.2.1 = l → Cx P Z cc own → CxA P Z A → CxM P → (∀ (pc : Nat) (lo' : Lo) (a : Nat) (ws' : va_W), decode cc pc = .ok (.areturn, 1) → post a ws' → VX P rm Z A ws' lo' pc [.ref a] rm.cells rm.slots) → VX P rm Z A ws lo 0 [] 0 0) : MYr l y cc maxL rm Z A as ws post := by
  refine Met.ofW (cc := cc) (maxL := maxL) (ret := some (.array (.object "java/lang/Object"))) hy rfl ?_
  intro p e s m args below meth c s₁ B hml hv
  obtain ⟨rfl, ⟨hA, hz9, hP, hD, hK, hz, hst⟩, hM⟩ := hv
  have hts : ∀ w ∈ wsG, w.before as.toArray s = true := fun w h => atoms_spec (ws := wz y cc maxL (some (.array (.object "java/lang/Object")))) B.pre w (List.mem_cons_of_mem _ h)
  have hown : s.vm.findClass own = some m.cls := ho ▸ findClass_of_methodNamed B.named
  have hl := lv_entry as hlen
  rw [lg_entry_eq]
  generalize (lg_sl as ++ List.replicate (maxL - (lg_sl as).length) Slot.unset).toArray = ls at hl ⊢
  refine body (p, l, e, s, m, as.toArray, below, meth, c, _, maxL) rfl ⟨B.exec, B.bytes, hml, hown, hts, hK, hz, B.notSynchronized, hst⟩ ⟨hA, hz9⟩ hM ?_ ls s.heap [] (hlo ▸ Lv_of hl) hP hD va_S.rf
  intro pc lo' a ws' hdg hp ls H locs hl hP' hD' hS
  exact W.aret B.exec B.bytes B.returns (Or.inr ⟨_, rfl⟩) (Or.inr ⟨a, rfl⟩) (fun t ht hW => ⟨⟨ws', a, rfl, trivial, hp, WX_of hA hz9 hP' hD' hK hz hst hS ht hW.alike⟩, hS.F ht⟩) hS.2.2 hdg
section NXM
variable {P : Pm} {R : Room} {Z : Zc} {A : Nat → Prop} {ws : va_W} {cc : ByteArray} {own : String} {lo : Lo} {pc : Nat} {rest st : List Value} {cs sl : Nat}
theorem nx_S0 {P : Pm} {Z : Zc} {A : Nat → Prop} (hA : CxA P Z A) {s : State} {H : Heap} {locs : List Loc} (hs : P.2.2.2.1 = s) (hS : va_S A s.heap H locs) : va_S (A0 Z.z) s.heap H locs := by
  obtain ⟨p, l, e, s', m, args, below, meth, c, Q, nL⟩ := P
  subst hs
  exact ⟨hS.1, fun q h1 h2 => hS.2.1 q h1 (fun z => h2 (hA.2 q z)), fun x hx => hA.2 _ (hS.2.2 x hx)⟩
theorem nx_tlen (C : Cx P Z cc own) (hA : CxA P Z A) (hdg : decode cc pc = .ok (.arraylength, 1)) (kk : VX P R Z A ws lo (pc + 1) (.int 0 :: rest) cs sl) : VX P R Z A ws lo pc (.ref Z.df :: rest) cs sl := by
  obtain ⟨p, l, e, s, m, args, below, meth, c, Q, nL⟩ := P
  exact fun ls H locs hl hP hD hS => va_tlen C.1 C.2.1 C.2.2.2.2.2.2.2.2.2.1 (nx_S0 hA rfl hS) rfl hdg (kk ls H locs hl hP hD hS)
theorem nx_alenq (C : Cx P Z cc own) (q0 : Nat) {a n : Nat} {f : Nat → Option Nat} (he : ws[q0]? = some (a, .inl (Z.Y.2.1, n, .inr (.inr (.inr (.inr f)))))) (hdg : decode cc pc = .ok (.arraylength, 1)) (kk : VX P R Z A ws lo (pc + 1) (.int (nI n) :: rest) cs sl) : VX P R Z A ws lo pc (.ref a :: rest) cs sl := by
  obtain ⟨p, l, e, s, m, args, below, meth, c, Q, nL⟩ := P
  exact fun ls H locs hl hP hD hS => va_alen (D := Z.D) C.1 C.2.1 C.2.2.2.2.2.1 hP q0 1 he rfl rfl hdg (kk ls H locs hl hP hD hS)
theorem nx_acmpT (C : Cx P Z cc own) {a : Nat} {off : Int} {tgt : Nat} (hdg : decode cc pc = .ok (.if_acmp .eq off, 3)) (ht : (pc : Int) + off = (tgt : Int)) (kk : VX P R Z A ws lo tgt rest cs sl) : VX P R Z A ws lo pc (.ref a :: .ref a :: rest) cs sl := by
  obtain ⟨p, l, e, s, m, args, below, meth, c, Q, nL⟩ := P
  exact fun ls H locs hl hP hD hS => lv_acmp_eq (rx := some a) (ry := some a) C.1 C.2.1 hdg ht (fun _ => kk ls H locs hl hP hD hS) (fun h => absurd rfl h)
theorem nx_mmax (C : Cx P Z cc own) {idx : Nat} (h1 : Cond.methodLink own idx Lib.Math.max.name ∈ wsG) (h2 : Cond.static Lib.Math.max.name ∈ wsG) (h3 : Cond.initialized "java/lang/Math" ∈ wsG) (h4 : Cond.code Lib.Math.max.name Lib.Math.max.code 2 (some .int) ∈ wsG) (hf : 1 ≤ R.frames) (hlo : (rest.map fun v => v.category).sum + 13 ≤ R.locals) (hc : cs ≤ R.cells) (hs : sl ≤ R.slots) {x y z : Int32} (hz : (if x < y then y else x) = z) (hdg : decode cc pc = .ok (.invokestatic idx, 3)) (kk : VX P R Z A ws lo (pc + 3) (.int z :: rest) cs sl) : VX P R Z A ws lo pc (.int y :: .int x :: rest) cs sl := by
  obtain ⟨p, l, e, s, m, args, below, meth, c, Q, nL⟩ := P
  subst hz
  exact fun ls H locs hl hP hD hS => va_mmax C.1 C.2.1 (C.2.2.1.trans hl.2.1.symm) C.2.2.2.1 (C.2.2.2.2.1 _ h1) (C.2.2.2.2.1 _ h2) (C.2.2.2.2.1 _ h3) (C.2.2.2.2.1 _ h4) hf hlo hc hs hdg (kk ls H locs hl hP hD hS)
theorem nx_newq (C : Cx P Z cc own) (hA : CxA P Z A) (hM : CxM P) {N idx : Nat} (h31 : N < 1000) (hlink : Cond.classLink own idx "java/lang/Object" ∈ wsG) (hdg : decode cc pc = .ok (.anewarray idx, 3)) (hcells : cs + 1 ≤ R.cells) (hslots : sl + N ≤ R.slots) (kk : ∀ q : Nat, VX P R Z A ((q, .inl (Z.Y.2.1, N, .inr (.inr (.inr (.inr (fun _ => none)))))) :: ws) lo (pc + 3) (.ref q :: rest) (cs + 1) (sl + N)) : VX P R Z A ws lo pc (.int (nI N) :: rest) cs sl := by
  obtain ⟨p, l, e, s, m, args, below, meth, c, Q, nL⟩ := P
  intro ls H locs hl hP hD hS
  refine va_newq (D := Z.D) (tys := tyY Z.Y) C.1 C.2.1 C.2.2.2.1 (C.2.2.2.2.1 _ hlink) hM.2 C.2.2.2.2.2.1 hP hD hS hA.1 (nI_pos (by omega)) (nI_clamp (by omega)) (by omega) hcells hslots hdg (fun q cA H1 hK1 hP1 hD1 hS1 => ?_)
  have hcA : cA = Z.Y.2.1 := by
    obtain ⟨_, _, _, _, _, h1⟩ := (hK1.2 1 _ rfl).2
    obtain ⟨_, _, _, _, _, h2⟩ := (hK1.2 6 _ rfl).2
    exact Option.some.inj (h2.symm.trans h1)
  subst hcA
  exact kk q ls H1 locs hl (nx_P1 hP1) (nx_D1 hD1) hS1
theorem nx_astq (C : Cx P Z cc own) (hM : CxM P) (q0 qk : Nat) {a n b v ci N : Nat} {f : Nat → Option Nat} {Cn : String} {T : u_T} {vs : List Value} (he : ws[q0]? = some (a, .inl (Z.Y.2.1, n, .inr (.inr (.inr (.inr f)))))) (hv : ws[qk]? = some (v, .inr (ci, vs))) (hc : vwCl[ci]? = some (Cn, T, N)) (hcast : Cond.castable Cn "java/lang/Object" ∈ wsM) (hb : b < n ∧ n < 2147483648) {ws' : va_W} (hws : ws.set q0 (a, .inl (Z.Y.2.1, n, .inr (.inr (.inr (.inr (va_up f b (some v))))))) = ws') (hdg : decode cc pc = .ok (.aastore, 1)) (kk : VX P R Z A ws' lo (pc + 1) rest cs sl) : VX P R Z A ws lo pc (.ref v :: .int (nI b) :: .ref a :: rest) cs sl := by
  obtain ⟨p, l, e, s, m, args, below, meth, c, Q, nL⟩ := P
  subst hws
  have e9 : (nI b).toNatClampNeg = b := nI_clamp (by have := hb.1; have := hb.2; omega)
  exact fun ls H locs hl hP hD hS => vb_astq (D := Z.D) (E := "java/lang/Object") (C := Cn) C.1 C.2.1 C.2.2.2.2.2.1 hP hD hS q0 1 he rfl (va_recv C.2.2.2.2.2.1 hP hc hv) (vb_asgC (hM.1 _ hcast)) (vp_in_nI hb.1 hb.2) hdg (fun H1 locs1 hP1 hD1 hS1 => kk ls H1 locs1 hl (by rw [e9] at hP1; exact hP1) (by rw [e9] at hD1; exact hD1) hS1)
theorem nx_callVv (C : Cx P Z cc own) (hA : CxA P Z A) (hM : CxM P) {y : MethodName} {cc' : ByteArray} {maxL idx n b ci q0 N : Nat} {rm' : Room} {as : List Value} {post : va_W → Prop} {Cn : String} {T : u_T} {fs : List Value} (hc9 : MYv P.2.1 y cc' maxL rm' Z A (.ref b :: as) ws post) (hG : GoodIn wsG (wsV own idx Cn y (wz y cc' maxL none)))
    (hd : y.cls = Cn ∧ y.cls ≠ "java/lang/invoke/MethodHandle" ∧ y.cls ≠ "java/lang/invoke/VarHandle" ∧ (parseMethodDescriptor y.desc).map (fun d => d.parameters.length) = some n) (hR : rm'.frames + 1 ≤ R.frames ∧ 8 + (maxL + 11) + rm'.locals ≤ R.locals) (hcl : vwCl[ci]? = some (Cn, T, N)) (he : ws[q0]? = some (b, .inr (ci, fs))) (hn : as.length = n) (hst : st = as.reverse ++ .ref b :: rest) (hr : (rest.map fun v => v.category).sum ≤ 8) (hdg : decode cc pc = .ok (.invokevirtual idx, 3)) (hf : cs + rm'.cells ≤ R.cells ∧ sl + rm'.slots ≤ R.slots)
    (kk : ∀ ws', post ws' → VX P R Z A ws' lo (pc + 3) rest (cs + rm'.cells) (sl + rm'.slots)) : VX P R Z A ws lo pc st cs sl := by
  obtain ⟨p, l, e, s, m, args, below, meth, c, Q, nL⟩ := P
  subst hst
  intro ls H locs hl hP hD hS
  refine va_callv (va_runV (As := as) (rest := rest) ⟨C.1, C.2.1, C.2.2.1, C.2.2.2.1, C.2.2.2.2.1⟩ hc9 (cwV n C.2.2.2.2.1 hG rfl rfl rfl hd hR) ⟨WY_fb, va_recv C.2.2.2.2.2.1 hP hcl he, fun U hU hW => ⟨rfl, WX_of hA.1 hA.2 hP hD C.2.2.2.2.2.1 C.2.2.2.2.2.2.1 C.2.2.2.2.2.2.2.2 hS hU hW.alike, hM.warm hW⟩⟩ rfl hn hl.2.1 rfl (lv_room hr) hdg hf) hS (fun _ _ h => h) (fun _ h => h) (fun u t H1 locs1 ht hvm hp hB hz1 hk1 hS1 => ?_)
  exact kk u hp ls H1 locs1 hl (by rw [← ht]; exact hB.2.2.1) hB.2.2.2.1 hS1
theorem nx_callVr (C : Cx P Z cc own) (hA : CxA P Z A) (hM : CxM P) {y : MethodName} {cc' : ByteArray} {maxL idx n b ci q0 N : Nat} {rm' : Room} {as : List Value} {post : Nat → va_W → Prop} {Cn : String} {T : u_T} {fs : List Value} (hc9 : MYr P.2.1 y cc' maxL rm' Z A (.ref b :: as) ws post) (hG : GoodIn wsG (wsV own idx Cn y (wz y cc' maxL (some (.array (.object "java/lang/Object"))))))
    (hd : y.cls = Cn ∧ y.cls ≠ "java/lang/invoke/MethodHandle" ∧ y.cls ≠ "java/lang/invoke/VarHandle" ∧ (parseMethodDescriptor y.desc).map (fun d => d.parameters.length) = some n) (hR : rm'.frames + 1 ≤ R.frames ∧ 8 + (maxL + 11) + rm'.locals ≤ R.locals) (hcl : vwCl[ci]? = some (Cn, T, N)) (he : ws[q0]? = some (b, .inr (ci, fs))) (hn : as.length = n) (hst : st = as.reverse ++ .ref b :: rest) (hr : (rest.map fun v => v.category).sum ≤ 8) (hdg : decode cc pc = .ok (.invokevirtual idx, 3)) (hf : cs + rm'.cells ≤ R.cells ∧ sl + rm'.slots ≤ R.slots)
    (kk : ∀ (a : Nat) ws', post a ws' → VX P R Z A ws' lo (pc + 3) (.ref a :: rest) (cs + rm'.cells) (sl + rm'.slots)) : VX P R Z A ws lo pc st cs sl := by
  obtain ⟨p, l, e, s, m, args, below, meth, c, Q, nL⟩ := P
  subst hst
  intro ls H locs hl hP hD hS
  refine va_callr (va_runV (As := as) (rest := rest) ⟨C.1, C.2.1, C.2.2.1, C.2.2.2.1, C.2.2.2.2.1⟩ hc9 (cwV n C.2.2.2.2.1 hG rfl rfl rfl hd hR) ⟨WY_fb, va_recv C.2.2.2.2.2.1 hP hcl he, fun U hU hW => ⟨rfl, WX_of hA.1 hA.2 hP hD C.2.2.2.2.2.1 C.2.2.2.2.2.2.1 C.2.2.2.2.2.2.2.2 hS hU hW.alike, hM.warm hW⟩⟩ rfl hn hl.2.1 rfl (lv_room hr) hdg hf) hS (fun _ _ h => h) (fun _ h => h) (fun u ra t H1 locs1 ht hvm hp hB hz1 hk1 hS1 => ?_)
  exact kk ra u hB.1 ls H1 locs1 hl (by rw [← ht]; exact hB.2.2.2.1) hB.2.2.2.2.1 hS1
end NXM
set_option maxRecDepth 100000 in
theorem k_grow1 (l : Launch) (Z : Zc) (A : Nat → Prop) (a : Nat) (ws0 : va_W) : MYr l yJx4a65c_grow_92f84 cJx4a65c_grow_92f84 4 (rmz 1 30 1 10) Z A [.ref a, .int 1] ((a, .inr (0, [.int 1, .ref Z.df, .int 0])) :: ws0) (fun q ws' => ws' = (q, .inl (Z.Y.2.1, 10, .inr (.inr (.inr (.inr (fun _ => none)))))) :: (a, .inr (0, [.int 1, .ref q, .int 0])) :: ws0) := by
  refine ent_yr (own := RJx4a65c) (lo := [some (.ref a), some (.int 1), none, none]) (by decide) rfl (by simp [lg_sl, Value.category]) rfl (fun P hl C hA hM ret => ?_)
  refine nx_aload_n C dJx4a65c_grow_92f84_0 rfl rfl ?_
  refine nx_get C inGL rfl 1 (by decide) (tg1 51 rfl rfl) (Or.inl rfl) 0 rfl rfl dJx4a65c_grow_92f84_1 ?_
  refine nx_tlen C hA dJx4a65c_grow_92f84_4 ?_
  refine nx_istore_n (lo' := [some (.ref a), some (.int 1), some (.int 0), none]) C dJx4a65c_grow_92f84_5 rfl (Nat.le_of_ble_eq_true rfl) rfl rfl ?_
  refine nx_iload_n C dJx4a65c_grow_92f84_6 rfl rfl ?_
  refine nx_if_gt (tgt := 20) C dJx4a65c_grow_92f84_7 (by decide) (fun h7 => ?_) (fun h7 => ?_)
  · exact absurd h7 (by decide)
  · refine nx_aload_n C dJx4a65c_grow_92f84_10 rfl rfl ?_
    refine nx_get C inGL rfl 1 (by decide) (tg1 51 rfl rfl) (Or.inl rfl) 0 rfl rfl dJx4a65c_grow_92f84_11 ?_
    refine nx_gets C hA (tg1 49 rfl rfl) dJx4a65c_grow_92f84_14 ?_
    refine nx_acmpT (tgt := 45) C dJx4a65c_grow_92f84_17 (by decide) ?_
    refine nx_aload_n C dJx4a65c_grow_92f84_45 rfl rfl ?_
    refine nx_bipush (v := 10) C dJx4a65c_grow_92f84_46 (by decide) ?_
    refine nx_iload_n C dJx4a65c_grow_92f84_48 rfl rfl ?_
    refine nx_mmax (z := nI 10) C (tg3 160 rfl rfl) (tg2 75 rfl rfl) (tg1 14 rfl rfl) (tg2 76 rfl rfl) (Nat.le_of_ble_eq_true rfl) (Nat.le_of_ble_eq_true rfl) (Nat.le_of_ble_eq_true rfl) (Nat.le_of_ble_eq_true rfl) (by decide) dJx4a65c_grow_92f84_49 ?_
    refine nx_newq (N := 10) C hA hM (by decide) (tg3 161 rfl rfl) dJx4a65c_grow_92f84_52 (Nat.le_of_ble_eq_true rfl) (Nat.le_of_ble_eq_true rfl) (fun q => ?_)
    refine nx_dup_x1 C dJx4a65c_grow_92f84_55 rfl rfl ?_
    refine nx_put C inGL rfl tyJx4a65c tyJx4a65c_ok nmJx4a65c 1 (by decide) (tg1 51 rfl rfl) (Or.inl rfl) rfl (ty := (.array (.object "java/lang/Object"))) (by decide +kernel) rfl rfl 1 rfl (Nat.le_of_ble_eq_true rfl) (ws' := (q, .inl (Z.Y.2.1, 10, .inr (.inr (.inr (.inr (fun _ => none)))))) :: (a, .inr (0, [.int 1, .ref q, .int 0])) :: ws0) rfl dJx4a65c_grow_92f84_56 ?_
    exact ret _ _ _ _ dJx4a65c_grow_92f84_59 rfl
set_option maxRecDepth 100000 in
theorem k_grow0 (l : Launch) (Z : Zc) (A : Nat → Prop) (a : Nat) (ws0 : va_W) : MYr l yJx4a65c_grow_d5877 cJx4a65c_grow_d5877 1 (rmz 2 60 1 10) Z A [.ref a] ((a, .inr (0, [.int 1, .ref Z.df, .int 0])) :: ws0) (fun q ws' => ws' = (q, .inl (Z.Y.2.1, 10, .inr (.inr (.inr (.inr (fun _ => none)))))) :: (a, .inr (0, [.int 1, .ref q, .int 0])) :: ws0) := by
  refine ent_yr (own := RJx4a65c) (lo := [some (.ref a)]) (by decide) rfl (by simp [lg_sl, Value.category]) rfl (fun P hl C hA hM ret => ?_)
  refine nx_aload_n C dJx4a65c_grow_d5877_0 rfl rfl ?_
  refine nx_aload_n C dJx4a65c_grow_d5877_1 rfl rfl ?_
  refine nx_get C inGL rfl 2 (by decide) (tg1 52 rfl rfl) (Or.inl rfl) 0 rfl rfl dJx4a65c_grow_d5877_2 ?_
  refine nx_iconst (v := 1) C dJx4a65c_grow_d5877_5 (by decide) ?_
  refine nx_iadd C dJx4a65c_grow_d5877_6 ?_
  refine nx_topi (y := 1) rfl ?_
  refine nx_callVr (n := 1) (q0 := 0) (as := [.int 1]) C hA hM (k_grow1 _ Z A a ws0) (gv (tg3 121 rfl rfl) (tg3 123 rfl rfl) (tg0 19 rfl rfl) (tg1 4 rfl rfl) (tg3 124 rfl rfl)) (by decide +kernel) ⟨Nat.le_of_ble_eq_true rfl, Nat.le_of_ble_eq_true rfl⟩ rfl rfl rfl rfl (Nat.le_of_ble_eq_true rfl) dJx4a65c_grow_d5877_7 ⟨Nat.le_of_ble_eq_true rfl, Nat.le_of_ble_eq_true rfl⟩ (fun q w7 h7 => ?_)
  subst h7
  exact ret _ _ _ _ dJx4a65c_grow_d5877_10 rfl
set_option maxRecDepth 100000 in
theorem k_add3_0 (l : Launch) (Z : Zc) (A : Nat → Prop) (a x : Nat) {ci N : Nat} {Cn : String} {T : u_T} {fs : List Value} (hc : vwCl[ci]? = some (Cn, T, N)) (hcast : Cond.castable Cn "java/lang/Object" ∈ wsM) (ws0 : va_W) : MYv l yJx4a65c_add_72be8 cJx4a65c_add_72be8 4 (rmz 3 90 1 10) Z A [.ref a, .ref x, .ref Z.df, .int 0] ((a, .inr (0, [.int 1, .ref Z.df, .int 0])) :: (x, .inr (ci, fs)) :: ws0) (fun ws' => ∃ q, ws' = (q, .inl (Z.Y.2.1, 10, .inr (.inr (.inr (.inr (va_up (fun _ => none) 0 (some x))))))) :: (a, .inr (0, [.int 1, .ref q, .int 1])) :: (x, .inr (ci, fs)) :: ws0) := by
  refine ent_yv (own := RJx4a65c) (lo := [some (.ref a), some (.ref x), some (.ref Z.df), some (.int 0)]) (by decide) rfl (by simp [lg_sl, Value.category]) rfl (fun P hl C hA hM ret => ?_)
  refine nx_iload_n C dJx4a65c_add_72be8_0 rfl rfl ?_
  refine nx_aload_n C dJx4a65c_add_72be8_1 rfl rfl ?_
  refine nx_tlen C hA dJx4a65c_add_72be8_2 ?_
  refine nx_icmp_ne (tgt := 11) C dJx4a65c_add_72be8_3 (by decide) (fun h3 => ?_) (fun h3 => ?_)
  · exact absurd rfl h3
  · refine nx_aload_n C dJx4a65c_add_72be8_6 rfl rfl ?_
    refine nx_callVr (n := 0) (q0 := 0) (as := []) C hA hM (k_grow0 _ Z A a ((x, .inr (ci, fs)) :: ws0)) (gv (tg3 117 rfl rfl) (tg3 119 rfl rfl) (tg0 18 rfl rfl) (tg1 4 rfl rfl) (tg3 120 rfl rfl)) (by decide +kernel) ⟨Nat.le_of_ble_eq_true rfl, Nat.le_of_ble_eq_true rfl⟩ rfl rfl rfl rfl (Nat.le_of_ble_eq_true rfl) dJx4a65c_add_72be8_7 ⟨Nat.le_of_ble_eq_true rfl, Nat.le_of_ble_eq_true rfl⟩ (fun q w7 h7 => ?_)
    subst h7
    refine nx_astore_n (lo' := [some (.ref a), some (.ref x), some (.ref q), some (.int 0)]) C dJx4a65c_add_72be8_10 rfl (Nat.le_of_ble_eq_true rfl) rfl rfl ?_
    refine nx_aload_n C dJx4a65c_add_72be8_11 rfl rfl ?_
    refine nx_iload_n C dJx4a65c_add_72be8_12 rfl rfl ?_
    refine nx_aload_n C dJx4a65c_add_72be8_13 rfl rfl ?_
    refine nx_astq (b := 0) (ws' := (q, .inl (Z.Y.2.1, 10, .inr (.inr (.inr (.inr (va_up (fun _ => none) 0 (some x))))))) :: (a, .inr (0, [.int 1, .ref q, .int 0])) :: (x, .inr (ci, fs)) :: ws0) C hM 0 2 rfl rfl hc hcast (by decide) rfl dJx4a65c_add_72be8_14 ?_
    refine nx_aload_n C dJx4a65c_add_72be8_15 rfl rfl ?_
    refine nx_iload_n C dJx4a65c_add_72be8_16 rfl rfl ?_
    refine nx_iconst (v := 1) C dJx4a65c_add_72be8_17 (by decide) ?_
    refine nx_iadd C dJx4a65c_add_72be8_18 ?_
    refine nx_topi (y := 1) rfl ?_
    refine nx_put C inGL rfl tyJx4a65c tyJx4a65c_ok nmJx4a65c 2 (by decide) (tg1 52 rfl rfl) (Or.inl rfl) rfl (ty := .int) (by decide +kernel) rfl rfl 1 rfl (Nat.le_of_ble_eq_true rfl) (ws' := (q, .inl (Z.Y.2.1, 10, .inr (.inr (.inr (.inr (va_up (fun _ => none) 0 (some x))))))) :: (a, .inr (0, [.int 1, .ref q, .int 1])) :: (x, .inr (ci, fs)) :: ws0) rfl dJx4a65c_add_72be8_19 ?_
    exact ret _ _ _ dJx4a65c_add_72be8_22 ⟨q, rfl⟩
set_option maxRecDepth 100000 in
theorem k_add3_k (l : Launch) (Z : Zc) (A : Nat → Prop) (a x b k : Nat) (hk : k < 10) (f : Nat → Option Nat) {ci N : Nat} {Cn : String} {T : u_T} {fs : List Value} (hc : vwCl[ci]? = some (Cn, T, N)) (hcast : Cond.castable Cn "java/lang/Object" ∈ wsM) (ws0 : va_W) : MYv l yJx4a65c_add_72be8 cJx4a65c_add_72be8 4 (rmz 3 90 1 10) Z A [.ref a, .ref x, .ref b, .int (nI k)] ((a, .inr (0, [.int (nI (k + 1)), .ref b, .int (nI k)])) :: (x, .inr (ci, fs)) :: (b, .inl (Z.Y.2.1, 10, .inr (.inr (.inr (.inr (f)))))) :: ws0) (fun ws' => ws' = (a, .inr (0, [.int (nI (k + 1)), .ref b, .int (nI (k + 1))])) :: (x, .inr (ci, fs)) :: (b, .inl (Z.Y.2.1, 10, .inr (.inr (.inr (.inr (va_up (f) k (some x))))))) :: ws0) := by
  refine ent_yv (own := RJx4a65c) (lo := [some (.ref a), some (.ref x), some (.ref b), some (.int (nI k))]) (by decide) rfl (by simp [lg_sl, Value.category]) rfl (fun P hl C hA hM ret => ?_)
  refine nx_iload_n C dJx4a65c_add_72be8_0 rfl rfl ?_
  refine nx_aload_n C dJx4a65c_add_72be8_1 rfl rfl ?_
  refine nx_alenq C 2 rfl dJx4a65c_add_72be8_2 ?_
  refine nx_icmp_ne (tgt := 11) C dJx4a65c_add_72be8_3 (by decide) (fun h3 => ?_) (fun h3 => ?_)
  · refine nx_aload_n C dJx4a65c_add_72be8_11 rfl rfl ?_
    refine nx_iload_n C dJx4a65c_add_72be8_12 rfl rfl ?_
    refine nx_aload_n C dJx4a65c_add_72be8_13 rfl rfl ?_
    refine nx_astq (b := k) (ws' := (a, .inr (0, [.int (nI (k + 1)), .ref b, .int (nI k)])) :: (x, .inr (ci, fs)) :: (b, .inl (Z.Y.2.1, 10, .inr (.inr (.inr (.inr (va_up (f) k (some x))))))) :: ws0) C hM 2 1 rfl rfl hc hcast (by omega) rfl dJx4a65c_add_72be8_14 ?_
    refine nx_aload_n C dJx4a65c_add_72be8_15 rfl rfl ?_
    refine nx_iload_n C dJx4a65c_add_72be8_16 rfl rfl ?_
    refine nx_iconst (v := 1) C dJx4a65c_add_72be8_17 (by decide) ?_
    refine nx_iadd C dJx4a65c_add_72be8_18 ?_
    refine nx_topi (y := nI (k + 1)) (nI_1 k) ?_
    refine nx_put C inGL rfl tyJx4a65c tyJx4a65c_ok nmJx4a65c 2 (by decide) (tg1 52 rfl rfl) (Or.inl rfl) rfl (ty := .int) (by decide +kernel) rfl rfl 0 rfl (Nat.le_of_ble_eq_true rfl) (ws' := (a, .inr (0, [.int (nI (k + 1)), .ref b, .int (nI (k + 1))])) :: (x, .inr (ci, fs)) :: (b, .inl (Z.Y.2.1, 10, .inr (.inr (.inr (.inr (va_up (f) k (some x))))))) :: ws0) rfl dJx4a65c_add_72be8_19 ?_
    refine nx_wide (k := 1) (n := 10) (Nat.le_of_ble_eq_true rfl) (Nat.le_of_ble_eq_true rfl) ?_
    exact ret _ _ _ dJx4a65c_add_72be8_22 rfl
  · exact absurd (nI_inj (by omega) (by omega) h3) (by omega)
set_option maxRecDepth 100000 in
theorem k_add_0 (l : Launch) (Z : Zc) (A : Nat → Prop) (a x : Nat) {ci N : Nat} {Cn : String} {T : u_T} {fs : List Value} (hc : vwCl[ci]? = some (Cn, T, N)) (hcast : Cond.castable Cn "java/lang/Object" ∈ wsM) (ws0 : va_W) : MYi l yJx4a65c_add_9ea2d cJx4a65c_add_9ea2d 2 (rmz 4 120 1 10) Z A [.ref a, .ref x] ((a, .inr (0, [.int 0, .ref Z.df, .int 0])) :: (x, .inr (ci, fs)) :: ws0) (fun r ws' => ∃ q, ws' = (q, .inl (Z.Y.2.1, 10, .inr (.inr (.inr (.inr (va_up (fun _ => none) 0 (some x))))))) :: (a, .inr (0, [.int 1, .ref q, .int 1])) :: (x, .inr (ci, fs)) :: ws0) := by
  refine ent_yi (own := RJx4a65c) (lo := [some (.ref a), some (.ref x)]) (by decide) rfl (by simp [lg_sl, Value.category]) rfl (fun P hl C hA hM ret => ?_)
  refine nx_aload_n C dJx4a65c_add_9ea2d_0 rfl rfl ?_
  refine nx_dup C dJx4a65c_add_9ea2d_1 rfl ?_
  refine nx_get C inGL rfl 0 (by decide) (tg1 54 rfl rfl) (Or.inr (tg1 55 rfl rfl)) 0 rfl rfl dJx4a65c_add_9ea2d_2 ?_
  refine nx_iconst (v := 1) C dJx4a65c_add_9ea2d_5 (by decide) ?_
  refine nx_iadd C dJx4a65c_add_9ea2d_6 ?_
  refine nx_topi (y := 1) rfl ?_
  refine nx_put C inGL rfl tyJx4a65c tyJx4a65c_ok nmJx4a65c 0 (by decide) (tg1 54 rfl rfl) (Or.inr (tg1 55 rfl rfl)) rfl (ty := .int) (by decide +kernel) rfl rfl 0 rfl (Nat.le_of_ble_eq_true rfl) (ws' := (a, .inr (0, [.int 1, .ref Z.df, .int 0])) :: (x, .inr (ci, fs)) :: ws0) rfl dJx4a65c_add_9ea2d_7 ?_
  refine nx_aload_n C dJx4a65c_add_9ea2d_10 rfl rfl ?_
  refine nx_aload_n C dJx4a65c_add_9ea2d_11 rfl rfl ?_
  refine nx_aload_n C dJx4a65c_add_9ea2d_12 rfl rfl ?_
  refine nx_get C inGL rfl 1 (by decide) (tg1 51 rfl rfl) (Or.inl rfl) 0 rfl rfl dJx4a65c_add_9ea2d_13 ?_
  refine nx_aload_n C dJx4a65c_add_9ea2d_16 rfl rfl ?_
  refine nx_get C inGL rfl 2 (by decide) (tg1 52 rfl rfl) (Or.inl rfl) 0 rfl rfl dJx4a65c_add_9ea2d_17 ?_
  refine nx_callVv (n := 3) (q0 := 0) (as := [.ref x, .ref Z.df, .int 0]) C hA hM (k_add3_0 _ Z A a x hc hcast ws0) (gv (tg3 113 rfl rfl) (tg3 115 rfl rfl) (tg0 17 rfl rfl) (tg1 4 rfl rfl) (tg3 116 rfl rfl)) (by decide +kernel) ⟨Nat.le_of_ble_eq_true rfl, Nat.le_of_ble_eq_true rfl⟩ rfl rfl rfl rfl (Nat.le_of_ble_eq_true rfl) dJx4a65c_add_9ea2d_20 ⟨Nat.le_of_ble_eq_true rfl, Nat.le_of_ble_eq_true rfl⟩ (fun w20 h20 => ?_)
  obtain ⟨q, rfl⟩ := h20
  refine nx_iconst (v := 1) C dJx4a65c_add_9ea2d_23 (by decide) ?_
  exact ret _ _ _ _ dJx4a65c_add_9ea2d_24 (Or.inr rfl) ⟨q, rfl⟩
set_option maxRecDepth 100000 in
theorem k_add_k (l : Launch) (Z : Zc) (A : Nat → Prop) (a x b k : Nat) (hk : k < 10) (f : Nat → Option Nat) {ci N : Nat} {Cn : String} {T : u_T} {fs : List Value} (hc : vwCl[ci]? = some (Cn, T, N)) (hcast : Cond.castable Cn "java/lang/Object" ∈ wsM) (ws0 : va_W) : MYi l yJx4a65c_add_9ea2d cJx4a65c_add_9ea2d 2 (rmz 4 120 1 10) Z A [.ref a, .ref x] ((a, .inr (0, [.int (nI k), .ref b, .int (nI k)])) :: (x, .inr (ci, fs)) :: (b, .inl (Z.Y.2.1, 10, .inr (.inr (.inr (.inr (f)))))) :: ws0) (fun r ws' => ws' = (a, .inr (0, [.int (nI (k + 1)), .ref b, .int (nI (k + 1))])) :: (x, .inr (ci, fs)) :: (b, .inl (Z.Y.2.1, 10, .inr (.inr (.inr (.inr (va_up (f) k (some x))))))) :: ws0) := by
  refine ent_yi (own := RJx4a65c) (lo := [some (.ref a), some (.ref x)]) (by decide) rfl (by simp [lg_sl, Value.category]) rfl (fun P hl C hA hM ret => ?_)
  refine nx_aload_n C dJx4a65c_add_9ea2d_0 rfl rfl ?_
  refine nx_dup C dJx4a65c_add_9ea2d_1 rfl ?_
  refine nx_get C inGL rfl 0 (by decide) (tg1 54 rfl rfl) (Or.inr (tg1 55 rfl rfl)) 0 rfl rfl dJx4a65c_add_9ea2d_2 ?_
  refine nx_iconst (v := 1) C dJx4a65c_add_9ea2d_5 (by decide) ?_
  refine nx_iadd C dJx4a65c_add_9ea2d_6 ?_
  refine nx_topi (y := nI (k + 1)) (nI_1 k) ?_
  refine nx_put C inGL rfl tyJx4a65c tyJx4a65c_ok nmJx4a65c 0 (by decide) (tg1 54 rfl rfl) (Or.inr (tg1 55 rfl rfl)) rfl (ty := .int) (by decide +kernel) rfl rfl 0 rfl (Nat.le_of_ble_eq_true rfl) (ws' := (a, .inr (0, [.int (nI (k + 1)), .ref b, .int (nI k)])) :: (x, .inr (ci, fs)) :: (b, .inl (Z.Y.2.1, 10, .inr (.inr (.inr (.inr (f)))))) :: ws0) rfl dJx4a65c_add_9ea2d_7 ?_
  refine nx_aload_n C dJx4a65c_add_9ea2d_10 rfl rfl ?_
  refine nx_aload_n C dJx4a65c_add_9ea2d_11 rfl rfl ?_
  refine nx_aload_n C dJx4a65c_add_9ea2d_12 rfl rfl ?_
  refine nx_get C inGL rfl 1 (by decide) (tg1 51 rfl rfl) (Or.inl rfl) 0 rfl rfl dJx4a65c_add_9ea2d_13 ?_
  refine nx_aload_n C dJx4a65c_add_9ea2d_16 rfl rfl ?_
  refine nx_get C inGL rfl 2 (by decide) (tg1 52 rfl rfl) (Or.inl rfl) 0 rfl rfl dJx4a65c_add_9ea2d_17 ?_
  refine nx_callVv (n := 3) (q0 := 0) (as := [.ref x, .ref b, .int (nI k)]) C hA hM (k_add3_k _ Z A a x b k hk f hc hcast ws0) (gv (tg3 113 rfl rfl) (tg3 115 rfl rfl) (tg0 17 rfl rfl) (tg1 4 rfl rfl) (tg3 116 rfl rfl)) (by decide +kernel) ⟨Nat.le_of_ble_eq_true rfl, Nat.le_of_ble_eq_true rfl⟩ rfl rfl rfl rfl (Nat.le_of_ble_eq_true rfl) dJx4a65c_add_9ea2d_20 ⟨Nat.le_of_ble_eq_true rfl, Nat.le_of_ble_eq_true rfl⟩ (fun w20 h20 => ?_)
  subst h20
  refine nx_iconst (v := 1) C dJx4a65c_add_9ea2d_23 (by decide) ?_
  exact ret _ _ _ _ dJx4a65c_add_9ea2d_24 (Or.inr rfl) rfl
