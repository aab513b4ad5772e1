/-! THE LAW'S OWN METHODS: calls that are caught -/
/-- the exceptions that are no others -/
def ncL : List (String × String) := [(exC 1, exC 2), (exC 0, exC 2)]
def StrC (U : State) : Prop := ∀ q ∈ ncL, va_Nc q.1 q.2 U
theorem StrC.moved {u U : State} (hvm : u.vm.Alike U.vm) (h : StrC u) : StrC U := fun q hq => (h q hq).moved hvm
theorem StrX.same {u U : State} (h : u.vm = U.vm) (hX : StrX u) : StrX U := by
  refine ⟨fun w hw => va_tabs (wsN_ot w hw) h (hX.1 w hw), fun q hq => ?_⟩
  obtain ⟨sa, h1⟩ := hX.2 q hq
  exact ⟨sa, vk_R.same h.symm h1⟩
/-- all that a caller of the class hands on -/
def StrA (U : State) : Prop := StrX U ∧ StrM U ∧ StrC U
theorem StrA.warm {s U : State} (hW : s.WarmedH U.vm) (h : StrA s) : StrA U := ⟨h.1.warm hW, h.2.1.warm hW, h.2.2.moved hW.alike⟩
theorem StrA.same {u U : State} (h : u.vm = U.vm) (hA : StrA u) : StrA U := ⟨hA.1.same h, hA.2.1.same h, hA.2.2.moved (by rw [h]; exact Vm.Alike.refl U.vm)⟩
def CxS (P : Pm) : Prop := match P with
  | (_, _, _, s, _, _, _, _, _, _, _) => StrA s
def CxT (P : Pm) (hh : List (Nat × Nat × Nat × Nat)) : Prop := match P with
  | (_, _, _, _, _, _, _, _, c, _, _) => c.exceptionTable.toList = tableOf hh
theorem Wx_fb {Z : Zc} {as : List Value} {g : MG} : FrameBlind (va_Pc as (fun U => Wx Z g U)) := fun a U g' mk h => ⟨h.1, Wd_blind (U := U) (U' := U.calling g' mk a) rfl (Vm.Alike.refl U.vm) h.2.1, StrX.same (u := U) rfl h.2.2⟩
theorem Wm_fb {Z : Zc} {as : List Value} {g : MG} : FrameBlind (va_Pc as (fun U => Wx Z g U ∧ StrM U)) := fun a U g' mk h => ⟨h.1, ⟨Wd_blind (U := U) (U' := U.calling g' mk a) rfl (Vm.Alike.refl U.vm) h.2.1.1, StrX.same (u := U) rfl h.2.1.2⟩, StrM.same (u := U) rfl h.2.2⟩
/-- something is thrown over a frame -/
def VT (P : Pm) (R : Room) (Z : Zc) (lo : Lo) (pc : Nat) (rest : List Value) (E : String) (q : Nat) (g : MG) (cs sl : Nat) : Prop := match P with
  | (p, l, e, s, m, args, below, meth, c, Q, nL) => ∀ (ls : Array Slot) (H : Heap) (locs : List Loc) (ce : Cell), Lv ls nL lo → HwZ Z g H → va_S (A0 Z.z) s.heap H locs → H[q]? = some ce → ce.vm = .none → s.vm.findClass E = some ce.cls → vx_W p l e R s m args below meth c H locs cs sl Q (F0 m pc ls rest) q
section VCX
variable {P : Pm} {R : Room} {Z : Zc} {cc : ByteArray} {own : String} {lo : Lo} {pc : Nat} {rest st : List Value} {g : MG} {cs sl : Nat}
theorem v_catch (C : Cx P Z cc own) (hS9 : CxS P) {hh : List (Nat × Nat × Nat × Nat)} (hT : CxT P hh) (i : Nat) {k : Fin 3} {a b hp ct : Nat} (hi : hh[i]? = some (a, b, hp, ct)) (hcov : a ≤ pc ∧ pc < b) (hct : ct ≠ 0) (hlink : Cond.classLink own ct (exC k) ∈ wsG) (hcast : Cond.castable (exC k) (exC k) ∈ wsN) (hpre : ∀ j, j < i → ∃ (x : Nat × Nat × Nat × Nat) (k2 : Fin 3), hh[j]? = some x ∧ x.2.2.2 ≠ 0 ∧ Cond.classLink own x.2.2.2 (exC k2) ∈ wsG ∧ (exC k, exC k2) ∈ ncL) {q : Nat} (kk : V P R Z lo hp [.ref q] g cs sl) : VT P R Z lo pc rest (exC k) q g cs sl := by
  obtain ⟨p, l, e, s, m, args, below, meth, c, Q, nL⟩ := P
  intro ls H locs ce hl hw hS h1 h2 h3
  have hlen : i < hh.length := (List.getElem?_eq_some_iff.mp hi).1
  have hsp : c.exceptionTable.toList = (tableOf hh).take i ++ (⟨a, b, hp, ct⟩ : ExceptionTableEntry) :: (tableOf hh).drop (i + 1) := by
    have hT' : c.exceptionTable.toList = tableOf hh := hT
    rw [hT']
    have hlt : i < (tableOf hh).length := by unfold tableOf; rw [List.length_map]; exact hlen
    have hg : (tableOf hh)[i] = (⟨a, b, hp, ct⟩ : ExceptionTableEntry) := by
      have : (tableOf hh)[i]? = some (⟨a, b, hp, ct⟩ : ExceptionTableEntry) := by unfold tableOf; rw [List.getElem?_map, hi]; rfl
      exact (List.getElem?_eq_some_iff.mp this).2
    rw [← hg, ← List.drop_eq_getElem_cons hlt, List.take_append_drop]
  refine vx_catch (own := own) (name := exC k) (E := exC k) (ce := ce) C.2.2.2.1 _ _ _ hsp (fun z hz => ?_) ?_ hct (C.2.2.2.2.1 _ hlink) (va_tabs (wsN_ot _ hcast) rfl (hS9.1.1 _ hcast)) h1 h2 h3 (kk ls H locs hl hw hS)
  · right
    obtain ⟨j, hj⟩ := List.getElem?_of_mem hz
    have hji : j < i := by
      have := (List.getElem?_eq_some_iff.mp hj).1
      rw [List.length_take] at this
      omega
    rw [List.getElem?_take, if_pos hji] at hj
    obtain ⟨x, k2, hx, hx0, hx1, hx2⟩ := hpre j hji
    have hz2 : z = ⟨x.1, x.2.1, x.2.2.1, x.2.2.2⟩ := by
      unfold tableOf at hj
      rw [List.getElem?_map, hx] at hj
      exact (Option.some.inj hj).symm
    rw [hz2]
    exact ⟨hx0, exC k2, C.2.2.2.2.1 _ hx1, hS9.2.2 _ hx2⟩
  · simp [covers, hcov.1, hcov.2]
/-- a call of the class that answers or throws -/
theorem v_callX (C : Cx P Z cc own) (hS9 : CxS P) {y : MethodName} {cc' : ByteArray} {maxL idx n k ci N : Nat} {ret : Option FieldType} {rm' : Room} {as : List Value} {post : Int32 → MG → Prop} {postX : String → MG → Prop} {Cn : String} {T : u_T} {fs : List Value} (hM : XI P.2.1 y cc' maxL ret rm' Z (.ref (Z.ad k) :: as) g post postX) (hG : GoodIn wsG (wsV own idx Cn y (wz y cc' maxL ret)))
    (hd : y.cls = Cn ∧ y.cls ≠ "java/lang/invoke/MethodHandle" ∧ y.cls ≠ "java/lang/invoke/VarHandle" ∧ (parseMethodDescriptor y.desc).map (fun d => d.parameters.length) = some n) (hR : rm'.frames + 1 ≤ R.frames ∧ 8 + (maxL + 11) + rm'.locals ≤ R.locals) (hc : vwCl[ci]? = some (Cn, T, N)) (hk : cx Z.Y Z.ad Z.df g k = some (.inr (ci, fs))) (hn : as.length = n) (hst : st = as.reverse ++ .ref (Z.ad k) :: rest) (hr : (rest.map fun v => v.category).sum ≤ 8) (hdg : decode cc pc = .ok (.invokevirtual idx, 3)) (hf : cs + rm'.cells ≤ R.cells ∧ sl + rm'.slots ≤ R.slots)
    (kx : ∀ (E : String) (q : Nat) (g' : MG), postX E g' → VT P R Z lo pc rest E q g' (cs + rm'.cells) (sl + rm'.slots))
    (kk : ∀ (r : Int32) (g' : MG), post r g' → V P R Z lo (pc + 3) (.int r :: rest) g' (cs + rm'.cells) (sl + rm'.slots)) : V P R Z lo pc st g cs sl := by
  obtain ⟨p, l, e, s, m, args, below, meth, c, Q, nL⟩ := P
  subst hst
  intro ls H locs hl hw hS
  have hP : va_P Z.D vwCl [(Z.ad k, .inr (ci, fs))] H := by
    intro i q hq
    rcases List.mem_singleton.mp (List.mem_of_getElem? hq) with rfl
    exact (hw.1 k _ hk).1
  refine vx_calli (vx_runV (As := as) (rest := rest) ⟨C.1, C.2.1, C.2.2.1, C.2.2.2.1, C.2.2.2.2.1⟩ hM (cwV n C.2.2.2.2.1 hG rfl rfl rfl hd hR) ⟨Wx_fb, va_recv C.2.2.2.2.2.1 hP hc (q0 := 0) rfl, fun U hU hW => ⟨rfl, Wd_of hw C.2.2.2.2.2.1 C.2.2.2.2.2.2.1 C.2.2.2.2.2.2.2.2 hS hU hW.alike, hS9.1.warm hW⟩⟩ rfl hn hl.2.1 rfl (lv_room hr) hdg hf) hS (fun _ _ h => h) (fun _ h => h) (fun _ _ h => h) (fun E ce q9 u t H1 locs1 ht hvm hp hB hz1 hk1 hS1 h1 h2 h3 => ?_) (fun r u t H1 locs1 ht hvm hp hB hz1 hk1 hS1 => ?_)
  · obtain ⟨E2, g2⟩ := u
    obtain ⟨hE, hB2⟩ := hB
    have hE : E = E2 := hE
    subst hE
    refine kx E q9 g2 hp ls H1 locs1 ce hl ?_ hS1 h1 h2 h3
    rw [← ht]; exact hB2.1
  · refine kk r u hp ls H1 locs1 hl ?_ hS1
    rw [← ht]; exact hB.1
theorem v_callM (C : Cx P Z cc own) (hS9 : CxS P) {y : MethodName} {cc' : ByteArray} {maxL idx n k ci N : Nat} {ret : Option FieldType} {rm' : Room} {as : List Value} {post : Int32 → (Nat → Nat) × MG → Prop} {postX : String → MG → Prop} {Cn : String} {T : u_T} {fs : List Value} (hM : XM P.2.1 y cc' maxL ret rm' Z (.ref (Z.ad k) :: as) g post postX) (hG : GoodIn wsG (wsV own idx Cn y (wz y cc' maxL ret)))
    (hd : y.cls = Cn ∧ y.cls ≠ "java/lang/invoke/MethodHandle" ∧ y.cls ≠ "java/lang/invoke/VarHandle" ∧ (parseMethodDescriptor y.desc).map (fun d => d.parameters.length) = some n) (hR : rm'.frames + 1 ≤ R.frames ∧ 8 + (maxL + 11) + rm'.locals ≤ R.locals) (hc : vwCl[ci]? = some (Cn, T, N)) (hk : cx Z.Y Z.ad Z.df g k = some (.inr (ci, fs))) (hn : as.length = n) (hst : st = as.reverse ++ .ref (Z.ad k) :: rest) (hr : (rest.map fun v => v.category).sum ≤ 8) (hdg : decode cc pc = .ok (.invokevirtual idx, 3)) (hf : cs + rm'.cells ≤ R.cells ∧ sl + rm'.slots ≤ R.slots)
    (kx : ∀ (E : String) (q : Nat) (g' : MG), postX E g' → VT P R Z lo pc rest E q g' (cs + rm'.cells) (sl + rm'.slots))
    (kk : ∀ (r : Int32) (ad' : Nat → Nat) (g' : MG), post r (ad', g') → V P R (Z.wa ad') lo (pc + 3) (.int r :: rest) g' (cs + rm'.cells) (sl + rm'.slots)) : V P R Z lo pc st g cs sl := by
  obtain ⟨p, l, e, s, m, args, below, meth, c, Q, nL⟩ := P
  subst hst
  intro ls H locs hl hw hS
  have hP : va_P Z.D vwCl [(Z.ad k, .inr (ci, fs))] H := by
    intro i q hq
    rcases List.mem_singleton.mp (List.mem_of_getElem? hq) with rfl
    exact (hw.1 k _ hk).1
  refine vx_calli (vx_runV (As := as) (rest := rest) ⟨C.1, C.2.1, C.2.2.1, C.2.2.2.1, C.2.2.2.2.1⟩ hM (cwV n C.2.2.2.2.1 hG rfl rfl rfl hd hR) ⟨Wm_fb, va_recv C.2.2.2.2.2.1 hP hc (q0 := 0) rfl, fun U hU hW => ⟨rfl, ⟨Wd_of hw C.2.2.2.2.2.1 C.2.2.2.2.2.2.1 C.2.2.2.2.2.2.2.2 hS hU hW.alike, hS9.1.warm hW⟩, hS9.2.1.warm hW⟩⟩ rfl hn hl.2.1 rfl (lv_room hr) hdg hf) hS (fun _ _ h => h) (fun _ h => h) (fun _ _ h => h) (fun E ce q9 u t H1 locs1 ht hvm hp hB hz1 hk1 hS1 h1 h2 h3 => ?_) (fun r u t H1 locs1 ht hvm hp hB hz1 hk1 hS1 => ?_)
  · obtain ⟨E2, g2⟩ := u
    obtain ⟨hE, hB2⟩ := hB
    have hE : E = E2 := hE
    subst hE
    refine kx E q9 g2 hp ls H1 locs1 ce hl ?_ hS1 h1 h2 h3
    rw [← ht]; exact hB2.1
  · refine kk r u.1 u.2 hp ls H1 locs1 hl ?_ hS1
    rw [← ht]; exact hB.1
end VCX
