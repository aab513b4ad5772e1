/-! WHAT MAKES OBJECTS: lists of cells, no world -/
/-- words of lists of objects -/
def wsM : List Cond := [.castable "PosterTypes$Fount" "java/lang/Object", .castable "PosterTypes$Poster" "java/lang/Object", .castable "PosterTypes$Line" "java/lang/Object"]
def StrM (U : State) : Prop := (∀ w ∈ wsM, va_Nw w U) ∧ va_AO "java/lang/Object" U
theorem StrM.warm {s U : State} (hW : s.WarmedH U.vm) (h : StrM s) : StrM U := by
  refine ⟨fun w hw => ?_, h.2.moved hW.alike⟩
  have h1 := h.1 w hw
  simp only [wsM, List.mem_cons, List.not_mem_nil, or_false] at hw
  rcases hw with rfl | rfl | rfl
  · exact va_Nw.warmC hW h1
  · exact va_Nw.warmC hW h1
  · exact va_Nw.warmC hW h1
def VX (P : Pm) (R : Room) (Z : Zc) (A : Nat → Prop) (ws : va_W) (lo : Lo) (pc : Nat) (st : List Value) (cs sl : Nat) : Prop := match P with
  | (p, l, e, s, m, args, below, meth, c, Q, nL) => ∀ (ls : Array Slot) (H : Heap) (locs : List Loc), Lv ls nL lo → va_P Z.D vwCl ws H → va_D A ws → va_S A s.heap H locs → W p l e R s m args below meth c H locs cs sl Q (F0 m pc ls st)
/-- what a walk that makes knows besides: new cells are its own, none is below the first; it is of a constructor, perhaps -/
def CxA (P : Pm) (Z : Zc) (A : Nat → Prop) : Prop := match P with
  | (_, _, _, s, _, _, _, _, _, _, _) => (∀ q, s.heap.size ≤ q → A q) ∧ ∀ q, A q → Z.z ≤ q
def CxI (P : Pm) : Prop := match P with
  | (_, _, _, _, _, _, _, meth, _, _, _) => meth.name = "<init>"
def CxM (P : Pm) : Prop := match P with
  | (_, _, _, s, _, _, _, _, _, _, _) => StrM s
def WX (Z : Zc) (A : Nat → Prop) (ws : va_W) (U : State) : Prop := (∀ q, U.heap.size ≤ q → A q) ∧ (∀ q, A q → Z.z ≤ q) ∧ va_P Z.D vwCl ws U.heap ∧ va_D A ws ∧ va_K Z.D vwCl (tyY Z.Y) U ∧ Z.z ≤ U.heap.size ∧ Sta Z.z Z.df U U.heap
theorem WX_of {Z : Zc} {A : Nat → Prop} {ws : va_W} {s t : State} {H : Heap} {locs : List Loc} (hA : ∀ q, s.heap.size ≤ q → A q) (hz9 : ∀ q, A q → Z.z ≤ q) (hP : va_P Z.D vwCl ws H) (hD : va_D A ws) (hK : va_K Z.D vwCl (tyY Z.Y) s) (hz : Z.z ≤ s.heap.size) (hst : Sta Z.z Z.df s s.heap) (hS : va_S A s.heap H locs) (ht : t.heap = H) (hvm : s.vm.Alike t.vm) : WX Z A ws t := by
  refine ⟨fun q hq => hA q (by rw [ht] at hq; exact Nat.le_trans hS.1 hq), hz9, by rw [ht]; exact hP, hD, va_K.moved hvm hK, by rw [ht]; exact Nat.le_trans hz hS.1, ?_⟩
  rw [ht]
  exact (hst.kept (fun a ha h => hS.2.1 a ha (fun z => h (hz9 a z)))).moved hvm
theorem WX_blind {Z : Zc} {A : Nat → Prop} {ws : va_W} {U U' : State} (hh : U'.heap = U.heap) (hvm : U.vm.Alike U'.vm) (h : WX Z A ws U) : WX Z A ws U' := by
  obtain ⟨h1, h2, h3, h4, h5, h6, h7⟩ := h
  refine ⟨by rw [hh]; exact h1, h2, by rw [hh]; exact h3, h4, va_K.moved hvm h5, by rw [hh]; exact h6, ?_⟩
  rw [hh]
  exact h7.moved hvm
def MX (l : Launch) (y : MethodName) (cc : ByteArray) (maxL : Nat) (rm : Room) (Z : Zc) (A : Nat → Prop) (as : List Value) (ws : va_W) (post : va_W → Prop) : Prop := Met l y (wz y cc maxL none) rm (va_Pc as (fun U => WX Z A ws U)) (va_Qv post (fun ws' t => WX Z A ws' t) A) rm.cells rm.slots A
theorem ent_x {l : Launch} {y : MethodName} {cc : ByteArray} {maxL : Nat} {rm : Room} {Z : Zc} {A : Nat → Prop} {as : List Value} {ws : va_W} {post : va_W → Prop} {own : String} {lo : Lo} (hy : plainName y.cls = true) (ho : y.cls = own) (hn : y.name = "<init>") (hlen : (lg_sl as).length ≤ maxL) (hlo : loA (lv_args 0 as) maxL = lo)
    (body : ∀ P : Pm, P.2.1 = l → Cx P Z cc own → CxA P Z A → CxI P → (∀ (pc : Nat) (lo' : Lo) (ws' : va_W), decode cc pc = .ok (.return_, 1) → post ws' → VX P rm Z A ws' lo' pc [] rm.cells rm.slots) → VX P rm Z A ws lo 0 [] 0 0) : MX l y cc maxL rm Z A as ws post := by
  refine Met.ofW (cc := cc) (maxL := maxL) (ret := none) hy rfl ?_
  intro p e s m args below meth c s₁ B hml hv
  obtain ⟨rfl, hA, hz9, hP, hD, hK, hz, hst⟩ := hv
  have hts : ∀ w ∈ wsG, w.before as.toArray s = true := fun w h => atoms_spec (ws := wz y cc maxL none) B.pre w (List.mem_cons_of_mem _ h)
  have hown : s.vm.findClass own = some m.cls := ho ▸ findClass_of_methodNamed B.named
  have hinit : meth.name = "<init>" := (name_of_methodNamed B.named B.method).1.trans hn
  have hl := lv_entry as hlen
  rw [lg_entry_eq]
  generalize (lg_sl as ++ List.replicate (maxL - (lg_sl as).length) Slot.unset).toArray = ls at hl ⊢
  refine body (p, l, e, s, m, as.toArray, below, meth, c, _, maxL) rfl ⟨B.exec, B.bytes, hml, hown, hts, hK, hz, B.notSynchronized, hst⟩ ⟨hA, hz9⟩ hinit ?_ ls s.heap [] (hlo ▸ Lv_of hl) hP hD va_S.rf
  intro pc lo' ws' hdg hp ls H locs hl hP' hD' hS
  exact W.vret B.exec B.bytes B.returns (fun t ht hW => ⟨⟨ws', rfl, hp, WX_of hA hz9 hP' hD' hK hz hst hS ht hW.alike⟩, hS.F ht⟩) hS.2.2 hdg
theorem ent_xs {l : Launch} {y : MethodName} {cc : ByteArray} {maxL : Nat} {rm : Room} {Z : Zc} {A : Nat → Prop} {as : List Value} {ws : va_W} {post : va_W → Prop} {own : String} {lo : Lo} (hy : plainName y.cls = true) (ho : y.cls = own) (hlen : (lg_sl as).length ≤ maxL) (hlo : loA (lv_args 0 as) maxL = lo)
    (body : ∀ P : Pm, P.2.1 = l → Cx P Z cc own → CxA P Z A → (∀ (pc : Nat) (lo' : Lo) (ws' : va_W), decode cc pc = .ok (.return_, 1) → post ws' → VX P rm Z A ws' lo' pc [] rm.cells rm.slots) → VX P rm Z A ws lo 0 [] 0 0) : MX l y cc maxL rm Z A as ws post := by
  refine Met.ofW (cc := cc) (maxL := maxL) (ret := none) hy rfl ?_
  intro p e s m args below meth c s₁ B hml hv
  obtain ⟨rfl, hA, hz9, hP, hD, hK, hz, hst⟩ := hv
  have hts : ∀ w ∈ wsG, w.before as.toArray s = true := fun w h => atoms_spec (ws := wz y cc maxL none) B.pre w (List.mem_cons_of_mem _ h)
  have hown : s.vm.findClass own = some m.cls := ho ▸ findClass_of_methodNamed B.named
  have hl := lv_entry as hlen
  rw [lg_entry_eq]
  generalize (lg_sl as ++ List.replicate (maxL - (lg_sl as).length) Slot.unset).toArray = ls at hl ⊢
  refine body (p, l, e, s, m, as.toArray, below, meth, c, _, maxL) rfl ⟨B.exec, B.bytes, hml, hown, hts, hK, hz, B.notSynchronized, hst⟩ ⟨hA, hz9⟩ ?_ ls s.heap [] (hlo ▸ Lv_of hl) hP hD va_S.rf
  intro pc lo' ws' hdg hp ls H locs hl hP' hD' hS
  exact W.vret B.exec B.bytes B.returns (fun t ht hW => ⟨⟨ws', rfl, hp, WX_of hA hz9 hP' hD' hK hz hst hS ht hW.alike⟩, hS.F ht⟩) hS.2.2 hdg
section NXR
variable {P : Pm} {R : Room} {Z : Zc} {A : Nat → Prop} {ws : va_W} {cc : ByteArray} {own : String} {lo : Lo} {pc : Nat} {rest : List Value} {cs sl : Nat}
theorem nx_iconst (C : Cx P Z cc own) {n : Int} {v : Int32} (hdg : decode cc pc = .ok (.iconst n, 1)) (hv : Int32.ofInt n = v) (k : VX P R Z A ws lo (pc + 1) (.int v :: rest) cs sl) : VX P R Z A ws lo pc rest cs sl := by
  obtain ⟨p, l, e, s, m, args, below, meth, c, Q, nL⟩ := P
  exact fun ls H locs hl hP hD hS => lv_iconst C.1 C.2.1 hdg hv (k ls H locs hl hP hD hS)
theorem nx_bipush (C : Cx P Z cc own) {n : Int} {v : Int32} (hdg : decode cc pc = .ok (.bipush n, 2)) (hv : (Int8.ofInt n).toInt32 = v) (k : VX P R Z A ws lo (pc + 2) (.int v :: rest) cs sl) : VX P R Z A ws lo pc rest cs sl := by
  obtain ⟨p, l, e, s, m, args, below, meth, c, Q, nL⟩ := P
  exact fun ls H locs hl hP hD hS => lv_bipush C.1 C.2.1 hdg hv (k ls H locs hl hP hD hS)
theorem nx_sipush (C : Cx P Z cc own) {n : Int} {v : Int32} (hdg : decode cc pc = .ok (.sipush n, 3)) (hv : (Int16.ofInt n).toInt32 = v) (k : VX P R Z A ws lo (pc + 3) (.int v :: rest) cs sl) : VX P R Z A ws lo pc rest cs sl := by
  obtain ⟨p, l, e, s, m, args, below, meth, c, Q, nL⟩ := P
  exact fun ls H locs hl hP hD hS => lv_sipush C.1 C.2.1 hdg hv (k ls H locs hl hP hD hS)
theorem nx_iload_n (C : Cx P Z cc own) {k : Fin 4} {i : Nat} {x : Int32} (hdg : decode cc pc = .ok (.iload_n k, 1)) (hi : (k : Nat) = i) (hl0 : lo[i]? = some (some (.int x))) (kk : VX P R Z A ws lo (pc + 1) (.int x :: rest) cs sl) : VX P R Z A ws lo pc rest cs sl := by
  obtain ⟨p, l, e, s, m, args, below, meth, c, Q, nL⟩ := P
  exact fun ls H locs hl hP hD hS => lv_iload_n C.1 C.2.1 hdg hi (hl.at hl0) (kk ls H locs hl hP hD hS)
theorem nx_iload (C : Cx P Z cc own) {i : Nat} {x : Int32} (hdg : decode cc pc = .ok (.iload i, 2)) (hl0 : lo[i]? = some (some (.int x))) (kk : VX P R Z A ws lo (pc + 2) (.int x :: rest) cs sl) : VX P R Z A ws lo pc rest cs sl := by
  obtain ⟨p, l, e, s, m, args, below, meth, c, Q, nL⟩ := P
  exact fun ls H locs hl hP hD hS => lv_iload C.1 C.2.1 hdg (hl.at hl0) (kk ls H locs hl hP hD hS)
theorem nx_aload_n (C : Cx P Z cc own) {k : Fin 4} {i : Nat} {x : Nat} (hdg : decode cc pc = .ok (.aload_n k, 1)) (hi : (k : Nat) = i) (hl0 : lo[i]? = some (some (.ref x))) (kk : VX P R Z A ws lo (pc + 1) (.ref x :: rest) cs sl) : VX P R Z A ws lo pc rest cs sl := by
  obtain ⟨p, l, e, s, m, args, below, meth, c, Q, nL⟩ := P
  exact fun ls H locs hl hP hD hS => lv_aload_n C.1 C.2.1 hdg hi (hl.at hl0) (kk ls H locs hl hP hD hS)
theorem nx_aload (C : Cx P Z cc own) {i : Nat} {x : Nat} (hdg : decode cc pc = .ok (.aload i, 2)) (hl0 : lo[i]? = some (some (.ref x))) (kk : VX P R Z A ws lo (pc + 2) (.ref x :: rest) cs sl) : VX P R Z A ws lo pc rest cs sl := by
  obtain ⟨p, l, e, s, m, args, below, meth, c, Q, nL⟩ := P
  exact fun ls H locs hl hP hD hS => lv_aload C.1 C.2.1 hdg (hl.at hl0) (kk ls H locs hl hP hD hS)
theorem nx_istore_n (C : Cx P Z cc own) {k : Fin 4} {i : Nat} {x : Int32} {lo' : Lo} (hdg : decode cc pc = .ok (.istore_n k, 1)) (hi : (k : Nat) = i) (hlt : i < lo.length) (hck : ck1 lo i = true) (he : lo.set i (some (.int x)) = lo') (kk : VX P R Z A ws lo' (pc + 1) rest cs sl) : VX P R Z A ws lo pc (.int x :: rest) cs sl := by
  obtain ⟨p, l, e, s, m, args, below, meth, c, Q, nL⟩ := P
  subst he
  exact fun ls H locs hl hP hD hS => lv_istore_n C.1 C.2.1 hdg hi hl.2 (Nat.lt_of_lt_of_le hlt hl.1) rfl (fun ls' h' => kk ls' H locs (Lv.st1 hl.1 hlt hck h') hP hD hS)
theorem nx_istore (C : Cx P Z cc own) {i : Nat} {x : Int32} {lo' : Lo} (hdg : decode cc pc = .ok (.istore i, 2)) (hlt : i < lo.length) (hck : ck1 lo i = true) (he : lo.set i (some (.int x)) = lo') (kk : VX P R Z A ws lo' (pc + 2) rest cs sl) : VX P R Z A ws lo pc (.int x :: rest) cs sl := by
  obtain ⟨p, l, e, s, m, args, below, meth, c, Q, nL⟩ := P
  subst he
  exact fun ls H locs hl hP hD hS => lv_istore C.1 C.2.1 hdg hl.2 (Nat.lt_of_lt_of_le hlt hl.1) rfl (fun ls' h' => kk ls' H locs (Lv.st1 hl.1 hlt hck h') hP hD hS)
theorem nx_astore_n (C : Cx P Z cc own) {k : Fin 4} {i : Nat} {x : Nat} {lo' : Lo} (hdg : decode cc pc = .ok (.astore_n k, 1)) (hi : (k : Nat) = i) (hlt : i < lo.length) (hck : ck1 lo i = true) (he : lo.set i (some (.ref x)) = lo') (kk : VX P R Z A ws lo' (pc + 1) rest cs sl) : VX P R Z A ws lo pc (.ref x :: rest) cs sl := by
  obtain ⟨p, l, e, s, m, args, below, meth, c, Q, nL⟩ := P
  subst he
  exact fun ls H locs hl hP hD hS => lv_astore_n C.1 C.2.1 hdg hi hl.2 (Nat.lt_of_lt_of_le hlt hl.1) rfl (fun ls' h' => kk ls' H locs (Lv.st1 hl.1 hlt hck h') hP hD hS)
theorem nx_astore (C : Cx P Z cc own) {i : Nat} {x : Nat} {lo' : Lo} (hdg : decode cc pc = .ok (.astore i, 2)) (hlt : i < lo.length) (hck : ck1 lo i = true) (he : lo.set i (some (.ref x)) = lo') (kk : VX P R Z A ws lo' (pc + 2) rest cs sl) : VX P R Z A ws lo pc (.ref x :: rest) cs sl := by
  obtain ⟨p, l, e, s, m, args, below, meth, c, Q, nL⟩ := P
  subst he
  exact fun ls H locs hl hP hD hS => lv_astore C.1 C.2.1 hdg hl.2 (Nat.lt_of_lt_of_le hlt hl.1) rfl (fun ls' h' => kk ls' H locs (Lv.st1 hl.1 hlt hck h') hP hD hS)
theorem nx_iinc (C : Cx P Z cc own) {i : Nat} {n : Int} {x v : Int32} {lo' : Lo} (hdg : decode cc pc = .ok (.iinc i n, 3)) (hl0 : lo[i]? = some (some (.int x))) (hv : x + Int32.ofInt n = v) (hck : ck1 lo i = true) (he : lo.set i (some (.int v)) = lo') (kk : VX P R Z A ws lo' (pc + 3) rest cs sl) : VX P R Z A ws lo pc rest cs sl := by
  obtain ⟨p, l, e, s, m, args, below, meth, c, Q, nL⟩ := P
  subst he
  have hlt : i < lo.length := (List.getElem?_eq_some_iff.mp hl0).1
  intro ls H locs hl hP hD hS
  obtain ⟨k, hk⟩ := List.getElem?_of_mem (asc_mem.mpr hl0)
  exact lv_iinc C.1 C.2.1 hdg hl.2 hk hv (Nat.lt_of_lt_of_le hlt hl.1) rfl (fun ls' h' => kk ls' H locs (Lv.st1 hl.1 hlt hck h') hP hD hS)
theorem nx_iadd (C : Cx P Z cc own) {x y : Int32} (hdg : decode cc pc = .ok (.iadd, 1)) (kk : VX P R Z A ws lo (pc + 1) (.int (x + y) :: rest) cs sl) : VX P R Z A ws lo pc (.int y :: .int x :: rest) cs sl := by
  obtain ⟨p, l, e, s, m, args, below, meth, c, Q, nL⟩ := P
  exact fun ls H locs hl hP hD hS => lv_iadd C.1 C.2.1 hdg (kk ls H locs hl hP hD hS)
theorem nx_isub (C : Cx P Z cc own) {x y : Int32} (hdg : decode cc pc = .ok (.isub, 1)) (kk : VX P R Z A ws lo (pc + 1) (.int (x - y) :: rest) cs sl) : VX P R Z A ws lo pc (.int y :: .int x :: rest) cs sl := by
  obtain ⟨p, l, e, s, m, args, below, meth, c, Q, nL⟩ := P
  exact fun ls H locs hl hP hD hS => lv_isub C.1 C.2.1 hdg (kk ls H locs hl hP hD hS)
theorem nx_imul (C : Cx P Z cc own) {x y : Int32} (hdg : decode cc pc = .ok (.imul, 1)) (kk : VX P R Z A ws lo (pc + 1) (.int (x * y) :: rest) cs sl) : VX P R Z A ws lo pc (.int y :: .int x :: rest) cs sl := by
  obtain ⟨p, l, e, s, m, args, below, meth, c, Q, nL⟩ := P
  exact fun ls H locs hl hP hD hS => lv_imul C.1 C.2.1 hdg (kk ls H locs hl hP hD hS)
theorem nx_idiv (C : Cx P Z cc own) {x y : Int32} (hdg : decode cc pc = .ok (.idiv, 1)) (hne : ¬ y = 0) (kk : VX P R Z A ws lo (pc + 1) (.int (x / y) :: rest) cs sl) : VX P R Z A ws lo pc (.int y :: .int x :: rest) cs sl := by
  obtain ⟨p, l, e, s, m, args, below, meth, c, Q, nL⟩ := P
  exact fun ls H locs hl hP hD hS => lv_idiv C.1 C.2.1 hdg hne (kk ls H locs hl hP hD hS)
theorem nx_irem (C : Cx P Z cc own) {x y : Int32} (hdg : decode cc pc = .ok (.irem, 1)) (hne : ¬ y = 0) (kk : VX P R Z A ws lo (pc + 1) (.int (x - x / y * y) :: rest) cs sl) : VX P R Z A ws lo pc (.int y :: .int x :: rest) cs sl := by
  obtain ⟨p, l, e, s, m, args, below, meth, c, Q, nL⟩ := P
  exact fun ls H locs hl hP hD hS => lv_irem C.1 C.2.1 hdg hne (kk ls H locs hl hP hD hS)
theorem nx_goto (C : Cx P Z cc own) {off : Int} {tgt : Nat} {st : List Value} (hdg : decode cc pc = .ok (.goto off, 3)) (ht : (pc : Int) + off = (tgt : Int)) (kk : VX P R Z A ws lo tgt st cs sl) : VX P R Z A ws lo pc st cs sl := by
  obtain ⟨p, l, e, s, m, args, below, meth, c, Q, nL⟩ := P
  exact fun ls H locs hl hP hD hS => lv_goto C.1 C.2.1 hdg ht (kk ls H locs hl hP hD hS)
theorem nx_dup (C : Cx P Z cc own) {v : Value} (hdg : decode cc pc = .ok (.dup, 1)) (hv : v.category = 1) (kk : VX P R Z A ws lo (pc + 1) (v :: v :: rest) cs sl) : VX P R Z A ws lo pc (v :: rest) cs sl := by
  obtain ⟨p, l, e, s, m, args, below, meth, c, Q, nL⟩ := P
  exact fun ls H locs hl hP hD hS => lv_dup C.1 C.2.1 hdg hv (kk ls H locs hl hP hD hS)
theorem nx_pop (C : Cx P Z cc own) {v : Value} (hdg : decode cc pc = .ok (.pop, 1)) (hv : v.category = 1) (kk : VX P R Z A ws lo (pc + 1) rest cs sl) : VX P R Z A ws lo pc (v :: rest) cs sl := by
  obtain ⟨p, l, e, s, m, args, below, meth, c, Q, nL⟩ := P
  exact fun ls H locs hl hP hD hS => lv_pop C.1 C.2.1 hdg hv (kk ls H locs hl hP hD hS)
theorem nx_if_eq (C : Cx P Z cc own) {x : Int32} {off : Int} {tgt : Nat} (hdg : decode cc pc = .ok (.ifCond .eq off, 3)) (ht : (pc : Int) + off = (tgt : Int)) (kt : x = 0 → VX P R Z A ws lo tgt rest cs sl) (kf : ¬ x = 0 → VX P R Z A ws lo (pc + 3) rest cs sl) : VX P R Z A ws lo pc (.int x :: rest) cs sl := by
  obtain ⟨p, l, e, s, m, args, below, meth, c, Q, nL⟩ := P
  exact fun ls H locs hl hP hD hS => lv_if_eq C.1 C.2.1 hdg ht (fun h => kt h ls H locs hl hP hD hS) (fun h => kf h ls H locs hl hP hD hS)
theorem nx_if_ne (C : Cx P Z cc own) {x : Int32} {off : Int} {tgt : Nat} (hdg : decode cc pc = .ok (.ifCond .ne off, 3)) (ht : (pc : Int) + off = (tgt : Int)) (kt : ¬ x = 0 → VX P R Z A ws lo tgt rest cs sl) (kf : x = 0 → VX P R Z A ws lo (pc + 3) rest cs sl) : VX P R Z A ws lo pc (.int x :: rest) cs sl := by
  obtain ⟨p, l, e, s, m, args, below, meth, c, Q, nL⟩ := P
  exact fun ls H locs hl hP hD hS => lv_if_ne C.1 C.2.1 hdg ht (fun h => kt h ls H locs hl hP hD hS) (fun h => kf h ls H locs hl hP hD hS)
theorem nx_if_lt (C : Cx P Z cc own) {x : Int32} {off : Int} {tgt : Nat} (hdg : decode cc pc = .ok (.ifCond .lt off, 3)) (ht : (pc : Int) + off = (tgt : Int)) (kt : x < 0 → VX P R Z A ws lo tgt rest cs sl) (kf : ¬ x < 0 → VX P R Z A ws lo (pc + 3) rest cs sl) : VX P R Z A ws lo pc (.int x :: rest) cs sl := by
  obtain ⟨p, l, e, s, m, args, below, meth, c, Q, nL⟩ := P
  exact fun ls H locs hl hP hD hS => lv_if_lt C.1 C.2.1 hdg ht (fun h => kt h ls H locs hl hP hD hS) (fun h => kf h ls H locs hl hP hD hS)
theorem nx_if_ge (C : Cx P Z cc own) {x : Int32} {off : Int} {tgt : Nat} (hdg : decode cc pc = .ok (.ifCond .ge off, 3)) (ht : (pc : Int) + off = (tgt : Int)) (kt : 0 ≤ x → VX P R Z A ws lo tgt rest cs sl) (kf : ¬ 0 ≤ x → VX P R Z A ws lo (pc + 3) rest cs sl) : VX P R Z A ws lo pc (.int x :: rest) cs sl := by
  obtain ⟨p, l, e, s, m, args, below, meth, c, Q, nL⟩ := P
  exact fun ls H locs hl hP hD hS => lv_if_ge C.1 C.2.1 hdg ht (fun h => kt h ls H locs hl hP hD hS) (fun h => kf h ls H locs hl hP hD hS)
theorem nx_if_gt (C : Cx P Z cc own) {x : Int32} {off : Int} {tgt : Nat} (hdg : decode cc pc = .ok (.ifCond .gt off, 3)) (ht : (pc : Int) + off = (tgt : Int)) (kt : 0 < x → VX P R Z A ws lo tgt rest cs sl) (kf : ¬ 0 < x → VX P R Z A ws lo (pc + 3) rest cs sl) : VX P R Z A ws lo pc (.int x :: rest) cs sl := by
  obtain ⟨p, l, e, s, m, args, below, meth, c, Q, nL⟩ := P
  exact fun ls H locs hl hP hD hS => lv_if_gt C.1 C.2.1 hdg ht (fun h => kt h ls H locs hl hP hD hS) (fun h => kf h ls H locs hl hP hD hS)
theorem nx_if_le (C : Cx P Z cc own) {x : Int32} {off : Int} {tgt : Nat} (hdg : decode cc pc = .ok (.ifCond .le off, 3)) (ht : (pc : Int) + off = (tgt : Int)) (kt : x ≤ 0 → VX P R Z A ws lo tgt rest cs sl) (kf : ¬ x ≤ 0 → VX P R Z A ws lo (pc + 3) rest cs sl) : VX P R Z A ws lo pc (.int x :: rest) cs sl := by
  obtain ⟨p, l, e, s, m, args, below, meth, c, Q, nL⟩ := P
  exact fun ls H locs hl hP hD hS => lv_if_le C.1 C.2.1 hdg ht (fun h => kt h ls H locs hl hP hD hS) (fun h => kf h ls H locs hl hP hD hS)
theorem nx_icmp_eq (C : Cx P Z cc own) {x y : Int32} {off : Int} {tgt : Nat} (hdg : decode cc pc = .ok (.if_icmp .eq off, 3)) (ht : (pc : Int) + off = (tgt : Int)) (kt : x = y → VX P R Z A ws lo tgt rest cs sl) (kf : ¬ x = y → VX P R Z A ws lo (pc + 3) rest cs sl) : VX P R Z A ws lo pc (.int y :: .int x :: rest) cs sl := by
  obtain ⟨p, l, e, s, m, args, below, meth, c, Q, nL⟩ := P
  exact fun ls H locs hl hP hD hS => lv_icmp_eq C.1 C.2.1 hdg ht (fun h => kt h ls H locs hl hP hD hS) (fun h => kf h ls H locs hl hP hD hS)
theorem nx_icmp_ne (C : Cx P Z cc own) {x y : Int32} {off : Int} {tgt : Nat} (hdg : decode cc pc = .ok (.if_icmp .ne off, 3)) (ht : (pc : Int) + off = (tgt : Int)) (kt : ¬ x = y → VX P R Z A ws lo tgt rest cs sl) (kf : x = y → VX P R Z A ws lo (pc + 3) rest cs sl) : VX P R Z A ws lo pc (.int y :: .int x :: rest) cs sl := by
  obtain ⟨p, l, e, s, m, args, below, meth, c, Q, nL⟩ := P
  exact fun ls H locs hl hP hD hS => lv_icmp_ne C.1 C.2.1 hdg ht (fun h => kt h ls H locs hl hP hD hS) (fun h => kf h ls H locs hl hP hD hS)
theorem nx_icmp_lt (C : Cx P Z cc own) {x y : Int32} {off : Int} {tgt : Nat} (hdg : decode cc pc = .ok (.if_icmp .lt off, 3)) (ht : (pc : Int) + off = (tgt : Int)) (kt : x < y → VX P R Z A ws lo tgt rest cs sl) (kf : ¬ x < y → VX P R Z A ws lo (pc + 3) rest cs sl) : VX P R Z A ws lo pc (.int y :: .int x :: rest) cs sl := by
  obtain ⟨p, l, e, s, m, args, below, meth, c, Q, nL⟩ := P
  exact fun ls H locs hl hP hD hS => lv_icmp_lt C.1 C.2.1 hdg ht (fun h => kt h ls H locs hl hP hD hS) (fun h => kf h ls H locs hl hP hD hS)
theorem nx_icmp_ge (C : Cx P Z cc own) {x y : Int32} {off : Int} {tgt : Nat} (hdg : decode cc pc = .ok (.if_icmp .ge off, 3)) (ht : (pc : Int) + off = (tgt : Int)) (kt : y ≤ x → VX P R Z A ws lo tgt rest cs sl) (kf : ¬ y ≤ x → VX P R Z A ws lo (pc + 3) rest cs sl) : VX P R Z A ws lo pc (.int y :: .int x :: rest) cs sl := by
  obtain ⟨p, l, e, s, m, args, below, meth, c, Q, nL⟩ := P
  exact fun ls H locs hl hP hD hS => lv_icmp_ge C.1 C.2.1 hdg ht (fun h => kt h ls H locs hl hP hD hS) (fun h => kf h ls H locs hl hP hD hS)
theorem nx_icmp_gt (C : Cx P Z cc own) {x y : Int32} {off : Int} {tgt : Nat} (hdg : decode cc pc = .ok (.if_icmp .gt off, 3)) (ht : (pc : Int) + off = (tgt : Int)) (kt : y < x → VX P R Z A ws lo tgt rest cs sl) (kf : ¬ y < x → VX P R Z A ws lo (pc + 3) rest cs sl) : VX P R Z A ws lo pc (.int y :: .int x :: rest) cs sl := by
  obtain ⟨p, l, e, s, m, args, below, meth, c, Q, nL⟩ := P
  exact fun ls H locs hl hP hD hS => lv_icmp_gt C.1 C.2.1 hdg ht (fun h => kt h ls H locs hl hP hD hS) (fun h => kf h ls H locs hl hP hD hS)
theorem nx_icmp_le (C : Cx P Z cc own) {x y : Int32} {off : Int} {tgt : Nat} (hdg : decode cc pc = .ok (.if_icmp .le off, 3)) (ht : (pc : Int) + off = (tgt : Int)) (kt : x ≤ y → VX P R Z A ws lo tgt rest cs sl) (kf : ¬ x ≤ y → VX P R Z A ws lo (pc + 3) rest cs sl) : VX P R Z A ws lo pc (.int y :: .int x :: rest) cs sl := by
  obtain ⟨p, l, e, s, m, args, below, meth, c, Q, nL⟩ := P
  exact fun ls H locs hl hP hD hS => lv_icmp_le C.1 C.2.1 hdg ht (fun h => kt h ls H locs hl hP hD hS) (fun h => kf h ls H locs hl hP hD hS)
theorem nx_dup_x1 (C : Cx P Z cc own) {v w : Value} (hdg : decode cc pc = .ok (.dup_x1, 1)) (hv : v.category = 1) (hw0 : w.category = 1) (kk : VX P R Z A ws lo (pc + 1) (v :: w :: v :: rest) cs sl) : VX P R Z A ws lo pc (v :: w :: rest) cs sl := by
  obtain ⟨p, l, e, s, m, args, below, meth, c, Q, nL⟩ := P
  exact fun ls H locs hl hP hD hS => lv_dup_x1 C.1 C.2.1 hdg hv hw0 (kk ls H locs hl hP hD hS)
theorem nx_wide {k n : Nat} {st : List Value} (h1 : cs ≤ k) (h2 : sl ≤ n) (kk : VX P R Z A ws lo pc st k n) : VX P R Z A ws lo pc st cs sl := by
  obtain ⟨p, l, e, s, m, args, below, meth, c, Q, nL⟩ := P
  exact fun ls H locs hl hP hD hS => W.widen h1 h2 (kk ls H locs hl hP hD hS)
theorem nx_topi {x y : Int32} (h : x = y) (k : VX P R Z A ws lo pc (.int y :: rest) cs sl) : VX P R Z A ws lo pc (.int x :: rest) cs sl := by rw [h]; exact k
theorem nx_lo {lo' : Lo} {st : List Value} (h : lo = lo') (k : VX P R Z A ws lo' pc st cs sl) : VX P R Z A ws lo pc st cs sl := by rw [h]; exact k
theorem nx_ws {ws' : va_W} {st : List Value} (h : ws = ws') (k : VX P R Z A ws' lo pc st cs sl) : VX P R Z A ws lo pc st cs sl := by rw [h]; exact k
theorem nx_st {st st' : List Value} (h : st = st') (k : VX P R Z A ws lo pc st' cs sl) : VX P R Z A ws lo pc st cs sl := by rw [h]; exact k
theorem nx_get (C : Cx P Z cc own) {Cn ref : String} {T : u_T} {N ci index : Nat} (hin : ∀ w ∈ u_ws Cn T N, w ∈ wsG) (hc : vwCl[ci]? = some (Cn, T, N)) (j : Nat) (hj : j < N) (hlink : Cond.fieldLink own index ref (T j).2.1 (T j).2.2.1 ∈ wsG) (hsame : ref = (T j).1 ∨ Cond.sameField ref (T j).1 (T j).2.1 (T j).2.2.1 ∈ wsG) (q0 : Nat) {a : Nat} {fs : List Value} (he : ws[q0]? = some (a, .inr (ci, fs))) {v : Value} (hv : fs[j]? = some v) (hdg : decode cc pc = .ok (.getfield index, 3)) (kk : VX P R Z A ws lo (pc + 3) (v :: rest) cs sl) : VX P R Z A ws lo pc (.ref a :: rest) cs sl := by
  obtain ⟨p, l, e, s, m, args, below, meth, c, Q, nL⟩ := P
  exact fun ls H locs hl hP hD hS => va_get (D := Z.D) (ref := ref) C.1 C.2.1 C.2.2.2.2.1 hin C.2.2.2.1 C.2.2.2.2.2.1 hP q0 he hc j hj (C.2.2.2.2.1 _ hlink) (fun x h => by rcases hsame with h1 | h1; (· rw [h1]; exact h); (· exact u_same (C.2.2.2.2.1 _ h1) x h)) hv hdg (kk ls H locs hl hP hD hS)
theorem nx_put (C : Cx P Z cc own) {Cn ref : String} {T : u_T} {N ci index : Nat} (hin : ∀ w ∈ u_ws Cn T N, w ∈ wsG) (hc : vwCl[ci]? = some (Cn, T, N)) (ty0 : Nat → FieldType) (hty : ∀ k, k < N → parseFieldDescriptor (T k).2.2.1 = some (ty0 k)) (hnm : ∀ a, a < N → ∀ b, b < N → a ≠ b → (T a).2.1 ≠ (T b).2.1) (j : Nat) (hj : j < N) (hlink : Cond.fieldLink own index ref (T j).2.1 (T j).2.2.1 ∈ wsG) (hsame : ref = (T j).1 ∨ Cond.sameField ref (T j).1 (T j).2.1 (T j).2.2.1 ∈ wsG) (hfin : (T j).2.2.2 = false) {ty : FieldType} (hd : parseFieldDescriptor (T j).2.2.1 = some ty) {v : Value} (hn : narrow ty v = v) (hfit : fits ty v = true) (q0 : Nat) {a : Nat} {fs : List Value} (he : ws[q0]? = some (a, .inr (ci, fs))) (hl0 : j < fs.length) {ws' : va_W} (hws : ws.set q0 (a, .inr (ci, fs.set j v)) = ws') (hdg : decode cc pc = .ok (.putfield index, 3)) (kk : VX P R Z A ws' lo (pc + 3) rest cs sl) : VX P R Z A ws lo pc (v :: .ref a :: rest) cs sl := by
  obtain ⟨p, l, e, s, m, args, below, meth, c, Q, nL⟩ := P
  subst hws
  exact fun ls H locs hl hP hD hS => va_put (D := Z.D) (ref := ref) C.1 C.2.1 C.2.2.2.2.1 hin ty0 hty hnm C.2.2.2.1 C.2.2.2.2.2.1 hP hD hS q0 he hc j hj (C.2.2.2.2.1 _ hlink) (fun x h => by rcases hsame with h1 | h1; (· rw [h1]; exact h); (· exact u_same (C.2.2.2.2.1 _ h1) x h)) hfin hd hn hfit hl0 hdg (fun H1 locs1 hP1 hD1 hS1 => kk ls H1 locs1 hl hP1 hD1 hS1)
theorem nx_putF (C : Cx P Z cc own) (hI : CxI P) {Cn ref : String} {T : u_T} {N ci index : Nat} (hin : ∀ w ∈ u_ws Cn T N, w ∈ wsG) (hc : vwCl[ci]? = some (Cn, T, N)) (ty0 : Nat → FieldType) (hty : ∀ k, k < N → parseFieldDescriptor (T k).2.2.1 = some (ty0 k)) (hnm : ∀ a, a < N → ∀ b, b < N → a ≠ b → (T a).2.1 ≠ (T b).2.1) (j : Nat) (hj : j < N) (hlink : Cond.fieldLink own index ref (T j).2.1 (T j).2.2.1 ∈ wsG) (hsame : ref = (T j).1) (hfin : (T j).2.2.2 = true) (hdecl : (T j).1 = own) {ty : FieldType} (hd : parseFieldDescriptor (T j).2.2.1 = some ty) {v : Value} (hn : narrow ty v = v) (hfit : fits ty v = true) (q0 : Nat) {a : Nat} {fs : List Value} (he : ws[q0]? = some (a, .inr (ci, fs))) (hl0 : j < fs.length) {ws' : va_W} (hws : ws.set q0 (a, .inr (ci, fs.set j v)) = ws') (hdg : decode cc pc = .ok (.putfield index, 3)) (kk : VX P R Z A ws' lo (pc + 3) rest cs sl) : VX P R Z A ws lo pc (v :: .ref a :: rest) cs sl := by
  obtain ⟨p, l, e, s, m, args, below, meth, c, Q, nL⟩ := P
  subst hws
  exact fun ls H locs hl hP hD hS => va_putF (D := Z.D) (ref := ref) C.1 C.2.1 C.2.2.2.2.1 hin ty0 hty hnm C.2.2.2.1 C.2.2.2.2.2.1 hP hD hS q0 he hc j hj (C.2.2.2.2.1 _ hlink) (fun x h => by rw [hsame]; exact h) hfin hI hdecl hd hn hfit hl0 hdg (fun H1 locs1 hP1 hD1 hS1 => kk ls H1 locs1 hl hP1 hD1 hS1)
theorem nx_iast (C : Cx P Z cc own) (q0 : Nat) {a n b : Nat} {f : Nat → Int32} (he : ws[q0]? = some (a, .inl (Z.Y.1, n, .inl f))) {x : Int32} (hb : b < n ∧ n < 2147483648) {ws' : va_W} (hws : ws.set q0 (a, .inl (Z.Y.1, n, .inl (upd f b x))) = ws') (hdg : decode cc pc = .ok (.iastore, 1)) (kk : VX P R Z A ws' lo (pc + 1) rest cs sl) : VX P R Z A ws lo pc (.int x :: .int (nI b) :: .ref a :: rest) cs sl := by
  obtain ⟨p, l, e, s, m, args, below, meth, c, Q, nL⟩ := P
  subst hws
  exact fun ls H locs hl hP hD hS => va_iast (D := Z.D) C.1 C.2.1 C.2.2.2.2.2.1 hP hD hS q0 0 he rfl (vp_in_nI hb.1 hb.2) hdg (fun H1 locs1 hP1 hD1 hS1 => kk ls H1 locs1 hl (by rw [nI_clamp (by have := hb.1; have := hb.2; omega)] at hP1; exact hP1) (by rw [nI_clamp (by have := hb.1; have := hb.2; omega)] at hD1; exact hD1) hS1)
/-- a new cell stands first -/
theorem nx_P1 {D : va_G} {H : Heap} {x : Nat × va_E} (h : va_P D vwCl (ws ++ [x]) H) : va_P D vwCl (x :: ws) H := by
  refine h.by (fun k => if k = 0 then ws.length else k - 1) (fun k q hk => ?_)
  cases k with
  | zero => cases hk; simp
  | succ k =>
    have : ws[k]? = some q := hk
    show (ws ++ [x])[k]? = some q
    rw [List.getElem?_append_left (List.getElem?_eq_some_iff.mp this).1]
    exact this
theorem nx_D1 {x : Nat × va_E} (h : va_D A (ws ++ [x])) : va_D A (x :: ws) := by
  refine h.by (fun k => if k = 0 then ws.length else k - 1) (fun k q hk => ?_) (fun i j hi hj hij => ?_)
  · cases k with
    | zero => cases hk; simp
    | succ k =>
      have : ws[k]? = some q := hk
      show (ws ++ [x])[k]? = some q
      rw [List.getElem?_append_left (List.getElem?_eq_some_iff.mp this).1]
      exact this
  · rw [List.length_cons] at hi hj
    split at hij <;> split at hij <;> omega
theorem nx_newi (C : Cx P Z cc own) (hA : CxA P Z A) {N : Nat} (h31 : N < 1000) (hdg : decode cc pc = .ok (.newarray .int, 2)) (hcells : cs + 1 ≤ R.cells) (hslots : sl + N ≤ R.slots) (kk : ∀ q : Nat, VX P R Z A ((q, .inl (Z.Y.1, N, .inl (fun _ => 0))) :: ws) lo (pc + 2) (.ref q :: rest) (cs + 1) (sl + N)) : VX P R Z A ws lo pc (.int (nI N) :: rest) cs sl := by
  obtain ⟨p, l, e, s, m, args, below, meth, c, Q, nL⟩ := P
  intro ls H locs hl hP hD hS
  refine va_newaK (atype := .int) C.1 C.2.1 (C.2.2.2.2.1 _ (tg1 88 rfl rfl)) rfl hdg rfl (nI_pos (by omega)) (nI_clamp (by omega)) (by show N * 4 ≤ 536870912; omega) hcells hslots rfl (fun H1 cA e1 z1 o1 hAr hNm => ?_)
  have hcA : cA = Z.Y.1 := by
    have h1 : s.vm.findClass ("[" ++ FieldType.int.toString) = some Z.Y.1 := (C.2.2.2.2.2.1.2 0 _ rfl).2
    exact Option.some.inj (hNm.symm.trans h1)
  subst hcA
  have hk : ∀ (k : Nat) (x : Nat × va_E), ws[k]? = some x → H1[x.1]? = H[x.1]? := fun k x hx => o1 x.1 ((hP k x hx).lt)
  refine kk H.size ls H1 locs hl (nx_P1 ((hP.kept hk).app (fun k x hx => ?_))) (nx_D1 (hD.push hP rfl (hA.1 _ hS.1))) ⟨Nat.le_trans hS.1 (by omega), fun x h1 h2 => (o1 x (Nat.lt_of_lt_of_le h1 hS.1)).trans (hS.2.1 x h1 h2), hS.2.2⟩
  have hz : k < 1 := (List.getElem?_eq_some_iff.mp hx).1
  rw [show k = 0 by omega] at hx
  cases hx
  show H1[H.size]? = some (vp_cell _ _)
  rw [vp_cell_i]
  exact e1
theorem nx_new (C : Cx P Z cc own) (hA : CxA P Z A) {Cn : String} {T : u_T} {N ci index : Nat} (hin : ∀ w ∈ u_ws Cn T N, w ∈ wsG) (ty : Nat → FieldType) (hty : ∀ k, k < N → parseFieldDescriptor (T k).2.2.1 = some (ty k)) (hcl : Cond.classLink own index Cn ∈ wsG) (hinst : Cond.instantiable Cn N ∈ wsG) (hini : Cond.initialized Cn ∈ wsG) (hc : vwCl[ci]? = some (Cn, T, N)) {fs : List Value} (hfs : ∀ j, j < N → defaultValue (ty j) = vp_V fs j) (hcells : cs + 1 ≤ R.cells) (hslots : sl + N ≤ R.slots) (hdg : decode cc pc = .ok (.new index, 3)) (kk : ∀ q : Nat, VX P R Z A ((q, .inr (ci, fs)) :: ws) lo (pc + 3) (.ref q :: rest) (cs + 1) (sl + N)) : VX P R Z A ws lo pc rest cs sl := by
  obtain ⟨p, l, e, s, m, args, below, meth, c, Q, nL⟩ := P
  exact fun ls H locs hl hP hD hS => va_new (D := Z.D) C.1 C.2.1 C.2.2.2.2.1 hin ty hty C.2.2.2.1 (C.2.2.2.2.1 _ hcl) (C.2.2.2.2.1 _ hinst) (C.2.2.2.2.1 _ hini) C.2.2.2.2.2.1 hP hD hS hA.1 hc hfs hcells hslots hdg (fun q H1 hP1 hD1 hS1 => kk q ls H1 locs hl (nx_P1 hP1) (nx_D1 hD1) hS1)
theorem nx_obj (C : Cx P Z cc own) {idx : Nat} (hlink : Cond.methodLink own idx ⟨"java/lang/Object", "<init>", "()V"⟩ ∈ wsG) {a : Nat} (hd : decode cc pc = .ok (.invokespecial idx, 3)) (hframes : 1 ≤ R.frames) (hlocals : (rest.map fun v => v.category).sum + 12 ≤ R.locals) (kk : VX P R Z A ws lo (pc + 3) rest cs sl) : VX P R Z A ws lo pc (.ref a :: rest) cs sl := by
  obtain ⟨p, l, e, s, m, args, below, meth, c, Q, nL⟩ := P
  exact fun ls H locs hl hP hD hS => W.objInit C.1 C.2.1 C.2.2.2.1 (C.2.2.2.2.1 _ hlink) (C.2.2.2.2.1 _ (tg1 35 rfl rfl)) (C.2.2.2.2.1 _ (tg1 36 rfl rfl)) rfl (hl.2.1.trans C.2.2.1.symm) rfl hd hframes (by show 2 * 0 + _ + 12 ≤ _; omega) (kk ls H locs hl hP hD hS)
/-- the empty row of lists, read off its static -/
theorem nx_gets (C : Cx P Z cc own) (hA : CxA P Z A) {idx : Nat} (hlink : Cond.fieldLink own idx ALn DEn DEd ∈ wsG) (hdg : decode cc pc = .ok (.getstatic idx, 3)) (kk : VX P R Z A ws lo (pc + 3) (.ref Z.df :: rest) cs sl) : VX P R Z A ws lo pc rest cs sl := by
  obtain ⟨p, l, e, s, m, args, below, meth, c, Q, nL⟩ := P
  exact fun ls H locs hl hP hD hS => va_gets C.1 C.2.1 (C.2.2.2.2.2.2.2.2.1) (⟨hS.1, fun q h1 h2 => hS.2.1 q h1 (fun z => h2 (hA.2 q z)), fun x hx => hA.2 _ (hS.2.2 x hx)⟩ : va_S (A0 Z.z) s.heap H locs) C.2.2.2.1 (C.2.2.2.2.1 _ hlink) (fun _ h => h) hdg (kk ls H locs hl hP hD hS)
end NXR
theorem WX_fb {Z : Zc} {A : Nat → Prop} {as : List Value} {ws : va_W} : FrameBlind (va_Pc as (fun U => WX Z A ws U)) := fun a U g' mk h => ⟨h.1, WX_blind (U := U) (U' := U.calling g' mk a) rfl (Vm.Alike.refl U.vm) h.2⟩
theorem gi {own : String} {idx : Nat} {y : MethodName} {cc : ByteArray} {maxL : Nat} {ret : Option FieldType} (h5 : Cond.code y cc maxL ret ∈ wsG) : GoodIn wsG (wz y cc maxL ret) := by
  intro w hw
  have : w ∈ wsG := by
    rcases List.mem_cons.mp hw with rfl | hw
    · exact h5
    · exact hw
  exact ⟨this, good_all this⟩
section NXC
variable {P : Pm} {R : Room} {Z : Zc} {A : Nat → Prop} {ws : va_W} {cc : ByteArray} {own : String} {lo : Lo} {pc : Nat} {rest st : List Value} {cs sl : Nat}
/-- a constructor is called -/
theorem nx_callI (C : Cx P Z cc own) (hA : CxA P Z A) {y : MethodName} {cc' : ByteArray} {maxL idx n b : Nat} {rm' : Room} {as : List Value} {post : va_W → Prop} (hM : MX P.2.1 y cc' maxL rm' Z A (.ref b :: as) ws post) (hl1 : Cond.methodLink own idx y ∈ wsG) (hl2 : Cond.instanceMethod y ∈ wsG) (hl3 : Cond.initialized y.cls ∈ wsG) (hl4 : Cond.code y cc' maxL none ∈ wsG) (hyi : y.name = "<init>")
    (hd : y.cls ≠ "java/lang/invoke/MethodHandle" ∧ y.cls ≠ "java/lang/invoke/VarHandle" ∧ (parseMethodDescriptor y.desc).map (fun d => d.parameters.length) = some n) (hR : rm'.frames + 1 ≤ R.frames ∧ 8 + (maxL + 11) + rm'.locals ≤ R.locals) (hn : as.length = n) (hst : st = as.reverse ++ .ref b :: rest) (hr : (rest.map fun v => v.category).sum ≤ 8) (hdg : decode cc pc = .ok (.invokespecial idx, 3)) (hf : cs + rm'.cells ≤ R.cells ∧ sl + rm'.slots ≤ R.slots)
    (kk : ∀ ws', post ws' → VX P R Z A ws' lo (pc + 3) rest (cs + rm'.cells) (sl + rm'.slots)) : VX P R Z A ws lo pc st cs sl := by
  obtain ⟨p, l, e, s, m, args, below, meth, c, Q, nL⟩ := P
  subst hst
  intro ls H locs hl hP hD hS
  refine va_callv (va_runI (As := as) (rest := rest) ⟨C.1, C.2.1, C.2.2.1, C.2.2.2.1, C.2.2.2.2.1⟩ hM (cwI n C.2.2.2.2.1 (gi (own := own) (idx := idx) hl4) rfl rfl rfl (C.2.2.2.2.1 _ hl3) (C.2.2.2.2.1 _ hl1) (C.2.2.2.2.1 _ hl2) hyi hd hR) ⟨WX_fb, fun U hU hW => ⟨rfl, WX_of hA.1 hA.2 hP hD C.2.2.2.2.2.1 C.2.2.2.2.2.2.1 C.2.2.2.2.2.2.2.2 hS hU hW.alike⟩⟩ rfl hn hl.2.1 rfl (lv_room hr) hdg hf) hS (fun _ _ h => h) (fun _ h => h) (fun u t H1 locs1 ht hvm hp hB hz1 hk1 hS1 => ?_)
  exact kk u hp ls H1 locs1 hl (by rw [← ht]; exact hB.2.2.1) hB.2.2.2.1 hS1
end NXC
