/-! THE CLASS MAKES: the world with cells beside it; calls that make -/
/-- addresses that are free of the world -/
def AX (Z : Zc) (g : MG) : Nat → Prop := fun q => Z.z ≤ q ∧ ∀ k, cx Z.Y Z.ad Z.df g k ≠ none → Z.ad k ≠ q
def XsH (Z : Zc) (g : MG) (xs : va_W) (H : Heap) : Prop := va_P Z.D vwCl xs H ∧ va_D (AX Z g) xs
def VU (P : Pm) (R : Room) (Z : Zc) (xs : va_W) (lo : Lo) (pc : Nat) (st : List Value) (g : MG) (cs sl : Nat) : Prop := match P with
  | (p, l, e, s, m, args, below, meth, c, Q, nL) => ∀ (ls : Array Slot) (H : Heap) (locs : List Loc), Lv ls nL lo → HwZ Z g H → XsH Z g xs H → va_S (A0 Z.z) s.heap H locs → W p l e R s m args below meth c H locs cs sl Q (F0 m pc ls st)
theorem AX_new {Z : Zc} {g : MG} {H : Heap} {q : Nat} (hw : HwZ Z g H) (hz : Z.z ≤ H.size) (hq : H.size ≤ q) : AX Z g q := by
  refine ⟨Nat.le_trans hz hq, fun k hk hkq => ?_⟩
  obtain ⟨e, he⟩ := Option.ne_none_iff_exists'.mp hk
  have := (hw.1 k e he).1.lt
  have h2 : Z.ad k < H.size := this
  omega
theorem Hw_keptA {Z : Zc} {g : MG} {H H1 : Heap} (hw : HwZ Z g H) (h : ∀ q : Nat, q < H.size → ¬ AX Z g q → H1[q]? = H[q]?) : HwZ Z g H1 := by
  refine ⟨fun k e hk => ⟨(hw.1 k e hk).1.kept (h _ (hw.1 k e hk).1.lt (fun z => z.2 k (by rw [hk]; simp) rfl)), (hw.1 k e hk).2⟩, hw.2⟩
section UR
variable {P : Pm} {R : Room} {Z : Zc} {xs : va_W} {cc : ByteArray} {own : String} {lo : Lo} {pc : Nat} {rest st : List Value} {g : MG} {cs sl : Nat}
theorem u_iload_n (C : Cx P Z cc own) {k : Fin 4} {i : Nat} {x : Int32} (hdg : decode cc pc = .ok (.iload_n k, 1)) (hi : (k : Nat) = i) (hl0 : lo[i]? = some (some (.int x))) (kk : VU P R Z xs lo (pc + 1) (.int x :: rest) g cs sl) : VU P R Z xs lo pc rest g cs sl := by
  obtain ⟨p, l, e, s, m, args, below, meth, c, Q, nL⟩ := P
  exact fun ls H locs hl hw hX hS => lv_iload_n C.1 C.2.1 hdg hi (hl.at hl0) (kk ls H locs hl hw hX hS)
theorem u_iload (C : Cx P Z cc own) {i : Nat} {x : Int32} (hdg : decode cc pc = .ok (.iload i, 2)) (hl0 : lo[i]? = some (some (.int x))) (kk : VU P R Z xs lo (pc + 2) (.int x :: rest) g cs sl) : VU P R Z xs lo pc rest g cs sl := by
  obtain ⟨p, l, e, s, m, args, below, meth, c, Q, nL⟩ := P
  exact fun ls H locs hl hw hX hS => lv_iload C.1 C.2.1 hdg (hl.at hl0) (kk ls H locs hl hw hX hS)
theorem u_aload_n (C : Cx P Z cc own) {k : Fin 4} {i : Nat} {x : Nat} (hdg : decode cc pc = .ok (.aload_n k, 1)) (hi : (k : Nat) = i) (hl0 : lo[i]? = some (some (.ref x))) (kk : VU P R Z xs lo (pc + 1) (.ref x :: rest) g cs sl) : VU P R Z xs lo pc rest g cs sl := by
  obtain ⟨p, l, e, s, m, args, below, meth, c, Q, nL⟩ := P
  exact fun ls H locs hl hw hX hS => lv_aload_n C.1 C.2.1 hdg hi (hl.at hl0) (kk ls H locs hl hw hX hS)
theorem u_aload (C : Cx P Z cc own) {i : Nat} {x : Nat} (hdg : decode cc pc = .ok (.aload i, 2)) (hl0 : lo[i]? = some (some (.ref x))) (kk : VU P R Z xs lo (pc + 2) (.ref x :: rest) g cs sl) : VU P R Z xs lo pc rest g cs sl := by
  obtain ⟨p, l, e, s, m, args, below, meth, c, Q, nL⟩ := P
  exact fun ls H locs hl hw hX hS => lv_aload C.1 C.2.1 hdg (hl.at hl0) (kk ls H locs hl hw hX hS)
theorem u_dup (C : Cx P Z cc own) {v : Value} (hdg : decode cc pc = .ok (.dup, 1)) (hv : v.category = 1) (kk : VU P R Z xs lo (pc + 1) (v :: v :: rest) g cs sl) : VU P R Z xs lo pc (v :: rest) g cs sl := by
  obtain ⟨p, l, e, s, m, args, below, meth, c, Q, nL⟩ := P
  exact fun ls H locs hl hw hX hS => lv_dup C.1 C.2.1 hdg hv (kk ls H locs hl hw hX hS)
theorem u_new (C : Cx P Z cc own) {Cn : String} {T : u_T} {N ci index : Nat} (hin : ∀ w ∈ u_ws Cn T N, w ∈ wsG) (ty : Nat → FieldType) (hty : ∀ k, k < N → parseFieldDescriptor (T k).2.2.1 = some (ty k)) (hcl : Cond.classLink own index Cn ∈ wsG) (hinst : Cond.instantiable Cn N ∈ wsG) (hini : Cond.initialized Cn ∈ wsG) (hc : vwCl[ci]? = some (Cn, T, N)) {fs : List Value} (hfs : ∀ j, j < N → defaultValue (ty j) = vp_V fs j) (hcells : cs + 1 ≤ R.cells) (hslots : sl + N ≤ R.slots) (hdg : decode cc pc = .ok (.new index, 3)) (kk : ∀ q : Nat, VU P R Z [(q, .inr (ci, fs))] lo (pc + 3) (.ref q :: rest) g (cs + 1) (sl + N)) : V P R Z lo pc rest g cs sl := by
  obtain ⟨p, l, e, s, m, args, below, meth, c, Q, nL⟩ := P
  intro ls H locs hl hw hS
  have hKn := C.2.2.2.2.2.1.1 ci _ hc
  refine W.newcK C.1 C.2.1 C.2.2.2.1 (C.2.2.2.2.1 _ hcl) (C.2.2.2.2.1 _ hinst) (C.2.2.2.2.1 _ hini) rfl hdg hcells hslots hKn.2.1 rfl fun H1 kC hkC e1 z1 o1 => ?_
  have hz : Z.z ≤ H.size := Nat.le_trans C.2.2.2.2.2.2.1 hS.1
  refine kk H.size ls H1 locs hl (Hw_kept hw o1) ⟨fun k x hx => ?_, fun i j x y hx hy _ => ?_, fun k x hx => ?_⟩ ⟨Nat.le_trans hS.1 (by omega), fun x h1 h2 => (o1 x (Nat.lt_of_lt_of_le h1 hS.1)).trans (hS.2.1 x h1 h2), hS.2.2⟩
  · have hz : k < 1 := (List.getElem?_eq_some_iff.mp hx).1
    rw [show k = 0 by omega] at hx
    cases hx
    exact ⟨_, hc, (u_born ty C.2.2.2.2.1 hin hKn hkC e1 hty).to hfs⟩
  · have h1 : i < 1 := (List.getElem?_eq_some_iff.mp hx).1
    have h2 : j < 1 := (List.getElem?_eq_some_iff.mp hy).1
    omega
  · have h1 : k < 1 := (List.getElem?_eq_some_iff.mp hx).1
    rw [show k = 0 by omega] at hx
    cases hx
    exact AX_new hw hz (Nat.le_refl _)
theorem u_callI (C : Cx P Z cc own) {y : MethodName} {cc' : ByteArray} {maxL idx n b : Nat} {rm' : Room} {as : List Value} {post : va_W → Prop} (hM : MX P.2.1 y cc' maxL rm' Z (AX Z g) (.ref b :: as) xs post) (hl1 : Cond.methodLink own idx y ∈ wsG) (hl2 : Cond.instanceMethod y ∈ wsG) (hl3 : Cond.initialized y.cls ∈ wsG) (hl4 : Cond.code y cc' maxL none ∈ wsG) (hyi : y.name = "<init>")
    (hd : y.cls ≠ "java/lang/invoke/MethodHandle" ∧ y.cls ≠ "java/lang/invoke/VarHandle" ∧ (parseMethodDescriptor y.desc).map (fun d => d.parameters.length) = some n) (hR : rm'.frames + 1 ≤ R.frames ∧ 8 + (maxL + 11) + rm'.locals ≤ R.locals) (hn : as.length = n) (hst : st = as.reverse ++ .ref b :: rest) (hr : (rest.map fun v => v.category).sum ≤ 8) (hdg : decode cc pc = .ok (.invokespecial idx, 3)) (hf : cs + rm'.cells ≤ R.cells ∧ sl + rm'.slots ≤ R.slots)
    (kk : ∀ xs', post xs' → VU P R Z xs' lo (pc + 3) rest g (cs + rm'.cells) (sl + rm'.slots)) : VU P R Z xs lo pc st g cs sl := by
  obtain ⟨p, l, e, s, m, args, below, meth, c, Q, nL⟩ := P
  subst hst
  intro ls H locs hl hw hX hS
  have hz : Z.z ≤ H.size := Nat.le_trans C.2.2.2.2.2.2.1 hS.1
  refine va_callv (va_runI (As := as) (rest := rest) ⟨C.1, C.2.1, C.2.2.1, C.2.2.2.1, C.2.2.2.2.1⟩ hM (cwI n C.2.2.2.2.1 (gi (own := own) (idx := idx) hl4) rfl rfl rfl (C.2.2.2.2.1 _ hl3) (C.2.2.2.2.1 _ hl1) (C.2.2.2.2.1 _ hl2) hyi hd hR) ⟨WX_fb, fun U hU hW => ⟨rfl, fun q hq => AX_new hw hz (by rw [hU] at hq; exact hq), fun q hq => hq.1, by rw [hU]; exact hX.1, hX.2, va_K.moved hW.alike C.2.2.2.2.2.1, by rw [hU]; exact hz, by rw [hU]; exact (C.2.2.2.2.2.2.2.2.kept hS.2.1).moved hW.alike⟩⟩ rfl hn hl.2.1 rfl (lv_room hr) hdg hf) hS (fun q _ h => h.1) (fun q h => h.1) (fun u t H1 locs1 ht hvm hp hB hz1 hk1 hS1 => ?_)
  exact kk u hp ls H1 locs1 hl (Hw_keptA hw hk1) ⟨by rw [← ht]; exact hB.2.2.1, hB.2.2.2.1⟩ hS1
/-- a list's add: the cells of it and of what it takes, then the world anew -/
theorem u_add (C : Cx P Z cc own) (hM9 : CxM P) {idx : Nat} (hl1 : Cond.methodLink own idx yJx4a65c_add_9ea2d ∈ wsG) {A : Nat → Prop} {ws : va_W} {post : Int32 → va_W → Prop} {k x : Nat} {rm' : Room} (hM : MYi P.2.1 yJx4a65c_add_9ea2d cJx4a65c_add_9ea2d 2 rm' Z A [.ref (Z.ad k), .ref x] ws post) {fs : List Value} (hk0 : cx Z.Y Z.ad Z.df g k = some (.inr (0, fs)))
    (hA0 : ∀ q, AX Z g q → A q) (hA1 : ∀ H, HwZ Z g H → ∀ q, A q → A0 Z.z q) (hws : ∀ H, HwZ Z g H → XsH Z g xs H → va_P Z.D vwCl ws H ∧ va_D A ws) (hR : rm'.frames + 1 ≤ R.frames ∧ 8 + (2 + 11) + rm'.locals ≤ R.locals) (hr : (rest.map fun v => v.category).sum ≤ 8) (hdg : decode cc pc = .ok (.invokevirtual idx, 3)) (hf : cs + rm'.cells ≤ R.cells ∧ sl + rm'.slots ≤ R.slots)
    {g' : MG} {Φ : (Nat → Nat) → Prop} (hnew : ∀ r w H H1, post r w → HwZ Z g H → va_P Z.D vwCl w H1 → va_D A w → (∀ q, A q → Z.z ≤ q) → (∀ q : Nat, q < H.size → ¬ A q → H1[q]? = H[q]?) → ∃ ad', Φ ad' ∧ HwZ (Z.wa ad') g' H1)
    (kk : ∀ r ad', Φ ad' → V P R (Z.wa ad') lo (pc + 3) (.int r :: rest) g' (cs + rm'.cells) (sl + rm'.slots)) : VU P R Z xs lo pc (.ref x :: .ref (Z.ad k) :: rest) g cs sl := by
  obtain ⟨p, l, e, s, m, args, below, meth, c, Q, nL⟩ := P
  intro ls H locs hl hw hX hS
  have hz : Z.z ≤ H.size := Nat.le_trans C.2.2.2.2.2.2.1 hS.1
  obtain ⟨hP, hD⟩ := hws H hw hX
  have hPk : va_P Z.D vwCl [(Z.ad k, .inr (0, fs))] H := by
    intro i q hq
    rcases List.mem_singleton.mp (List.mem_of_getElem? hq) with rfl
    exact (hw.1 k _ hk0).1
  refine va_calli (va_runV (C := RJx4a65c) (As := [.ref x]) (rest := rest) ⟨C.1, C.2.1, C.2.2.1, C.2.2.2.1, C.2.2.2.2.1⟩ hM (cwV 1 C.2.2.2.2.1 (gv hl1 (tg3 110 rfl rfl) (tg3 111 rfl rfl) (tg1 4 rfl rfl) (tg3 112 rfl rfl)) rfl rfl rfl (by decide +kernel) hR) ⟨WY_fb, va_recv (ci := 0) C.2.2.2.2.2.1 hPk rfl (q0 := 0) rfl, fun U hU hW => ⟨rfl, ⟨fun q hq => hA0 q (AX_new hw hz (by rw [hU] at hq; exact hq)), hA1 H hw, by rw [hU]; exact hP, hD, va_K.moved hW.alike C.2.2.2.2.2.1, by rw [hU]; exact hz, by rw [hU]; exact (C.2.2.2.2.2.2.2.2.kept hS.2.1).moved hW.alike⟩, hM9.warm hW⟩⟩ rfl rfl hl.2.1 rfl (lv_room hr) hdg hf) hS (fun q _ h => hA1 H hw q h) (fun q h => hA1 H hw q h) (fun r u t H1 locs1 ht hvm hp hB hz1 hk1 hS1 => ?_)
  obtain ⟨ad', hΦ, hw'⟩ := hnew r u H H1 hp hw (by rw [← ht]; exact hB.2.2.1) hB.2.2.2.1 (hA1 H hw) hk1
  exact kk r ad' hΦ ls H1 locs1 hl hw' hS1
end UR
/-- a call that may throw, or makes: the addresses behind it -/
def XM (l : Launch) (y : MethodName) (cc : ByteArray) (maxL : Nat) (ret : Option FieldType) (rm : Room) (Z : Zc) (as : List Value) (g : MG) (post : Int32 → (Nat → Nat) × MG → Prop) (postX : String → MG → Prop) : Prop := vx_Met l y (wz y cc maxL ret) rm (va_Pc as (fun U => Wx Z g U ∧ StrM U)) (va_Qi post (fun u t => Wd (Z.wa u.1) u.2 t) (A0 Z.z)) (xcC Z postX) rm.cells rm.slots (A0 Z.z)
theorem Cx.wa {P : Pm} {Z : Zc} {cc : ByteArray} {own : String} (h : Cx P Z cc own) (ad' : Nat → Nat) : Cx P (Z.wa ad') cc own := h
theorem ent_xm {l : Launch} {y : MethodName} {cc : ByteArray} {maxL : Nat} {rm : Room} {Z : Zc} {as : List Value} {g : MG} {post : Int32 → (Nat → Nat) × MG → Prop} {postX : String → MG → Prop} {lo : Lo} (hl9 : l.stackTraces = false) (hy : plainName y.cls = true) (ho : y.cls = "PosterTypes") (hlen : (lg_sl as).length ≤ maxL) (hlo : loA (lv_args 0 as) maxL = lo) (hR : 6 ≤ rm.frames ∧ 100 ≤ rm.locals ∧ 1 ≤ rm.cells ∧ 6 ≤ rm.slots)
    (body : ∀ P : Pm, P.2.1 = l → Cx P Z cc "PosterTypes" → CxM P → (∀ (ad' : Nat → Nat) (pc : Nat) (lo' : Lo) (v : Int32) (g' : MG), decode cc pc = .ok (.ireturn, 1) → post v (ad', g') → V P rm (Z.wa ad') lo' pc [.int v] g' rm.cells rm.slots) →
      (∀ (pc : Nat) (lo' : Lo) (g' : MG) (cs sl : Nat) (k : Fin 3) (is : Nat) (tx : String), (is, tx) ∈ strL → cs + 1 ≤ rm.cells ∧ sl + 6 ≤ rm.slots → decode cc pc = .ok (.new (exK k), 3) → decode cc (pc + 3) = .ok (.dup, 1) → decode cc (pc + 4) = .ok (.ldc is, 2) → decode cc (pc + 6) = .ok (.invokespecial (exI k), 3) → decode cc (pc + 9) = .ok (.athrow, 1) → postX (exC k) g' → V P rm Z lo' pc [] g' cs sl) →
      V P rm Z lo 0 [] g 0 0) : XM l y cc maxL (some .int) rm Z as g post postX := by
  refine vx_ofW (cc := cc) (maxL := maxL) (ret := some .int) hy rfl ?_
  intro p e s m args below meth c s₁ B hml ht hv
  obtain ⟨rfl, ⟨⟨hw, hK, hz, hst⟩, hX⟩, hM⟩ := hv
  have hts : ∀ w ∈ wsG, w.before as.toArray s = true := fun w h => atoms_spec (ws := wz y cc maxL (some .int)) B.pre w (List.mem_cons_of_mem _ h)
  have hown : s.vm.findClass "PosterTypes" = some m.cls := ho ▸ findClass_of_methodNamed B.named
  have hl := lv_entry as hlen
  have hC : Cx (p, l, e, s, m, as.toArray, below, meth, c, vx_MQ below (va_Qi post (fun u t => Wd (Z.wa u.1) u.2 t) (A0 Z.z)) (xcC Z postX) as.toArray s rm.cells rm.slots (A0 Z.z), maxL) Z cc "PosterTypes" := ⟨B.exec, B.bytes, hml, hown, hts, hK, hz, B.notSynchronized, hst⟩
  rw [lg_entry_eq]
  generalize (lg_sl as ++ List.replicate (maxL - (lg_sl as).length) Slot.unset).toArray = ls at hl ⊢
  refine body (p, l, e, s, m, as.toArray, below, meth, c, vx_MQ below (va_Qi post (fun u t => Wd (Z.wa u.1) u.2 t) (A0 Z.z)) (xcC Z postX) as.toArray s rm.cells rm.slots (A0 Z.z), maxL) rfl hC hM ?_ ?_ ls s.heap [] (hlo ▸ Lv_of hl) hw va_S.rf
  · intro ad' pc lo' v g' hdg hp ls H locs hl hw' hS
    exact vx_ret (W.iret B.exec B.bytes B.returns (fun t ht hW => ⟨⟨v, (ad', g'), rfl, hp, Wd_of (Z := Z.wa ad') hw' hK hz hst hS ht hW.alike⟩, hS.F ht⟩) hS.2.2 hdg)
  · intro pc lo' g' cs sl k is tx hs hcs d0 d3 d4 d6 d9 hp
    exact v_throw hC hl9 hX ht hR hcs (Nat.zero_le _) k hs d0 d3 d4 d6 d9 hp
