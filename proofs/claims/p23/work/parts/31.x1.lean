/-! THE CLASS: what it throws -/
def strL : List (Nat × String) := [(37, "a height is 1 to 20"), (48, "there are 5 founts"), (69, "no such fount or letter"), (72, "1 to 9 blocks are bought"), (81, "a fount has at most 9 blocks of a letter"), (86, "no such fount"), (94, "no such letter"), (96, "a letter is not its own other one"), (101, "no such town"), (103, "a town pays 0 to 9 and is strict 0 to 30"), (105, "a poster wants a height of 1 to 20"), (107, "there are 6 posters"), (115, "no such poster"), (118, "a word is 0 to 99999999"), (127, "the poster is set or has 4 lines"), (138, "the poster is set, has no line, or cannot be set"), (143, "1 to 500 copies are printed"), (145, "the poster is not set"), (175, "what is 0 to 2"), (189, "what is 0 to 7"), (191, "no such line"), (204, "what is 0 to 3"), (215, "what is 0 to 6"), (217, "no such poster, or what is not 0 or 1")]
def exC (k : Fin 3) : String := match k with
  | 0 => "java/lang/IndexOutOfBoundsException"
  | 1 => "java/lang/IllegalArgumentException"
  | 2 => "java/lang/IllegalStateException"
def exK (k : Fin 3) : Nat := match k with
  | 0 => 67
  | 1 => 35
  | 2 => 46
def exI (k : Fin 3) : Nat := match k with
  | 0 => 71
  | 1 => 39
  | 2 => 50
def exN : List String := ["java/lang/RuntimeException", "java/lang/Exception"]
def exW (k : Fin 3) : List Cond := vx_atS "PosterTypes" (exI k) (exC k) exN
/-- the words of a throw that a later state keeps only by rows of their own -/
def wsN : List Cond := [.declares ⟨"java/lang/RuntimeException", "<init>", "(Ljava/lang/String;)V"⟩, .declares ⟨"java/lang/Exception", "<init>", "(Ljava/lang/String;)V"⟩, .declares ⟨"java/lang/Throwable", "<init>", "(Ljava/lang/String;)V"⟩, .castable (exC 0) (exC 0), .castable (exC 1) (exC 1), .castable (exC 2) (exC 2)]
theorem exW_n (k : Fin 3) : ∀ w ∈ (exW k).filter (fun w => !goodWord w), w ∈ wsN := by
  intro w hw
  have h : ∀ k : Fin 3, ((exW k).filter (fun w => !goodWord w)).all (fun w => wsN.any (fun v => decide (v = w))) = true := by decide +kernel
  obtain ⟨v, hv, e⟩ := List.any_eq_true.mp (List.all_eq_true.mp (h k) w hw)
  rw [← of_decide_eq_true e]
  exact hv
theorem exW_ot (k : Fin 3) : ∀ w ∈ Cond.classLink "PosterTypes" (exK k) (exC k) :: Cond.initialized (exC k) :: exW k, vx_ot w = true := by
  have h : ∀ k : Fin 3, (Cond.classLink "PosterTypes" (exK k) (exC k) :: Cond.initialized (exC k) :: exW k).all vx_ot = true := by decide +kernel
  exact List.all_eq_true.mp (h k)
theorem exW_p0 : exW 0 = ([27, 143, 152, 156, 159, 161, 144, 145, 55, 56, 146, 151, 157, 177, 133, 178, 135, 179, 137, 147, 149, 139, 173, 174, 176, 139, 164, 165, 166, 167, 125, 167, 168, 169, 170, 127, 170, 171, 172, 173, 129, 163, 122, 123, 130, 131, 132, 134, 136, 138, 142, 141, 140] : List Nat).filterMap (fun i => lw_tbl[i]?) := by decide +kernel
theorem exW_p1 : exW 1 = ([27, 143, 152, 156, 159, 161, 144, 145, 55, 56, 146, 151, 157, 177, 133, 178, 135, 179, 137, 147, 149, 139, 173, 174, 176, 139, 546, 547, 548, 167, 125, 167, 168, 169, 170, 127, 170, 171, 172, 173, 129, 545, 536, 537, 538, 154, 539, 540, 541, 542, 142, 141, 543] : List Nat).filterMap (fun i => lw_tbl[i]?) := by decide +kernel
theorem exW_p2 : exW 2 = ([27, 143, 152, 156, 159, 161, 144, 145, 55, 56, 146, 151, 157, 177, 133, 178, 135, 179, 137, 147, 149, 139, 173, 174, 176, 139, 269, 270, 271, 167, 125, 167, 168, 169, 170, 127, 170, 171, 172, 173, 129, 268, 259, 260, 261, 155, 262, 263, 264, 265, 142, 141, 266] : List Nat).filterMap (fun i => lw_tbl[i]?) := by decide +kernel
theorem exW_m {ws : List Cond} {ps : List Nat} (h : ws = ps.filterMap (fun i => lw_tbl[i]?)) : ∀ w ∈ ws.filter goodWord, w ∈ wsG := by
  intro w hw
  obtain ⟨h1, h2⟩ := List.mem_filter.mp hw
  rw [h] at h1
  obtain ⟨i, -, h3⟩ := List.mem_filterMap.mp h1
  exact List.mem_filter.mpr ⟨List.mem_of_getElem? h3, h2⟩
theorem exW_g (k : Fin 3) : ∀ w ∈ (exW k).filter goodWord, w ∈ wsG := match k with
  | 0 => exW_m exW_p0
  | 1 => exW_m exW_p1
  | 2 => exW_m exW_p2
theorem dec_warm {y : MethodName} {args a' : Array Value} {s U : State} (hW : s.WarmedH U.vm) (h : (Cond.declares y).before args s = true) : (Cond.declares y).before a' U = true :=
  va_tabs (c := Cond.declares y) rfl (u := s.setVm U.vm) (A := args) rfl (by rw [Cond.declares_setVm hW.alike]; exact h)
theorem cst_warm {a b : String} {args a' : Array Value} {s U : State} (hW : s.WarmedH U.vm) (h : (Cond.castable a b).before args s = true) : (Cond.castable a b).before a' U = true :=
  va_tabs (c := Cond.castable a b) rfl (u := s.setVm U.vm) (A := args) rfl (by rw [Cond.castable_setVm hW.alike]; exact h)
/-- what a state has that can throw: those words, the texts -/
def StrX (U : State) : Prop := (∀ w ∈ wsN, w.before #[] U = true) ∧ ∀ q ∈ strL, ∃ sa, vk_R "PosterTypes" q.1 q.2 sa U
theorem StrX.warm {s U : State} (hW : s.WarmedH U.vm) (h : StrX s) : StrX U := by
  refine ⟨fun w hw => ?_, fun q hq => ?_⟩
  · have h1 := h.1 w hw
    simp only [wsN, List.mem_cons, List.not_mem_nil, or_false] at hw
    rcases hw with rfl | rfl | rfl | rfl | rfl | rfl
    · exact dec_warm hW h1
    · exact dec_warm hW h1
    · exact dec_warm hW h1
    · exact cst_warm hW h1
    · exact cst_warm hW h1
    · exact cst_warm hW h1
  · obtain ⟨sa, h1⟩ := h.2 q hq
    exact ⟨sa, vk_R.warm hW h1⟩
theorem wsN_ot : ∀ w ∈ wsN, w.onTables = true := by
  have h : wsN.all Cond.onTables = true := by decide +kernel
  exact List.all_eq_true.mp h
/-- the world of a call that may throw -/
def Wx (Z : Zc) (g : MG) (U : State) : Prop := Wd Z g U ∧ StrX U
/-- the end of a throw -/
def xcC (Z : Zc) (postX : String → MG → Prop) : String → State → State → Prop := vx_X (S := String × MG) (fun u => postX u.1 u.2) (fun E u t => E = u.1 ∧ Wd Z u.2 t) (A0 Z.z)
def XI (l : Launch) (y : MethodName) (cc : ByteArray) (maxL : Nat) (ret : Option FieldType) (rm : Room) (Z : Zc) (as : List Value) (g : MG) (post : Int32 → MG → Prop) (postX : String → MG → Prop) : Prop := vx_Met l y (wz y cc maxL ret) rm (va_Pc as (fun U => Wx Z g U)) (va_Qi post (fun g' t => Wd Z g' t) (A0 Z.z)) (xcC Z postX) rm.cells rm.slots (A0 Z.z)
theorem exC_l (k : Fin 3) : Cond.classLink "PosterTypes" (exK k) (exC k) ∈ wsG := match k with
  | 0 => tg1 101 rfl rfl
  | 1 => tg3 35 rfl rfl
  | 2 => tg1 238 rfl rfl
theorem exC_i (k : Fin 3) : Cond.initialized (exC k) ∈ wsG := match k with
  | 0 => tg1 16 rfl rfl
  | 1 => tg1 10 rfl rfl
  | 2 => tg1 11 rfl rfl
/-- a throw of a call that may throw -/
theorem v_throw {l : Launch} {p : Program} {e : Env} {s : State} {m : MethodId} {args : Array Value} {below : List Frame} {meth : Method} {c : Code} {nL : Nat} {Z : Zc} {cc : ByteArray} {rm : Room} {Qc : Array Value → State → Outcome → State → Prop} {postX : String → MG → Prop}
    (C : Cx (p, l, e, s, m, args, below, meth, c, vx_MQ below Qc (xcC Z postX) args s rm.cells rm.slots (A0 Z.z), nL) Z cc "PosterTypes") (hl9 : l.stackTraces = false) (hX : StrX s) (ht : ∀ x ∈ c.exceptionTable.toList, False)
    (hR : 6 ≤ rm.frames ∧ 100 ≤ rm.locals ∧ 1 ≤ rm.cells ∧ 6 ≤ rm.slots) {lo : Lo} {pc : Nat} {rest : List Value} {g : MG} {cs sl : Nat} (hcs : cs + 1 ≤ rm.cells ∧ sl + 6 ≤ rm.slots) (hrest : (rest.map fun v => v.category).sum ≤ 8) (k : Fin 3) {is : Nat} {tx : String} (hs : (is, tx) ∈ strL)
    (d0 : decode cc pc = .ok (.new (exK k), 3)) (d3 : decode cc (pc + 3) = .ok (.dup, 1)) (d4 : decode cc (pc + 4) = .ok (.ldc is, 2)) (d6 : decode cc (pc + 6) = .ok (.invokespecial (exI k), 3)) (d9 : decode cc (pc + 9) = .ok (.athrow, 1)) (hp : postX (exC k) g) :
    V (p, l, e, s, m, args, below, meth, c, vx_MQ below Qc (xcC Z postX) args s rm.cells rm.slots (A0 Z.z), nL) rm Z lo pc rest g cs sl := by
  intro ls H locs hl hw hS
  obtain ⟨sa, hstr⟩ := hX.2 _ hs
  have hat : ∀ w ∈ exW k, w.before args s = true := vx_hat (B := wsN) (fun w h => C.2.2.2.2.1 w (exW_g k w h)) (exW_n k) (fun w h => va_tabs (wsN_ot w h) rfl (hX.1 w h))
  have hfit : ∀ k : Fin 3, Bundle.fit (exC k) = true := by decide +kernel
  have hfitN : ∀ n ∈ exN, Bundle.fit n = true := by
    have h : exN.all Bundle.fit = true := by decide +kernel
    exact List.all_eq_true.mp h
  refine vx_throwS C.1 C.2.1 hl9 (own := "PosterTypes") (cls := exC k) (text := tx) (names := exN) (A := A0 Z.z) (sa := sa) C.2.2.2.1 (hfit k) hfitN (C.2.2.2.2.1 _ (exC_l k)) (C.2.2.2.2.1 _ (exC_i k)) hstr hat (exW_ot k) C.2.2.2.2.2.2.2.2.2.2.1 C.2.2.2.2.2.2.2.2.2.2.2 hS (hl.2.1.trans C.2.2.1.symm) d0 d3 d4 d6 d9 (fun x hx => absurd (ht x hx) id) (by show 2 + 3 < rm.frames; omega) (by show _ + (13 * (2 + 1) + 43) ≤ rm.locals; omega) hcs.1 hcs.2 C.2.2.2.2.2.2.2.1 (fun t hvm hz hk => ?_) hS.2.2 hcs.1 hcs.2
  have hSt : Sta Z.z Z.df t t.heap := by
    have h1 := C.2.2.2.2.2.2.2.2.kept hS.2.1
    exact (h1.kept (fun a ha _ => hk a ha)).moved hvm
  exact ⟨(exC k, g), hp, ⟨rfl, Hw_kept hw hk, va_K.moved hvm C.2.2.2.2.2.1, Nat.le_trans (Nat.le_trans C.2.2.2.2.2.2.1 hS.1) hz, hSt⟩, Nat.le_trans hS.1 hz, fun q hq hA => (hk q (Nat.lt_of_lt_of_le hq hS.1)).trans (hS.2.1 q hq hA)⟩
theorem ent_xi {l : Launch} {y : MethodName} {cc : ByteArray} {maxL : Nat} {rm : Room} {Z : Zc} {as : List Value} {g : MG} {post : Int32 → MG → Prop} {postX : String → MG → Prop} {lo : Lo} (hl9 : l.stackTraces = false) (hy : plainName y.cls = true) (ho : y.cls = "PosterTypes") (hlen : (lg_sl as).length ≤ maxL) (hlo : loA (lv_args 0 as) maxL = lo) (hR : 6 ≤ rm.frames ∧ 100 ≤ rm.locals ∧ 1 ≤ rm.cells ∧ 6 ≤ rm.slots)
    (body : ∀ P : Pm, P.2.1 = l → Cx P Z cc "PosterTypes" → (∀ (pc : Nat) (lo' : Lo) (v : Int32) (g' : MG), decode cc pc = .ok (.ireturn, 1) → post v g' → V P rm Z lo' pc [.int v] g' rm.cells rm.slots) →
      (∀ (pc : Nat) (lo' : Lo) (g' : MG) (cs sl : Nat) (k : Fin 3) (is : Nat) (tx : String), (is, tx) ∈ strL → cs + 1 ≤ rm.cells ∧ sl + 6 ≤ rm.slots → decode cc pc = .ok (.new (exK k), 3) → decode cc (pc + 3) = .ok (.dup, 1) → decode cc (pc + 4) = .ok (.ldc is, 2) → decode cc (pc + 6) = .ok (.invokespecial (exI k), 3) → decode cc (pc + 9) = .ok (.athrow, 1) → postX (exC k) g' → V P rm Z lo' pc [] g' cs sl) →
      V P rm Z lo 0 [] g 0 0) : XI l y cc maxL (some .int) rm Z as g post postX := by
  refine vx_ofW (cc := cc) (maxL := maxL) (ret := some .int) hy rfl ?_
  intro p e s m args below meth c s₁ B hml ht hv
  obtain ⟨rfl, ⟨hw, hK, hz, hst⟩, hX⟩ := hv
  have hts : ∀ w ∈ wsG, w.before as.toArray s = true := fun w h => atoms_spec (ws := wz y cc maxL (some .int)) B.pre w (List.mem_cons_of_mem _ h)
  have hown : s.vm.findClass "PosterTypes" = some m.cls := ho ▸ findClass_of_methodNamed B.named
  have hl := lv_entry as hlen
  have hC : Cx (p, l, e, s, m, as.toArray, below, meth, c, vx_MQ below (va_Qi post (fun g' t => Wd Z g' t) (A0 Z.z)) (xcC Z postX) as.toArray s rm.cells rm.slots (A0 Z.z), maxL) Z cc "PosterTypes" := ⟨B.exec, B.bytes, hml, hown, hts, hK, hz, B.notSynchronized, hst⟩
  rw [lg_entry_eq]
  generalize (lg_sl as ++ List.replicate (maxL - (lg_sl as).length) Slot.unset).toArray = ls at hl ⊢
  refine body (p, l, e, s, m, as.toArray, below, meth, c, vx_MQ below (va_Qi post (fun g' t => Wd Z g' t) (A0 Z.z)) (xcC Z postX) as.toArray s rm.cells rm.slots (A0 Z.z), maxL) rfl hC ?_ ?_ ls s.heap [] (hlo ▸ Lv_of hl) hw va_S.rf
  · intro pc lo' v g' hdg hp ls H locs hl hw' hS
    exact vx_ret (W.iret B.exec B.bytes B.returns (fun t ht hW => ⟨⟨v, g', rfl, hp, Wd_of hw' hK hz hst hS ht hW.alike⟩, hS.F ht⟩) hS.2.2 hdg)
  · intro pc lo' g' cs sl k is tx hs hcs d0 d3 d4 d6 d9 hp
    exact v_throw hC hl9 hX ht hR hcs (Nat.zero_le _) k hs d0 d3 d4 d6 d9 hp
