/-! THE WALK over the world: V, its rows -/
def tyY (Y : Yc) : List (ClassId × FieldType) := [(Y.1, .int), (Y.2.1, .object "java/lang/Object"), (Y.2.2.1, .array .int), (Y.2.2.2.1, .array (.array .int)), (Y.2.2.2.2.1, .object "PosterTypesLaw$Poster"), (Y.2.2.2.2.2.1, .byte)]
def ALn : String := "java/util/ArrayList"
def DEn : String := "DEFAULTCAPACITY_EMPTY_ELEMENTDATA"
def DEd : String := "[Ljava/lang/Object;"
/-- what stays: the statics, read at the start -/
def Sta (z df : Nat) (U : State) (H : Heap) : Prop := va_Z ALn DEn DEd (.ref df) (A0 z) U H ∧ va_T (.object "java/lang/Object") df 0 (fun _ => .null) (A0 z) U H ∧ vx_Zq Bundle.tN "UNASSIGNED_STACK" Bundle.steD (A0 z) U H ∧ vx_Zq Bundle.tN "SUPPRESSED_SENTINEL" Bundle.listD (A0 z) U H
theorem Sta.moved {z df : Nat} {u U : State} {H : Heap} (hvm : u.vm.Alike U.vm) (h : Sta z df u H) : Sta z df U H := ⟨h.1.moved hvm, h.2.1.moved hvm, h.2.2.1.moved hvm, h.2.2.2.moved hvm⟩
theorem Sta.kept {z df : Nat} {U : State} {H H1 : Heap} (h : Sta z df U H) (hq : ∀ a : Nat, a < H.size → ¬ A0 z a → H1[a]? = H[a]?) : Sta z df U H1 := ⟨h.1.kept hq, h.2.1.kept hq, h.2.2.1.kept hq, h.2.2.2.kept hq⟩
/-- the constants of a claim: classes, arrays' classes, addresses, the empty row, the first new cell -/
abbrev Zc : Type := va_G × Yc × (Nat → Nat) × Nat × Nat × Nat
abbrev Zc.D (Z : Zc) : va_G := Z.1
abbrev Zc.Y (Z : Zc) : Yc := Z.2.1
abbrev Zc.ad (Z : Zc) : Nat → Nat := Z.2.2.1
abbrev Zc.df (Z : Zc) : Nat := Z.2.2.2.1
abbrev Zc.z (Z : Zc) : Nat := Z.2.2.2.2.1
/-- the address of the empty text of the law's code -/
abbrev Zc.e (Z : Zc) : Nat := Z.2.2.2.2.2
def HwZ (Z : Zc) (g : MG) (H : Heap) : Prop := Hw Z.D Z.Y Z.ad Z.df Z.z g H
def Wd (Z : Zc) (g : MG) (U : State) : Prop := HwZ Z g U.heap ∧ va_K Z.D vwCl (tyY Z.Y) U ∧ Z.z ≤ U.heap.size ∧ Sta Z.z Z.df U U.heap
abbrev Pm : Type := Program × Launch × Env × State × MethodId × Array Value × List Frame × Method × Code × (State → Prop) × Nat
def V (P : Pm) (R : Room) (Z : Zc) (lo : Lo) (pc : Nat) (st : List Value) (g : MG) (cs sl : Nat) : Prop := match P with
  | (p, l, e, s, m, args, below, meth, c, Q, nL) => ∀ (ls : Array Slot) (H : Heap) (locs : List Loc), Lv ls nL lo → HwZ Z g H → va_S (A0 Z.z) s.heap H locs → W p l e R s m args below meth c H locs cs sl Q (F0 m pc ls st)
def Cx (P : Pm) (Z : Zc) (cc : ByteArray) (own : String) : Prop := match P with
  | (p, _, _, s, m, args, _, meth, c, _, nL) => p.tables.exec = Jvm.exec ∧ c.code = cc ∧ c.maxLocals = nL ∧ s.vm.findClass own = some m.cls ∧ (∀ w ∈ wsG, w.before args s = true) ∧ va_K Z.D vwCl (tyY Z.Y) s ∧ Z.z ≤ s.heap.size ∧ meth.locks = false ∧ Sta Z.z Z.df s s.heap
abbrev nLP (P : Pm) : Nat := P.2.2.2.2.2.2.2.2.2.2
theorem A0_new {z : Nat} {H0 H : Heap} {locs : List Loc} (hz : z ≤ H0.size) (hS : va_S (A0 z) H0 H locs) {q : Nat} (h : H.size ≤ q) : A0 z q := Nat.le_trans hz (Nat.le_trans hS.1 h)
section VR
variable {P : Pm} {R : Room} {Z : Zc} {cc : ByteArray} {own : String} {lo : Lo} {pc : Nat} {rest : List Value} {g : MG} {cs sl : Nat}
theorem v_eq {lo' : Lo} {pc' : Nat} {st st' : List Value} {g' : MG} (k : V P R Z lo' pc' st' g' cs sl) (h1 : lo = lo') (h2 : pc = pc') (h3 : st = st') (h4 : g = g') : V P R Z lo pc st g cs sl := by subst h1; subst h2; subst h3; subst h4; exact k
theorem v_wide {k n : Nat} {st : List Value} (h1 : cs ≤ k) (h2 : sl ≤ n) (kk : V P R Z lo pc st g k n) : V P R Z lo pc st g cs sl := by
  obtain ⟨p, l, e, s, m, args, below, meth, c, Q, nL⟩ := P
  exact fun ls H locs hl hw hS => W.widen h1 h2 (kk ls H locs hl hw hS)
theorem v_iconst (C : Cx P Z cc own) {n : Int} {v : Int32} (hdg : decode cc pc = .ok (.iconst n, 1)) (hv : Int32.ofInt n = v) (k : V P R Z lo (pc + 1) (.int v :: rest) g cs sl) : V P R Z lo pc rest g cs sl := by
  obtain ⟨p, l, e, s, m, args, below, meth, c, Q, nL⟩ := P
  exact fun ls H locs hl hw hS => lv_iconst C.1 C.2.1 hdg hv (k ls H locs hl hw hS)
theorem v_bipush (C : Cx P Z cc own) {n : Int} {v : Int32} (hdg : decode cc pc = .ok (.bipush n, 2)) (hv : (Int8.ofInt n).toInt32 = v) (k : V P R Z lo (pc + 2) (.int v :: rest) g cs sl) : V P R Z lo pc rest g cs sl := by
  obtain ⟨p, l, e, s, m, args, below, meth, c, Q, nL⟩ := P
  exact fun ls H locs hl hw hS => lv_bipush C.1 C.2.1 hdg hv (k ls H locs hl hw hS)
theorem v_sipush (C : Cx P Z cc own) {n : Int} {v : Int32} (hdg : decode cc pc = .ok (.sipush n, 3)) (hv : (Int16.ofInt n).toInt32 = v) (k : V P R Z lo (pc + 3) (.int v :: rest) g cs sl) : V P R Z lo pc rest g cs sl := by
  obtain ⟨p, l, e, s, m, args, below, meth, c, Q, nL⟩ := P
  exact fun ls H locs hl hw hS => lv_sipush C.1 C.2.1 hdg hv (k ls H locs hl hw hS)
theorem v_ldc (C : Cx P Z cc own) {i : Nat} {v : Int32} (hw0 : Cond.constant own i v ∈ wsG) (hdg : decode cc pc = .ok (.ldc i, 2)) (k : V P R Z lo (pc + 2) (.int v :: rest) g cs sl) : V P R Z lo pc rest g cs sl := by
  obtain ⟨p, l, e, s, m, args, below, meth, c, Q, nL⟩ := P
  exact fun ls H locs hl hw hS => lv_ldc C.1 C.2.1 C.2.2.2.1 (C.2.2.2.2.1 _ hw0) hdg (k ls H locs hl hw hS)
theorem v_ldc2 (C : Cx P Z cc own) {i : Nat} {v : Int64} (hw0 : Cond.constantLong own i v ∈ wsG) (hdg : decode cc pc = .ok (.ldc2_w i, 3)) (k : V P R Z lo (pc + 3) (.long v :: rest) g cs sl) : V P R Z lo pc rest g cs sl := by
  obtain ⟨p, l, e, s, m, args, below, meth, c, Q, nL⟩ := P
  exact fun ls H locs hl hw hS => lv_ldc2 C.1 C.2.1 C.2.2.2.1 (C.2.2.2.2.1 _ hw0) hdg (k ls H locs hl hw hS)
theorem v_iload_n (C : Cx P Z cc own) {k : Fin 4} {i : Nat} {x : Int32} (hdg : decode cc pc = .ok (.iload_n k, 1)) (hi : (k : Nat) = i) (hl0 : lo[i]? = some (some (.int x))) (kk : V P R Z lo (pc + 1) (.int x :: rest) g cs sl) : V P R Z lo pc rest g cs sl := by
  obtain ⟨p, l, e, s, m, args, below, meth, c, Q, nL⟩ := P
  exact fun ls H locs hl hw hS => lv_iload_n C.1 C.2.1 hdg hi (hl.at hl0) (kk ls H locs hl hw hS)
theorem v_iload (C : Cx P Z cc own) {i : Nat} {x : Int32} (hdg : decode cc pc = .ok (.iload i, 2)) (hl0 : lo[i]? = some (some (.int x))) (kk : V P R Z lo (pc + 2) (.int x :: rest) g cs sl) : V P R Z lo pc rest g cs sl := by
  obtain ⟨p, l, e, s, m, args, below, meth, c, Q, nL⟩ := P
  exact fun ls H locs hl hw hS => lv_iload C.1 C.2.1 hdg (hl.at hl0) (kk ls H locs hl hw hS)
theorem v_aload_n (C : Cx P Z cc own) {k : Fin 4} {i : Nat} {x : Nat} (hdg : decode cc pc = .ok (.aload_n k, 1)) (hi : (k : Nat) = i) (hl0 : lo[i]? = some (some (.ref x))) (kk : V P R Z lo (pc + 1) (.ref x :: rest) g cs sl) : V P R Z lo pc rest g cs sl := by
  obtain ⟨p, l, e, s, m, args, below, meth, c, Q, nL⟩ := P
  exact fun ls H locs hl hw hS => lv_aload_n C.1 C.2.1 hdg hi (hl.at hl0) (kk ls H locs hl hw hS)
theorem v_aload (C : Cx P Z cc own) {i : Nat} {x : Nat} (hdg : decode cc pc = .ok (.aload i, 2)) (hl0 : lo[i]? = some (some (.ref x))) (kk : V P R Z lo (pc + 2) (.ref x :: rest) g cs sl) : V P R Z lo pc rest g cs sl := by
  obtain ⟨p, l, e, s, m, args, below, meth, c, Q, nL⟩ := P
  exact fun ls H locs hl hw hS => lv_aload C.1 C.2.1 hdg (hl.at hl0) (kk ls H locs hl hw hS)
theorem v_istore_n (C : Cx P Z cc own) {k : Fin 4} {i : Nat} {x : Int32} {lo' : Lo} (hdg : decode cc pc = .ok (.istore_n k, 1)) (hi : (k : Nat) = i) (hlt : i < lo.length) (hck : ck1 lo i = true) (he : lo.set i (some (.int x)) = lo') (kk : V P R Z lo' (pc + 1) rest g cs sl) : V P R Z lo pc (.int x :: rest) g cs sl := by
  obtain ⟨p, l, e, s, m, args, below, meth, c, Q, nL⟩ := P
  subst he
  exact fun ls H locs hl hw hS => lv_istore_n C.1 C.2.1 hdg hi hl.2 (Nat.lt_of_lt_of_le hlt hl.1) rfl (fun ls' h' => kk ls' H locs (Lv.st1 hl.1 hlt hck h') hw hS)
theorem v_istore (C : Cx P Z cc own) {i : Nat} {x : Int32} {lo' : Lo} (hdg : decode cc pc = .ok (.istore i, 2)) (hlt : i < lo.length) (hck : ck1 lo i = true) (he : lo.set i (some (.int x)) = lo') (kk : V P R Z lo' (pc + 2) rest g cs sl) : V P R Z lo pc (.int x :: rest) g cs sl := by
  obtain ⟨p, l, e, s, m, args, below, meth, c, Q, nL⟩ := P
  subst he
  exact fun ls H locs hl hw hS => lv_istore C.1 C.2.1 hdg hl.2 (Nat.lt_of_lt_of_le hlt hl.1) rfl (fun ls' h' => kk ls' H locs (Lv.st1 hl.1 hlt hck h') hw hS)
theorem v_astore_n (C : Cx P Z cc own) {k : Fin 4} {i : Nat} {x : Nat} {lo' : Lo} (hdg : decode cc pc = .ok (.astore_n k, 1)) (hi : (k : Nat) = i) (hlt : i < lo.length) (hck : ck1 lo i = true) (he : lo.set i (some (.ref x)) = lo') (kk : V P R Z lo' (pc + 1) rest g cs sl) : V P R Z lo pc (.ref x :: rest) g cs sl := by
  obtain ⟨p, l, e, s, m, args, below, meth, c, Q, nL⟩ := P
  subst he
  exact fun ls H locs hl hw hS => lv_astore_n C.1 C.2.1 hdg hi hl.2 (Nat.lt_of_lt_of_le hlt hl.1) rfl (fun ls' h' => kk ls' H locs (Lv.st1 hl.1 hlt hck h') hw hS)
theorem v_astore (C : Cx P Z cc own) {i : Nat} {x : Nat} {lo' : Lo} (hdg : decode cc pc = .ok (.astore i, 2)) (hlt : i < lo.length) (hck : ck1 lo i = true) (he : lo.set i (some (.ref x)) = lo') (kk : V P R Z lo' (pc + 2) rest g cs sl) : V P R Z lo pc (.ref x :: rest) g cs sl := by
  obtain ⟨p, l, e, s, m, args, below, meth, c, Q, nL⟩ := P
  subst he
  exact fun ls H locs hl hw hS => lv_astore C.1 C.2.1 hdg hl.2 (Nat.lt_of_lt_of_le hlt hl.1) rfl (fun ls' h' => kk ls' H locs (Lv.st1 hl.1 hlt hck h') hw hS)
theorem v_iinc (C : Cx P Z cc own) {i : Nat} {n : Int} {x v : Int32} {lo' : Lo} (hdg : decode cc pc = .ok (.iinc i n, 3)) (hl0 : lo[i]? = some (some (.int x))) (hv : x + Int32.ofInt n = v) (hck : ck1 lo i = true) (he : lo.set i (some (.int v)) = lo') (kk : V P R Z lo' (pc + 3) rest g cs sl) : V P R Z lo pc rest g cs sl := by
  obtain ⟨p, l, e, s, m, args, below, meth, c, Q, nL⟩ := P
  subst he
  have hlt : i < lo.length := (List.getElem?_eq_some_iff.mp hl0).1
  intro ls H locs hl hw hS
  obtain ⟨k, hk⟩ := List.getElem?_of_mem (asc_mem.mpr hl0)
  exact lv_iinc C.1 C.2.1 hdg hl.2 hk hv (Nat.lt_of_lt_of_le hlt hl.1) rfl (fun ls' h' => kk ls' H locs (Lv.st1 hl.1 hlt hck h') hw hS)
theorem v_iadd (C : Cx P Z cc own) {x y : Int32} (hdg : decode cc pc = .ok (.iadd, 1)) (kk : V P R Z lo (pc + 1) (.int (x + y) :: rest) g cs sl) : V P R Z lo pc (.int y :: .int x :: rest) g cs sl := by
  obtain ⟨p, l, e, s, m, args, below, meth, c, Q, nL⟩ := P
  exact fun ls H locs hl hw hS => lv_iadd C.1 C.2.1 hdg (kk ls H locs hl hw hS)
theorem v_isub (C : Cx P Z cc own) {x y : Int32} (hdg : decode cc pc = .ok (.isub, 1)) (kk : V P R Z lo (pc + 1) (.int (x - y) :: rest) g cs sl) : V P R Z lo pc (.int y :: .int x :: rest) g cs sl := by
  obtain ⟨p, l, e, s, m, args, below, meth, c, Q, nL⟩ := P
  exact fun ls H locs hl hw hS => lv_isub C.1 C.2.1 hdg (kk ls H locs hl hw hS)
theorem v_imul (C : Cx P Z cc own) {x y : Int32} (hdg : decode cc pc = .ok (.imul, 1)) (kk : V P R Z lo (pc + 1) (.int (x * y) :: rest) g cs sl) : V P R Z lo pc (.int y :: .int x :: rest) g cs sl := by
  obtain ⟨p, l, e, s, m, args, below, meth, c, Q, nL⟩ := P
  exact fun ls H locs hl hw hS => lv_imul C.1 C.2.1 hdg (kk ls H locs hl hw hS)
theorem v_idiv (C : Cx P Z cc own) {x y : Int32} (hdg : decode cc pc = .ok (.idiv, 1)) (hne : ¬ y = 0) (kk : V P R Z lo (pc + 1) (.int (x / y) :: rest) g cs sl) : V P R Z lo pc (.int y :: .int x :: rest) g cs sl := by
  obtain ⟨p, l, e, s, m, args, below, meth, c, Q, nL⟩ := P
  exact fun ls H locs hl hw hS => lv_idiv C.1 C.2.1 hdg hne (kk ls H locs hl hw hS)
theorem v_irem (C : Cx P Z cc own) {x y : Int32} (hdg : decode cc pc = .ok (.irem, 1)) (hne : ¬ y = 0) (kk : V P R Z lo (pc + 1) (.int (x - x / y * y) :: rest) g cs sl) : V P R Z lo pc (.int y :: .int x :: rest) g cs sl := by
  obtain ⟨p, l, e, s, m, args, below, meth, c, Q, nL⟩ := P
  exact fun ls H locs hl hw hS => lv_irem C.1 C.2.1 hdg hne (kk ls H locs hl hw hS)
theorem v_goto (C : Cx P Z cc own) {off : Int} {tgt : Nat} {st : List Value} (hdg : decode cc pc = .ok (.goto off, 3)) (ht : (pc : Int) + off = (tgt : Int)) (kk : V P R Z lo tgt st g cs sl) : V P R Z lo pc st g cs sl := by
  obtain ⟨p, l, e, s, m, args, below, meth, c, Q, nL⟩ := P
  exact fun ls H locs hl hw hS => lv_goto C.1 C.2.1 hdg ht (kk ls H locs hl hw hS)
theorem v_dup (C : Cx P Z cc own) {v : Value} (hdg : decode cc pc = .ok (.dup, 1)) (hv : v.category = 1) (kk : V P R Z lo (pc + 1) (v :: v :: rest) g cs sl) : V P R Z lo pc (v :: rest) g cs sl := by
  obtain ⟨p, l, e, s, m, args, below, meth, c, Q, nL⟩ := P
  exact fun ls H locs hl hw hS => lv_dup C.1 C.2.1 hdg hv (kk ls H locs hl hw hS)
theorem v_pop (C : Cx P Z cc own) {v : Value} (hdg : decode cc pc = .ok (.pop, 1)) (hv : v.category = 1) (kk : V P R Z lo (pc + 1) rest g cs sl) : V P R Z lo pc (v :: rest) g cs sl := by
  obtain ⟨p, l, e, s, m, args, below, meth, c, Q, nL⟩ := P
  exact fun ls H locs hl hw hS => lv_pop C.1 C.2.1 hdg hv (kk ls H locs hl hw hS)
theorem v_if_eq (C : Cx P Z cc own) {x : Int32} {off : Int} {tgt : Nat} (hdg : decode cc pc = .ok (.ifCond .eq off, 3)) (ht : (pc : Int) + off = (tgt : Int)) (kt : x = 0 → V P R Z lo tgt rest g cs sl) (kf : ¬ x = 0 → V P R Z lo (pc + 3) rest g cs sl) : V P R Z lo pc (.int x :: rest) g cs sl := by
  obtain ⟨p, l, e, s, m, args, below, meth, c, Q, nL⟩ := P
  exact fun ls H locs hl hw hS => lv_if_eq C.1 C.2.1 hdg ht (fun h => kt h ls H locs hl hw hS) (fun h => kf h ls H locs hl hw hS)
theorem v_icmp_eq (C : Cx P Z cc own) {x y : Int32} {off : Int} {tgt : Nat} (hdg : decode cc pc = .ok (.if_icmp .eq off, 3)) (ht : (pc : Int) + off = (tgt : Int)) (kt : x = y → V P R Z lo tgt rest g cs sl) (kf : ¬ x = y → V P R Z lo (pc + 3) rest g cs sl) : V P R Z lo pc (.int y :: .int x :: rest) g cs sl := by
  obtain ⟨p, l, e, s, m, args, below, meth, c, Q, nL⟩ := P
  exact fun ls H locs hl hw hS => lv_icmp_eq C.1 C.2.1 hdg ht (fun h => kt h ls H locs hl hw hS) (fun h => kf h ls H locs hl hw hS)
theorem v_if_ne (C : Cx P Z cc own) {x : Int32} {off : Int} {tgt : Nat} (hdg : decode cc pc = .ok (.ifCond .ne off, 3)) (ht : (pc : Int) + off = (tgt : Int)) (kt : ¬ x = 0 → V P R Z lo tgt rest g cs sl) (kf : x = 0 → V P R Z lo (pc + 3) rest g cs sl) : V P R Z lo pc (.int x :: rest) g cs sl := by
  obtain ⟨p, l, e, s, m, args, below, meth, c, Q, nL⟩ := P
  exact fun ls H locs hl hw hS => lv_if_ne C.1 C.2.1 hdg ht (fun h => kt h ls H locs hl hw hS) (fun h => kf h ls H locs hl hw hS)
theorem v_icmp_ne (C : Cx P Z cc own) {x y : Int32} {off : Int} {tgt : Nat} (hdg : decode cc pc = .ok (.if_icmp .ne off, 3)) (ht : (pc : Int) + off = (tgt : Int)) (kt : ¬ x = y → V P R Z lo tgt rest g cs sl) (kf : x = y → V P R Z lo (pc + 3) rest g cs sl) : V P R Z lo pc (.int y :: .int x :: rest) g cs sl := by
  obtain ⟨p, l, e, s, m, args, below, meth, c, Q, nL⟩ := P
  exact fun ls H locs hl hw hS => lv_icmp_ne C.1 C.2.1 hdg ht (fun h => kt h ls H locs hl hw hS) (fun h => kf h ls H locs hl hw hS)
theorem v_if_lt (C : Cx P Z cc own) {x : Int32} {off : Int} {tgt : Nat} (hdg : decode cc pc = .ok (.ifCond .lt off, 3)) (ht : (pc : Int) + off = (tgt : Int)) (kt : x < 0 → V P R Z lo tgt rest g cs sl) (kf : ¬ x < 0 → V P R Z lo (pc + 3) rest g cs sl) : V P R Z lo pc (.int x :: rest) g cs sl := by
  obtain ⟨p, l, e, s, m, args, below, meth, c, Q, nL⟩ := P
  exact fun ls H locs hl hw hS => lv_if_lt C.1 C.2.1 hdg ht (fun h => kt h ls H locs hl hw hS) (fun h => kf h ls H locs hl hw hS)
theorem v_icmp_lt (C : Cx P Z cc own) {x y : Int32} {off : Int} {tgt : Nat} (hdg : decode cc pc = .ok (.if_icmp .lt off, 3)) (ht : (pc : Int) + off = (tgt : Int)) (kt : x < y → V P R Z lo tgt rest g cs sl) (kf : ¬ x < y → V P R Z lo (pc + 3) rest g cs sl) : V P R Z lo pc (.int y :: .int x :: rest) g cs sl := by
  obtain ⟨p, l, e, s, m, args, below, meth, c, Q, nL⟩ := P
  exact fun ls H locs hl hw hS => lv_icmp_lt C.1 C.2.1 hdg ht (fun h => kt h ls H locs hl hw hS) (fun h => kf h ls H locs hl hw hS)
theorem v_if_ge (C : Cx P Z cc own) {x : Int32} {off : Int} {tgt : Nat} (hdg : decode cc pc = .ok (.ifCond .ge off, 3)) (ht : (pc : Int) + off = (tgt : Int)) (kt : 0 ≤ x → V P R Z lo tgt rest g cs sl) (kf : ¬ 0 ≤ x → V P R Z lo (pc + 3) rest g cs sl) : V P R Z lo pc (.int x :: rest) g cs sl := by
  obtain ⟨p, l, e, s, m, args, below, meth, c, Q, nL⟩ := P
  exact fun ls H locs hl hw hS => lv_if_ge C.1 C.2.1 hdg ht (fun h => kt h ls H locs hl hw hS) (fun h => kf h ls H locs hl hw hS)
theorem v_icmp_ge (C : Cx P Z cc own) {x y : Int32} {off : Int} {tgt : Nat} (hdg : decode cc pc = .ok (.if_icmp .ge off, 3)) (ht : (pc : Int) + off = (tgt : Int)) (kt : y ≤ x → V P R Z lo tgt rest g cs sl) (kf : ¬ y ≤ x → V P R Z lo (pc + 3) rest g cs sl) : V P R Z lo pc (.int y :: .int x :: rest) g cs sl := by
  obtain ⟨p, l, e, s, m, args, below, meth, c, Q, nL⟩ := P
  exact fun ls H locs hl hw hS => lv_icmp_ge C.1 C.2.1 hdg ht (fun h => kt h ls H locs hl hw hS) (fun h => kf h ls H locs hl hw hS)
theorem v_if_gt (C : Cx P Z cc own) {x : Int32} {off : Int} {tgt : Nat} (hdg : decode cc pc = .ok (.ifCond .gt off, 3)) (ht : (pc : Int) + off = (tgt : Int)) (kt : 0 < x → V P R Z lo tgt rest g cs sl) (kf : ¬ 0 < x → V P R Z lo (pc + 3) rest g cs sl) : V P R Z lo pc (.int x :: rest) g cs sl := by
  obtain ⟨p, l, e, s, m, args, below, meth, c, Q, nL⟩ := P
  exact fun ls H locs hl hw hS => lv_if_gt C.1 C.2.1 hdg ht (fun h => kt h ls H locs hl hw hS) (fun h => kf h ls H locs hl hw hS)
theorem v_icmp_gt (C : Cx P Z cc own) {x y : Int32} {off : Int} {tgt : Nat} (hdg : decode cc pc = .ok (.if_icmp .gt off, 3)) (ht : (pc : Int) + off = (tgt : Int)) (kt : y < x → V P R Z lo tgt rest g cs sl) (kf : ¬ y < x → V P R Z lo (pc + 3) rest g cs sl) : V P R Z lo pc (.int y :: .int x :: rest) g cs sl := by
  obtain ⟨p, l, e, s, m, args, below, meth, c, Q, nL⟩ := P
  exact fun ls H locs hl hw hS => lv_icmp_gt C.1 C.2.1 hdg ht (fun h => kt h ls H locs hl hw hS) (fun h => kf h ls H locs hl hw hS)
theorem v_if_le (C : Cx P Z cc own) {x : Int32} {off : Int} {tgt : Nat} (hdg : decode cc pc = .ok (.ifCond .le off, 3)) (ht : (pc : Int) + off = (tgt : Int)) (kt : x ≤ 0 → V P R Z lo tgt rest g cs sl) (kf : ¬ x ≤ 0 → V P R Z lo (pc + 3) rest g cs sl) : V P R Z lo pc (.int x :: rest) g cs sl := by
  obtain ⟨p, l, e, s, m, args, below, meth, c, Q, nL⟩ := P
  exact fun ls H locs hl hw hS => lv_if_le C.1 C.2.1 hdg ht (fun h => kt h ls H locs hl hw hS) (fun h => kf h ls H locs hl hw hS)
theorem v_icmp_le (C : Cx P Z cc own) {x y : Int32} {off : Int} {tgt : Nat} (hdg : decode cc pc = .ok (.if_icmp .le off, 3)) (ht : (pc : Int) + off = (tgt : Int)) (kt : x ≤ y → V P R Z lo tgt rest g cs sl) (kf : ¬ x ≤ y → V P R Z lo (pc + 3) rest g cs sl) : V P R Z lo pc (.int y :: .int x :: rest) g cs sl := by
  obtain ⟨p, l, e, s, m, args, below, meth, c, Q, nL⟩ := P
  exact fun ls H locs hl hw hS => lv_icmp_le C.1 C.2.1 hdg ht (fun h => kt h ls H locs hl hw hS) (fun h => kf h ls H locs hl hw hS)
theorem v_get (C : Cx P Z cc own) {Cn : String} {T : u_T} {N ci index : Nat} (hin : ∀ w ∈ u_ws Cn T N, w ∈ wsG) (hc : vwCl[ci]? = some (Cn, T, N)) (j : Nat) (hj : j < N) (hlink : Cond.fieldLink own index Cn (T j).2.1 (T j).2.2.1 ∈ wsG) (hsame : (T j).1 = Cn) {k : Nat} {fs : List Value} (hk : cx Z.Y Z.ad Z.df g k = some (.inr (ci, fs))) {v : Value} (hv : fs[j]? = some v) (hdg : decode cc pc = .ok (.getfield index, 3)) (kk : V P R Z lo (pc + 3) (v :: rest) g cs sl) : V P R Z lo pc (.ref (Z.ad k) :: rest) g cs sl := by
  obtain ⟨p, l, e, s, m, args, below, meth, c, Q, nL⟩ := P
  intro ls H locs hl hw hS
  have hP : va_P Z.D vwCl [(Z.ad k, .inr (ci, fs))] H := by
    intro i q hq
    rcases List.mem_singleton.mp (List.mem_of_getElem? hq) with rfl
    exact (hw.1 k _ hk).1
  exact va_get (D := Z.D) (ref := Cn) C.1 C.2.1 C.2.2.2.2.1 hin C.2.2.2.1 C.2.2.2.2.2.1 hP 0 rfl hc j hj (C.2.2.2.2.1 _ hlink) (fun x h => by rw [hsame] at h; exact h) hv hdg (kk ls H locs hl hw hS)
theorem v_put (C : Cx P Z cc own) {Cn : String} {T : u_T} {N ci index : Nat} (hin : ∀ w ∈ u_ws Cn T N, w ∈ wsG) (hc : vwCl[ci]? = some (Cn, T, N)) (ty0 : Nat → FieldType) (hty : ∀ k, k < N → parseFieldDescriptor (T k).2.2.1 = some (ty0 k)) (hnm : ∀ a, a < N → ∀ b, b < N → a ≠ b → (T a).2.1 ≠ (T b).2.1) (j : Nat) (hj : j < N) (hlink : Cond.fieldLink own index Cn (T j).2.1 (T j).2.2.1 ∈ wsG) (hsame : (T j).1 = Cn) (hfin : (T j).2.2.2 = false) {ty : FieldType} (hd : parseFieldDescriptor (T j).2.2.1 = some ty) {v : Value} (hn : narrow ty v = v) (hfit : fits ty v = true) {k : Nat} {fs : List Value} (hk : cx Z.Y Z.ad Z.df g k = some (.inr (ci, fs))) (hl : j < fs.length) {x : Int32} (hlk : lk k = false) (hx : j = 3 → (∀ i, i < 24 → k ≠ 200 + 10 * i) ∨ x = -1 ∨ ∃ i, g 31 2 = g 31 2 ∧ (∀ n, g 31 2 = nI n → n ≤ 5 → i < n) ∧ x = nI i)
    (hk' : cx Z.Y Z.ad Z.df (wr g k j x) k = some (.inr (ci, fs.set j v))) (hdg : decode cc pc = .ok (.putfield index, 3)) (kk : V P R Z lo (pc + 3) rest (wr g k j x) cs sl) : V P R Z lo pc (v :: .ref (Z.ad k) :: rest) g cs sl := by
  obtain ⟨p, l, e, s, m, args, below, meth, c, Q, nL⟩ := P
  intro ls H locs hll hw hS0
  have hap := va_apart (own := own) C.2.2.2.2.1 hin ty0 hty hnm C.2.2.2.2.2.1 hc
  obtain ⟨⟨r, h1, cell, q1, q2, q3, q4⟩, hza⟩ := hw.1 k _ hk
  have hr : r = (Cn, T, N) := Option.some.inj (h1.symm.trans hc)
  subst hr
  obtain ⟨hS, hfc, kC, hkC, hkind⟩ := C.2.2.2.2.2.1.1 ci _ hc
  obtain ⟨cf, kf, fi, f, hi, hsl⟩ := hS j hj
  have hlay := C.2.2.2.2.1 _ (hin _ (u_in_lay hj))
  unfold u_lay at hlay
  rw [if_neg (by rw [hfin]; decide)] at hlay
  have hst := (u_facts hfc hkC (u_lays C.2.2.2.2.1 hin hj) hi).1
  have h6 := u_store hfc hkC hkind hlay hi hd hn hfit
  refine W.putK C.1 C.2.1 (f := f) ⟨C.2.2.2.1, C.2.2.2.2.1 _ hlink, ⟨_, _, _, by rw [hsame] at hi; exact hi⟩, hst⟩ (by rw [q2]; exact h6) q1 q3 (by rw [hsl]; exact k2_hasslot (q4 j hj)) rfl rfl hdg fun H' e1 e2 e3 => ?_
  rw [hsl] at e1 ⊢
  refine kk ls H' _ hll (Hw_wr hw hlk hx hk hk' ⟨_, hc, t_OB.to (V := updV (vp_V fs) j v) ⟨_, e1, q2, q3, t_set q4 hap hj v⟩ (fun i _ => vp_updV_set hl v i)⟩ e3) (hS0.put e2 e3 hza)
theorem v_iald (C : Cx P Z cc own) {k n : Nat} (hk : cx Z.Y Z.ad Z.df g k = some (.inl (Z.Y.1, n, .inl (g k)))) {i : Int32} (hin : vp_in i n) (hdg : decode cc pc = .ok (.iaload, 1)) (kk : V P R Z lo (pc + 1) (.int (g k (iz i)) :: rest) g cs sl) : V P R Z lo pc (.int i :: .ref (Z.ad k) :: rest) g cs sl := by
  obtain ⟨p, l, e, s, m, args, below, meth, c, Q, nL⟩ := P
  intro ls H locs hl hw hS
  have hP : va_P Z.D vwCl [(Z.ad k, .inl (Z.Y.1, n, .inl (g k)))] H := by
    intro i q hq
    rcases List.mem_singleton.mp (List.mem_of_getElem? hq) with rfl
    exact (hw.1 k _ hk).1
  exact va_iald (D := Z.D) C.1 C.2.1 C.2.2.2.2.2.1 hP 0 0 rfl rfl hin hdg (kk ls H locs hl hw hS)
theorem v_iast (C : Cx P Z cc own) {k n : Nat} (hk : ∀ g' : MG, (∀ q, q ≠ k → g' q = g q) → cx Z.Y Z.ad Z.df g' k = some (.inl (Z.Y.1, n, .inl (g' k)))) (hlk : lk k = false) (hx : ∀ i, i < 24 → k ≠ 200 + 10 * i) {i x : Int32} (hin : vp_in i n) (hdg : decode cc pc = .ok (.iastore, 1)) (kk : V P R Z lo (pc + 1) rest (wr g k (iz i) x) cs sl) : V P R Z lo pc (.int x :: .int i :: .ref (Z.ad k) :: rest) g cs sl := by
  obtain ⟨p, l, e, s, m, args, below, meth, c, Q, nL⟩ := P
  intro ls H locs hl hw hS
  have hk0 := hk g (fun _ _ => rfl)
  have hk1 := hk (wr g k (iz i) x) (fun q hq => wr_row g k (iz i) x hq)
  have ha : va_at Z.D vwCl (Z.ad k, .inl (Z.Y.1, n, .inl (g k))) H := (hw.1 k _ hk0).1
  refine W.iast C.1 C.2.1 (a := Z.ad k) ha ((C.2.2.2.2.2.1.2 0 _ rfl).1 n (fun j => .int (g k j))) (fun q => by cases q) (by show ¬ (i < 0 ∨ (arrV _ _ _).slots.size ≤ _); rw [arrV_size]; exact hin) rfl rfl hdg fun H1 e z oq => ?_
  refine kk ls H1 _ hl (Hw_wr hw hlk (fun _ => Or.inl hx) hk0 hk1 ?_ oq) (hS.put z oq (hw.1 k _ hk0).2)
  show H1[Z.ad k]? = some (vp_cell _ _)
  rw [e, wr_own]
  rw [vp_cell_i, vp_cell_i, arrV_store]
  congr 2
  funext q
  by_cases hq : q = i.toNatClampNeg
  · subst hq
    simp [updV, upd, iz]
  · simp [updV, upd, hq, iz]
theorem v_alen (C : Cx P Z cc own) {k n : Nat} (hk : cx Z.Y Z.ad Z.df g k = some (.inl (Z.Y.1, n, .inl (g k)))) {v : Int32} (hv : Int32.ofNat n = v) (hdg : decode cc pc = .ok (.arraylength, 1)) (kk : V P R Z lo (pc + 1) (.int v :: rest) g cs sl) : V P R Z lo pc (.ref (Z.ad k) :: rest) g cs sl := by
  obtain ⟨p, l, e, s, m, args, below, meth, c, Q, nL⟩ := P
  intro ls H locs hl hw hS
  have hP : va_P Z.D vwCl [(Z.ad k, .inl (Z.Y.1, n, .inl (g k)))] H := by
    intro i q hq
    rcases List.mem_singleton.mp (List.mem_of_getElem? hq) with rfl
    exact (hw.1 k _ hk).1
  exact va_alen (D := Z.D) C.1 C.2.1 C.2.2.2.2.2.1 hP 0 0 rfl rfl hv hdg (kk ls H locs hl hw hS)
end VR
-- CONTRACTS
/-- a method's words: its own code, and the law's list -/
abbrev wz (y : MethodName) (cc : ByteArray) (maxL : Nat) (ret : Option FieldType) : List Cond := Cond.code y cc maxL ret :: wsG
abbrev rmz (fr lo mc ms : Nat) : Room := { frames := fr, cells := mc, slots := ms, locals := lo }
def MI (l : Launch) (y : MethodName) (cc : ByteArray) (maxL : Nat) (ret : Option FieldType) (rm : Room) (Z : Zc) (as : List Value) (g : MG) (post : Int32 → MG → Prop) : Prop := Met l y (wz y cc maxL ret) rm (va_Pc as (fun U => Wd Z g U)) (va_Qi post (fun g' t => Wd Z g' t) (A0 Z.z)) rm.cells rm.slots (A0 Z.z)
def MV (l : Launch) (y : MethodName) (cc : ByteArray) (maxL : Nat) (rm : Room) (Z : Zc) (as : List Value) (g : MG) (post : MG → Prop) : Prop := Met l y (wz y cc maxL none) rm (va_Pc as (fun U => Wd Z g U)) (va_Qv post (fun g' t => Wd Z g' t) (A0 Z.z)) rm.cells rm.slots (A0 Z.z)
def ML (l : Launch) (y : MethodName) (cc : ByteArray) (maxL : Nat) (rm : Room) (Z : Zc) (as : List Value) (g : MG) (post : Int64 → MG → Prop) : Prop := Met l y (wz y cc maxL (some .long)) rm (va_Pc as (fun U => Wd Z g U)) (va_Ql post (fun g' t => Wd Z g' t) (A0 Z.z)) rm.cells rm.slots (A0 Z.z)
def MQ' (l : Launch) (y : MethodName) (cc : ByteArray) (maxL : Nat) (ret : Option FieldType) (rm : Room) (Z : Zc) (as : List Value) (g : MG) (post : Option Nat → MG → Prop) : Prop := Met l y (wz y cc maxL ret) rm (va_Pc as (fun U => Wd Z g U)) (va_Qq post (fun g' t => Wd Z g' t) (A0 Z.z)) rm.cells rm.slots (A0 Z.z)
def loA (l : List (Nat × Value)) (n : Nat) : Lo := (List.range n).map (fun i => (l.find? (fun q => q.1 == i)).map (·.2))
theorem Lv_of {ls : Array Slot} {n : Nat} {l : List (Nat × Value)} (h : lv_has ls n l) : Lv ls n (loA l n) := by
  refine ⟨by simp [loA], h.1, h.2.1, fun q hq => ?_⟩
  obtain ⟨i, v⟩ := q
  have h1 := asc_mem.mp hq
  simp only [loA, List.getElem?_map, Option.map_eq_some_iff] at h1
  obtain ⟨j, hj, h2⟩ := h1
  obtain ⟨q, hq2, rfl⟩ := h2
  have hji : j = i := by
    have := List.getElem?_eq_some_iff.mp hj
    obtain ⟨hl, he⟩ := this
    rw [List.getElem_range] at he
    exact he.symm
  subst hji
  have h3 := List.find?_some hq2
  have h4 := List.mem_of_find?_eq_some hq2
  have h5 : q.1 = j := by simpa using h3
  have := h.2.2 q h4
  rw [h5] at this
  exact this
theorem Wd_of {Z : Zc} {g : MG} {s t : State} {H : Heap} {locs : List Loc} (hw : HwZ Z g H) (hK : va_K Z.D vwCl (tyY Z.Y) s) (hz : Z.z ≤ s.heap.size) (hst : Sta Z.z Z.df s s.heap) (hS : va_S (A0 Z.z) s.heap H locs) (ht : t.heap = H) (hvm : s.vm.Alike t.vm) : Wd Z g t := by
  refine ⟨by rw [ht]; exact hw, va_K.moved hvm hK, by rw [ht]; exact Nat.le_trans hz hS.1, ?_⟩
  rw [ht]
  exact (hst.kept hS.2.1).moved hvm
theorem Wd_blind {Z : Zc} {g : MG} {U U' : State} (hh : U'.heap = U.heap) (hvm : U.vm.Alike U'.vm) (h : Wd Z g U) : Wd Z g U' := by
  refine ⟨by rw [hh]; exact h.1, va_K.moved hvm h.2.1, by rw [hh]; exact h.2.2.1, ?_⟩
  rw [hh]
  exact h.2.2.2.moved hvm
theorem ent_i {l : Launch} {y : MethodName} {cc : ByteArray} {maxL : Nat} {rm : Room} {Z : Zc} {as : List Value} {g : MG} {post : Int32 → MG → Prop} {own : String} {lo : Lo} (hy : plainName y.cls = true) (ho : y.cls = own) (hlen : (lg_sl as).length ≤ maxL) (hlo : loA (lv_args 0 as) maxL = lo)
    (body : ∀ P : Pm, P.2.1 = l → Cx P Z cc own → (∀ (pc : Nat) (lo' : Lo) (v : Int32) (g' : MG), decode cc pc = .ok (.ireturn, 1) → post v g' → V P rm Z lo' pc [.int v] g' rm.cells rm.slots) → V P rm Z lo 0 [] g 0 0) : MI l y cc maxL (some .int) rm Z as g post := by
  refine Met.ofW (cc := cc) (maxL := maxL) (ret := some .int) hy rfl ?_
  intro p e s m args below meth c s₁ B hml hv
  obtain ⟨rfl, hw, hK, hz, hst⟩ := hv
  have hts : ∀ w ∈ wsG, w.before as.toArray s = true := fun w h => atoms_spec (ws := wz y cc maxL (some .int)) B.pre w (List.mem_cons_of_mem _ h)
  have hown : s.vm.findClass own = some m.cls := ho ▸ findClass_of_methodNamed B.named
  have hl := lv_entry as hlen
  rw [lg_entry_eq]
  generalize (lg_sl as ++ List.replicate (maxL - (lg_sl as).length) Slot.unset).toArray = ls at hl ⊢
  refine body (p, l, e, s, m, as.toArray, below, meth, c, _, maxL) rfl ⟨B.exec, B.bytes, hml, hown, hts, hK, hz, B.notSynchronized, hst⟩ ?_ ls s.heap [] (hlo ▸ Lv_of hl) hw va_S.rf
  intro pc lo' v g' hdg hp ls H locs hl hw' hS
  exact W.iret B.exec B.bytes B.returns (fun t ht hW => ⟨⟨v, g', rfl, hp, Wd_of hw' hK hz hst hS ht hW.alike⟩, hS.F ht⟩) hS.2.2 hdg
theorem ent_z {l : Launch} {y : MethodName} {cc : ByteArray} {maxL : Nat} {rm : Room} {Z : Zc} {as : List Value} {g : MG} {post : Int32 → MG → Prop} {own : String} {lo : Lo} (hy : plainName y.cls = true) (ho : y.cls = own) (hlen : (lg_sl as).length ≤ maxL) (hlo : loA (lv_args 0 as) maxL = lo)
    (body : ∀ P : Pm, P.2.1 = l → Cx P Z cc own → (∀ (pc : Nat) (lo' : Lo) (v : Int32) (g' : MG), decode cc pc = .ok (.ireturn, 1) → (v = 0 ∨ v = 1) → post v g' → V P rm Z lo' pc [.int v] g' rm.cells rm.slots) → V P rm Z lo 0 [] g 0 0) : MI l y cc maxL (some .boolean) rm Z as g post := by
  refine Met.ofW (cc := cc) (maxL := maxL) (ret := some .boolean) hy rfl ?_
  intro p e s m args below meth c s₁ B hml hv
  obtain ⟨rfl, hw, hK, hz, hst⟩ := hv
  have hts : ∀ w ∈ wsG, w.before as.toArray s = true := fun w h => atoms_spec (ws := wz y cc maxL (some .boolean)) B.pre w (List.mem_cons_of_mem _ h)
  have hown : s.vm.findClass own = some m.cls := ho ▸ findClass_of_methodNamed B.named
  have hl := lv_entry as hlen
  rw [lg_entry_eq]
  generalize (lg_sl as ++ List.replicate (maxL - (lg_sl as).length) Slot.unset).toArray = ls at hl ⊢
  refine body (p, l, e, s, m, as.toArray, below, meth, c, _, maxL) rfl ⟨B.exec, B.bytes, hml, hown, hts, hK, hz, B.notSynchronized, hst⟩ ?_ ls s.heap [] (hlo ▸ Lv_of hl) hw va_S.rf
  intro pc lo' v g' hdg hv hp ls H locs hl hw' hS
  exact W.zret B.exec B.bytes B.returns (by rcases hv with rfl | rfl <;> rfl) (fun t ht hW => ⟨⟨v, g', rfl, hp, Wd_of hw' hK hz hst hS ht hW.alike⟩, hS.F ht⟩) hS.2.2 hdg
theorem ent_v {l : Launch} {y : MethodName} {cc : ByteArray} {maxL : Nat} {rm : Room} {Z : Zc} {as : List Value} {g : MG} {post : MG → Prop} {own : String} {lo : Lo} (hy : plainName y.cls = true) (ho : y.cls = own) (hlen : (lg_sl as).length ≤ maxL) (hlo : loA (lv_args 0 as) maxL = lo)
    (body : ∀ P : Pm, P.2.1 = l → Cx P Z cc own → (∀ (pc : Nat) (lo' : Lo) (g' : MG), decode cc pc = .ok (.return_, 1) → post g' → V P rm Z lo' pc [] g' rm.cells rm.slots) → V P rm Z lo 0 [] g 0 0) : MV l y cc maxL rm Z as g post := by
  refine Met.ofW (cc := cc) (maxL := maxL) (ret := none) hy rfl ?_
  intro p e s m args below meth c s₁ B hml hv
  obtain ⟨rfl, hw, hK, hz, hst⟩ := hv
  have hts : ∀ w ∈ wsG, w.before as.toArray s = true := fun w h => atoms_spec (ws := wz y cc maxL none) B.pre w (List.mem_cons_of_mem _ h)
  have hown : s.vm.findClass own = some m.cls := ho ▸ findClass_of_methodNamed B.named
  have hl := lv_entry as hlen
  rw [lg_entry_eq]
  generalize (lg_sl as ++ List.replicate (maxL - (lg_sl as).length) Slot.unset).toArray = ls at hl ⊢
  refine body (p, l, e, s, m, as.toArray, below, meth, c, _, maxL) rfl ⟨B.exec, B.bytes, hml, hown, hts, hK, hz, B.notSynchronized, hst⟩ ?_ ls s.heap [] (hlo ▸ Lv_of hl) hw va_S.rf
  intro pc lo' g' hdg hp ls H locs hl hw' hS
  exact W.vret B.exec B.bytes B.returns (fun t ht hW => ⟨⟨g', rfl, hp, Wd_of hw' hK hz hst hS ht hW.alike⟩, hS.F ht⟩) hS.2.2 hdg
theorem gv {own C : String} {idx : Nat} {y : MethodName} {cc : ByteArray} {maxL : Nat} {ret : Option FieldType} (h1 : Cond.methodLink own idx y ∈ wsG) (h2 : Cond.instanceMethod y ∈ wsG) (h3 : Cond.selects C y y ∈ wsG) (h4 : Cond.initialized C ∈ wsG) (h5 : Cond.code y cc maxL ret ∈ wsG) : GoodIn wsG (wsV own idx C y (wz y cc maxL ret)) := by
  intro w hw
  have : w ∈ wsG := by
    simp only [wsV, List.mem_append, List.mem_cons, List.not_mem_nil, or_false] at hw
    rcases hw with (rfl | rfl | rfl | rfl) | rfl | hw
    · exact h1
    · exact h2
    · exact h3
    · exact h4
    · exact h5
    · exact hw
  exact ⟨this, good_all this⟩
theorem gs {own : String} {idx : Nat} {y : MethodName} {cc : ByteArray} {maxL : Nat} {ret : Option FieldType} (h1 : Cond.methodLink own idx y ∈ wsG) (h2 : Cond.static y ∈ wsG) (h4 : Cond.initialized own ∈ wsG) (h5 : Cond.code y cc maxL ret ∈ wsG) : GoodIn wsG (wsS own idx y (wz y cc maxL ret)) := by
  intro w hw
  have : w ∈ wsG := by
    simp only [wsS, List.mem_append, List.mem_cons, List.not_mem_nil, or_false] at hw
    rcases hw with (rfl | rfl | rfl) | rfl | hw
    · exact h1
    · exact h2
    · exact h4
    · exact h5
    · exact hw
  exact ⟨this, good_all this⟩
theorem Wd_fb {Z : Zc} {as : List Value} {g : MG} : FrameBlind (va_Pc as (fun U => Wd Z g U)) := fun a U g' mk h => ⟨h.1, Wd_blind (U := U) (U' := U.calling g' mk a) rfl (Vm.Alike.refl U.vm) h.2⟩
section VCALL
variable {P : Pm} {R : Room} {Z : Zc} {cc : ByteArray} {own : String} {lo : Lo} {pc : Nat} {rest st : List Value} {g : MG} {cs sl : Nat}
theorem v_callVi (C : Cx P Z cc own) {y : MethodName} {cc' : ByteArray} {maxL idx n k ci N : Nat} {ret : Option FieldType} {rm' : Room} {as : List Value} {post : Int32 → MG → Prop} {Cn : String} {T : u_T} {fs : List Value} (hM : MI P.2.1 y cc' maxL ret rm' Z (.ref (Z.ad k) :: as) g post) (hG : GoodIn wsG (wsV own idx Cn y (wz y cc' maxL ret)))
    (hd : y.cls = Cn ∧ y.cls ≠ "java/lang/invoke/MethodHandle" ∧ y.cls ≠ "java/lang/invoke/VarHandle" ∧ (parseMethodDescriptor y.desc).map (fun d => d.parameters.length) = some n) (hR : rm'.frames + 1 ≤ R.frames ∧ 8 + (maxL + 11) + rm'.locals ≤ R.locals) (hc : vwCl[ci]? = some (Cn, T, N)) (hk : cx Z.Y Z.ad Z.df g k = some (.inr (ci, fs))) (hn : as.length = n) (hst : st = as.reverse ++ .ref (Z.ad k) :: rest) (hr : (rest.map fun v => v.category).sum ≤ 8) (hdg : decode cc pc = .ok (.invokevirtual idx, 3)) (hf : cs + rm'.cells ≤ R.cells ∧ sl + rm'.slots ≤ R.slots)
    (kk : ∀ (r : Int32) (g' : MG), post r g' → V P R Z lo (pc + 3) (.int r :: rest) g' (cs + rm'.cells) (sl + rm'.slots)) : V P R Z lo pc st g cs sl := by
  obtain ⟨p, l, e, s, m, args, below, meth, c, Q, nL⟩ := P
  subst hst
  intro ls H locs hl hw hS
  have hP : va_P Z.D vwCl [(Z.ad k, .inr (ci, fs))] H := by
    intro i q hq
    rcases List.mem_singleton.mp (List.mem_of_getElem? hq) with rfl
    exact (hw.1 k _ hk).1
  refine va_calli (va_runV (As := as) (rest := rest) ⟨C.1, C.2.1, C.2.2.1, C.2.2.2.1, C.2.2.2.2.1⟩ hM (cwV n C.2.2.2.2.1 hG rfl rfl rfl hd hR) ⟨Wd_fb, va_recv C.2.2.2.2.2.1 hP hc (q0 := 0) rfl, fun U hU hW => ⟨rfl, Wd_of hw C.2.2.2.2.2.1 C.2.2.2.2.2.2.1 C.2.2.2.2.2.2.2.2 hS hU hW.alike⟩⟩ rfl hn hl.2.1 rfl (lv_room hr) hdg hf) hS (fun _ _ h => h) (fun _ h => h) (fun r u t H1 locs1 ht hvm hp hB hz1 hk1 hS1 => ?_)
  refine kk r u hp ls H1 locs1 hl ?_ hS1
  rw [← ht]; exact hB.1
theorem v_callVv (C : Cx P Z cc own) {y : MethodName} {cc' : ByteArray} {maxL idx n k ci N : Nat} {rm' : Room} {as : List Value} {post : MG → Prop} {Cn : String} {T : u_T} {fs : List Value} (hM : MV P.2.1 y cc' maxL rm' Z (.ref (Z.ad k) :: as) g post) (hG : GoodIn wsG (wsV own idx Cn y (wz y cc' maxL none)))
    (hd : y.cls = Cn ∧ y.cls ≠ "java/lang/invoke/MethodHandle" ∧ y.cls ≠ "java/lang/invoke/VarHandle" ∧ (parseMethodDescriptor y.desc).map (fun d => d.parameters.length) = some n) (hR : rm'.frames + 1 ≤ R.frames ∧ 8 + (maxL + 11) + rm'.locals ≤ R.locals) (hc : vwCl[ci]? = some (Cn, T, N)) (hk : cx Z.Y Z.ad Z.df g k = some (.inr (ci, fs))) (hn : as.length = n) (hst : st = as.reverse ++ .ref (Z.ad k) :: rest) (hr : (rest.map fun v => v.category).sum ≤ 8) (hdg : decode cc pc = .ok (.invokevirtual idx, 3)) (hf : cs + rm'.cells ≤ R.cells ∧ sl + rm'.slots ≤ R.slots)
    (kk : ∀ (g' : MG), post g' → V P R Z lo (pc + 3) rest g' (cs + rm'.cells) (sl + rm'.slots)) : V P R Z lo pc st g cs sl := by
  obtain ⟨p, l, e, s, m, args, below, meth, c, Q, nL⟩ := P
  subst hst
  intro ls H locs hl hw hS
  have hP : va_P Z.D vwCl [(Z.ad k, .inr (ci, fs))] H := by
    intro i q hq
    rcases List.mem_singleton.mp (List.mem_of_getElem? hq) with rfl
    exact (hw.1 k _ hk).1
  refine va_callv (va_runV (As := as) (rest := rest) ⟨C.1, C.2.1, C.2.2.1, C.2.2.2.1, C.2.2.2.2.1⟩ hM (cwV n C.2.2.2.2.1 hG rfl rfl rfl hd hR) ⟨Wd_fb, va_recv C.2.2.2.2.2.1 hP hc (q0 := 0) rfl, fun U hU hW => ⟨rfl, Wd_of hw C.2.2.2.2.2.1 C.2.2.2.2.2.2.1 C.2.2.2.2.2.2.2.2 hS hU hW.alike⟩⟩ rfl hn hl.2.1 rfl (lv_room hr) hdg hf) hS (fun _ _ h => h) (fun _ h => h) (fun u t H1 locs1 ht hvm hp hB hz1 hk1 hS1 => ?_)
  refine kk u hp ls H1 locs1 hl ?_ hS1
  rw [← ht]; exact hB.1
theorem v_callSi (C : Cx P Z cc own) {y : MethodName} {cc' : ByteArray} {maxL idx n : Nat} {ret : Option FieldType} {rm' : Room} {as : List Value} {post : Int32 → MG → Prop} (hM : MI P.2.1 y cc' maxL ret rm' Z as g post) (hG : GoodIn wsG (wsS own idx y (wz y cc' maxL ret)))
    (hd : y.cls = own ∧ y.cls ≠ "java/lang/invoke/MethodHandle" ∧ y.cls ≠ "java/lang/invoke/VarHandle" ∧ (parseMethodDescriptor y.desc).map (fun d => d.parameters.length) = some n) (hR : rm'.frames + 1 ≤ R.frames ∧ 8 + (maxL + 11) + rm'.locals ≤ R.locals) (hn : as.length = n) (hst : st = as.reverse ++ rest) (hr : (rest.map fun v => v.category).sum ≤ 8) (hdg : decode cc pc = .ok (.invokestatic idx, 3)) (hf : cs + rm'.cells ≤ R.cells ∧ sl + rm'.slots ≤ R.slots)
    (kk : ∀ (r : Int32) (g' : MG), post r g' → V P R Z lo (pc + 3) (.int r :: rest) g' (cs + rm'.cells) (sl + rm'.slots)) : V P R Z lo pc st g cs sl := by
  obtain ⟨p, l, e, s, m, args, below, meth, c, Q, nL⟩ := P
  subst hst
  intro ls H locs hl hw hS
  refine va_calli (va_runS (As := as) (rest := rest) ⟨C.1, C.2.1, C.2.2.1, C.2.2.2.1, C.2.2.2.2.1⟩ hM (cwS n C.2.2.2.2.1 hG rfl rfl rfl hd hR) ⟨Wd_fb, fun U hU hW => ⟨rfl, Wd_of hw C.2.2.2.2.2.1 C.2.2.2.2.2.2.1 C.2.2.2.2.2.2.2.2 hS hU hW.alike⟩⟩ rfl hn hl.2.1 rfl (lv_room hr) hdg hf) hS (fun _ _ h => h) (fun _ h => h) (fun r u t H1 locs1 ht hvm hp hB hz1 hk1 hS1 => ?_)
  refine kk r u hp ls H1 locs1 hl ?_ hS1
  rw [← ht]; exact hB.1
end VCALL
section VT
variable {P : Pm} {R : Room} {Z : Zc} {lo : Lo} {pc : Nat} {rest st : List Value} {g : MG} {cs sl : Nat}
theorem v_topi {x y : Int32} (h : x = y) (k : V P R Z lo pc (.int y :: rest) g cs sl) : V P R Z lo pc (.int x :: rest) g cs sl := by rw [h]; exact k
theorem v_lo {lo' : Lo} (h : lo = lo') (k : V P R Z lo' pc st g cs sl) : V P R Z lo pc st g cs sl := by rw [h]; exact k
theorem v_g {g' : MG} (h : g = g') (k : V P R Z lo pc st g' cs sl) : V P R Z lo pc st g cs sl := by rw [h]; exact k
end VT
-- PLAIN FACTS
theorem i_lt (a b : Int32) : a < b ↔ a.toInt < b.toInt := Int32.lt_iff_toInt_lt
theorem i_le (a b : Int32) : a ≤ b ↔ a.toInt ≤ b.toInt := Int32.le_iff_toInt_le
theorem i_eq (a b : Int32) : a = b ↔ a.toInt = b.toInt := Int32.toInt_inj.symm
theorem nI_mul (a b : Nat) : nI a * nI b = nI (a * b) := (Int32.ofNat_mul a b).symm
theorem nI_lit (n : Nat) : (OfNat.ofNat n : Int32) = nI n := rfl
theorem nI_10 (f k : Nat) : 10 * nI f + nI k = nI (10 * f + k) := by rw [show (10 : Int32) = nI 10 from rfl, nI_mul, nI_add]
theorem ti_lit (n : Nat) (h : n < 2 ^ 31) : (OfNat.ofNat n : Int32).toInt = n := nI_toInt h
theorem nI_div {a b : Nat} (ha : a < 2 ^ 31) (hb : b < 2 ^ 31) : nI a / nI b = nI (a / b) := by
  apply Int32.toInt_inj.mp
  have h1 : (nI a).toInt = a := nI_toInt ha
  have h2 : (nI b).toInt = b := nI_toInt hb
  have h3 : a / b < 2 ^ 31 := Nat.lt_of_le_of_lt (Nat.div_le_self a b) ha
  have e : (a : Int).tdiv (b : Int) = ((a / b : Nat) : Int) := (Int.ofNat_tdiv a b).symm
  rw [nI_toInt h3, Int32.toInt_div, h1, h2, e]
  generalize a / b = q at h3
  rw [Int.bmod_eq_of_le] <;> omega
theorem nI_sub {a b : Nat} (h : b ≤ a) : nI a - nI b = nI (a - b) := by
  have : nI (a - b) + nI b = nI a := by rw [nI_add]; congr 1; omega
  rw [← this, Int32.add_sub_cancel]
theorem nI_mod10 {a : Nat} (ha : a < 2 ^ 31) : nI a - nI a / 10 * 10 = nI (a % 10) := by
  rw [show (10 : Int32) = nI 10 from rfl, nI_div ha (by decide), nI_mul, nI_sub (by omega)]
  congr 1; omega
theorem nI_inj {a b : Nat} (ha : a < 2 ^ 31) (hb : b < 2 ^ 31) (h : nI a = nI b) : a = b := (nI_eq ha hb).mp h
theorem vp_i {a n : Nat} (h : a < n) (hn : n < 2 ^ 31) : vp_in (nI a) n := vp_in_nI h hn
theorem ti_add {x y : Int32} (h1 : -2147483648 ≤ x.toInt + y.toInt) (h2 : x.toInt + y.toInt < 2147483648) : (x + y).toInt = x.toInt + y.toInt := by
  rw [Int32.toInt_add, Int.bmod_eq_of_le] <;> omega
theorem ti_sub {x y : Int32} (h1 : -2147483648 ≤ x.toInt - y.toInt) (h2 : x.toInt - y.toInt < 2147483648) : (x - y).toInt = x.toInt - y.toInt := by
  rw [Int32.toInt_sub, Int.bmod_eq_of_le] <;> omega
def bI (b : Bool) : Int32 := if b then 1 else 0
theorem bI_0 {b : Bool} : bI b = 0 ↔ b = false := by cases b <;> decide
theorem bI_1 {b : Bool} : ¬ bI b = 0 ↔ b = true := by cases b <;> decide
theorem bI_t {b : Bool} (h : b = true) : (1 : Int32) = bI b := by subst h; rfl
theorem bI_f {b : Bool} (h : b = false) : (0 : Int32) = bI b := by subst h; rfl
theorem nI_z {n : Nat} (hn : n < 2 ^ 31) (h : nI n ≤ 0) : n = 0 := by
  rw [i_le, nI_toInt hn] at h
  have : (0 : Int32).toInt = 0 := rfl
  omega
theorem nI_p {n : Nat} (hn : n < 2 ^ 31) (h : ¬ nI n ≤ 0) : 0 < n := by
  rw [i_le, nI_toInt hn] at h
  have : (0 : Int32).toInt = 0 := rfl
  omega
section VR2
variable {P : Pm} {R : Room} {Z : Zc} {cc : ByteArray} {own : String} {lo : Lo} {pc : Nat} {rest : List Value} {g : MG} {cs sl : Nat}
theorem v_dup2 (C : Cx P Z cc own) {v w : Value} (hdg : decode cc pc = .ok (.dup2, 1)) (hv : v.category = 1) (hw0 : w.category = 1) (kk : V P R Z lo (pc + 1) (v :: w :: v :: w :: rest) g cs sl) : V P R Z lo pc (v :: w :: rest) g cs sl := by
  obtain ⟨p, l, e, s, m, args, below, meth, c, Q, nL⟩ := P
  exact fun ls H locs hl hw hS => lv_dup2_11 C.1 C.2.1 hdg hv hw0 (kk ls H locs hl hw hS)
theorem v_mmin (C : Cx P Z cc own) {idx : Nat} (h1 : Cond.methodLink own idx Lib.Math.min.name ∈ wsG) (h2 : Cond.static Lib.Math.min.name ∈ wsG) (h3 : Cond.initialized "java/lang/Math" ∈ wsG) (h4 : Cond.code Lib.Math.min.name Lib.Math.min.code 2 (some .int) ∈ wsG) (hf : 1 ≤ R.frames) (hlo : (rest.map fun v => v.category).sum + 13 ≤ R.locals) (hc : cs ≤ R.cells) (hs : sl ≤ R.slots) {x y : Int32} (hdg : decode cc pc = .ok (.invokestatic idx, 3)) (kk : V P R Z lo (pc + 3) (.int (if y < x then y else x) :: rest) g cs sl) : V P R Z lo pc (.int y :: .int x :: rest) g cs sl := by
  obtain ⟨p, l, e, s, m, args, below, meth, c, Q, nL⟩ := P
  exact fun ls H locs hl hw hS => va_mmin C.1 C.2.1 (C.2.2.1.trans hl.2.1.symm) C.2.2.2.1 (C.2.2.2.2.1 _ h1) (C.2.2.2.2.1 _ h2) (C.2.2.2.2.1 _ h3) (C.2.2.2.2.1 _ h4) hf hlo hc hs hdg (kk ls H locs hl hw hS)
theorem v_mmax (C : Cx P Z cc own) {idx : Nat} (h1 : Cond.methodLink own idx Lib.Math.max.name ∈ wsG) (h2 : Cond.static Lib.Math.max.name ∈ wsG) (h3 : Cond.initialized "java/lang/Math" ∈ wsG) (h4 : Cond.code Lib.Math.max.name Lib.Math.max.code 2 (some .int) ∈ wsG) (hf : 1 ≤ R.frames) (hlo : (rest.map fun v => v.category).sum + 13 ≤ R.locals) (hc : cs ≤ R.cells) (hs : sl ≤ R.slots) {x y : Int32} (hdg : decode cc pc = .ok (.invokestatic idx, 3)) (kk : V P R Z lo (pc + 3) (.int (if x < y then y else x) :: rest) g cs sl) : V P R Z lo pc (.int y :: .int x :: rest) g cs sl := by
  obtain ⟨p, l, e, s, m, args, below, meth, c, Q, nL⟩ := P
  exact fun ls H locs hl hw hS => va_mmax C.1 C.2.1 (C.2.2.1.trans hl.2.1.symm) C.2.2.2.1 (C.2.2.2.2.1 _ h1) (C.2.2.2.2.1 _ h2) (C.2.2.2.2.1 _ h3) (C.2.2.2.2.1 _ h4) hf hlo hc hs hdg (kk ls H locs hl hw hS)
end VR2
section VR3
variable {P : Pm} {R : Room} {Z : Zc} {cc : ByteArray} {own : String} {lo : Lo} {pc : Nat} {rest : List Value} {g : MG} {cs sl : Nat}
theorem v_ialdN (C : Cx P Z cc own) {k n a : Nat} (hk : cx Z.Y Z.ad Z.df g k = some (.inl (Z.Y.1, n, .inl (g k)))) (ha : a < n ∧ n < 2147483648) (hdg : decode cc pc = .ok (.iaload, 1)) (kk : V P R Z lo (pc + 1) (.int (g k a) :: rest) g cs sl) : V P R Z lo pc (.int (nI a) :: .ref (Z.ad k) :: rest) g cs sl := by
  refine v_iald C hk (vp_in_nI ha.1 ha.2) hdg ?_
  rw [iz_nI (by have := ha.1; have := ha.2; omega)]
  exact kk
theorem v_iastN (C : Cx P Z cc own) {k n a : Nat} (hk : ∀ g' : MG, (∀ q, q ≠ k → g' q = g q) → cx Z.Y Z.ad Z.df g' k = some (.inl (Z.Y.1, n, .inl (g' k)))) (hlk : lk k = false) (hx : ∀ i, i < 24 → k ≠ 200 + 10 * i) {x : Int32} (ha : a < n ∧ n < 2147483648) (hdg : decode cc pc = .ok (.iastore, 1)) (kk : V P R Z lo (pc + 1) rest (wr g k a x) cs sl) : V P R Z lo pc (.int x :: .int (nI a) :: .ref (Z.ad k) :: rest) g cs sl := by
  refine v_iast C hk hlk hx (vp_in_nI ha.1 ha.2) hdg ?_
  rw [iz_nI (by have := ha.1; have := ha.2; omega)]
  exact kk
end VR3
theorem nI_m1 {o : Nat} (h : o < 2 ^ 31) : ¬ nI o = -1 := by
  rw [i_eq, nI_toInt h]
  have : (-1 : Int32).toInt = -1 := rfl
  omega
theorem up_row {g1 : MG} {k : Nat} {f : Nat → Int32} {n p : Nat} (x : Int32) (h : ∀ l, l < n → g1 k l = f l) : ∀ l, l < n → wr g1 k p x k l = upd f p x l := by
  intro l hl
  unfold upd
  by_cases hp : l = p
  · rw [if_pos hp, hp, wr_same]
  · rw [if_neg hp, wr_ne _ _ _ _ (Or.inr hp)]
    exact h l hl
