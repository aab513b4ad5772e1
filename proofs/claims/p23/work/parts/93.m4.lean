/-! new T[n][k][m]: what stands behind it -/
section M4
variable {p : Program} {l : Launch} {e : Env} {R : Room} {s : State} {m : MethodId} {args : Array Value} {below : List Frame} {meth : Method} {c : Code} {T : State} {locs : List Loc} {cells slots : Nat}
theorem m3_stand (X : Stand p l e R s m args below meth c T locs cells slots) (c0 c1 c2 : ClassId) (N K M : Nat) (dv : Value) : ∀ i, ∃ J : List Loc, Stand p l e R s m args below meth c (m3_fill T c0 c1 c2 N K M dv i) (locs ++ J) (cells + 1 + i * (K + 1)) (slots + N + i * (K + K * M)) ∧ ∀ x ∈ J, T.heap.size ≤ x.base
  | 0 => by
    have h := X.pushed (m3_out c0 N T.heap.size K 0)
    rw [(m3_out_facts c0 N T.heap.size K 0).2.2] at h
    exact ⟨[], by simpa [m3_fill] using h, fun x hx => by simp at hx⟩
  | i + 1 => by
    obtain ⟨J, Xi, hJ⟩ := m3_stand X c0 c1 c2 N K M dv i
    have Xf := Xi.filled c1 c2 K M dv K
    obtain ⟨f1, f2, f3, f4⟩ := m3_facts T c0 c1 c2 N K M dv i
    have hlt : T.heap.size < (m3_fill T c0 c1 c2 N K M dv i).heap.size := by rw [f1]; omega
    have hcell : (Multi.fill (m3_fill T c0 c1 c2 N K M dv i) c1 c2 K M dv K).heap[T.heap.size]? = some (m3_out c0 N T.heap.size K i) := by rw [Multi.fill_old _ _ _ _ _ _ hlt]; exact f2
    have h := Xf.stored hcell i (.ref (T.heap.size + 1 + i * (K + 1)))
    refine ⟨J ++ ((List.range K).map fun j => (⟨(m3_fill T c0 c1 c2 N K M dv i).heap.size, j⟩ : Loc)) ++ [⟨T.heap.size, i⟩], ?_, fun x hx => ?_⟩
    · have e3 : slots + N + (i + 1) * (K + K * M) = slots + N + i * (K + K * M) + K + K * M := by rw [Nat.succ_mul]; omega
      have e2 : cells + 1 + (i + 1) * (K + 1) = cells + 1 + i * (K + 1) + 1 + K := by rw [Nat.succ_mul]; omega
      rw [e3, e2, ← List.append_assoc, ← List.append_assoc]
      exact h
    · simp only [List.mem_append, List.mem_map, List.mem_singleton] at hx
      rcases hx with (hx | ⟨j, -, rfl⟩) | rfl
      · exact hJ x hx
      · exact Nat.le_of_lt hlt
      · exact Nat.le_refl _
theorem m3_new (X : Stand p l e R s m args below meth c T locs cells slots) (hexec : p.tables.exec = Jvm.exec) {own : String} {index : Nat} {ty : FieldType}
    (hown : s.vm.findClass own = some m.cls) (hclink : (Cond.classLink own index ("[" ++ (FieldType.array (.array ty)).toString)).before args s = true)
    (hover0 : (Cond.arrayOver (.array (.array ty))).before args s = true) (hover : (Cond.arrayOver (.array ty)).before args s = true) (harr : (Cond.arrayClass ty).before args s = true)
    {g : JFrame} (hg : g.method = m) (hdg : decode c.code g.pc = .ok (.multianewarray index 3, 4)) {n k q : Int32} {rest : List Value} (hstack : g.stack = .int q :: .int k :: .int n :: rest)
    (hn : ¬ n < 0) (hk : ¬ k < 0) (hq : ¬ q < 0) (hb0 : n.toNatClampNeg * 4 ≤ 536870912) (hb1 : k.toNatClampNeg * 4 ≤ 536870912) (hb2 : q.toNatClampNeg * componentBytes ty ≤ 536870912) (hb3 : q.toNatClampNeg ≤ 536870912)
    (hdf : fits ty (defaultValue ty) = true) (hdd : (defaultValue ty).isDefault = true)
    (hcells : cells + (1 + n.toNatClampNeg * (k.toNatClampNeg + 1)) ≤ R.cells) (hslots : slots + (n.toNatClampNeg + n.toNatClampNeg * (k.toNatClampNeg + k.toNatClampNeg * q.toNatClampNeg)) ≤ R.slots) :
    ∃ (vm₁ : Vm) (cA c1 c2 : ClassId), s.WarmedH vm₁ ∧ s.vm.findClass ("[" ++ (FieldType.array (.array ty)).toString) = some cA ∧ s.vm.findClass ("[" ++ (FieldType.array ty).toString) = some c1 ∧ s.vm.findClass (FieldType.array ty).toString = some c2 ∧
      Stand p l e R s m args below meth c (m3_fill (T.setVm vm₁) cA c1 c2 n.toNatClampNeg k.toNatClampNeg q.toNatClampNeg (defaultValue ty) n.toNatClampNeg) locs (cells + 1 + n.toNatClampNeg * (k.toNatClampNeg + 1)) (slots + n.toNatClampNeg + n.toNatClampNeg * (k.toNatClampNeg + k.toNatClampNeg * q.toNatClampNeg)) ∧
      ∀ target, Steps p.tables e below ((m3_fill (T.setVm vm₁) cA c1 c2 n.toNatClampNeg k.toNatClampNeg q.toNatClampNeg (defaultValue ty) n.toNatClampNeg).setTop { g with pc := g.pc + 4, stack := .ref T.heap.size :: rest }) target →
        Steps p.tables e below (T.setTop g) target := by
  subst hg
  have hpl : e.platform.magicAccessors = ({} : Platform).magicAccessors := by rw [X.admits.platform]
  obtain ⟨comp0, cA, kA, hcomp0, hkA, hkindA, hnameA⟩ := Cond.arrayOver_specA hover0
  obtain ⟨comp1, c1, k1, hcomp1, hk1, hkind1, hname1⟩ := Cond.arrayOver_specA hover
  obtain ⟨comp2, k2, cc, hcomp2, hk2, hkind2⟩ := Cond.arrayClass_spec harr
  have e0 : comp0 = c1 := Option.some.inj (hcomp0.symm.trans hname1)
  subst e0
  have e1 : comp2 = comp1 := Option.some.inj (hcomp2.symm.trans hcomp1)
  subst e1
  obtain ⟨c0, hfc0, hcl⟩ := Cond.classLink_spec hown hclink e.platform hpl
  cases hnameA.symm.trans hfc0
  obtain ⟨hg₁, hwarm₁, hready₁⟩ := State.classEntry (e := e) X.warmed hcl
  generalize T.vm.noted g.method.cls index (.cls cA) = vm₁ at hg₁ hwarm₁ hready₁
  have hal : s.vm.Alike vm₁ := hwarm₁.alike
  obtain ⟨kA₁, hkA₁, heA⟩ := hal.2.2 _ _ hkA
  obtain ⟨k1₁, hk1₁, he1⟩ := hal.2.2 _ _ hk1
  obtain ⟨k2₁, hk2₁, he2⟩ := hal.2.2 _ _ hk2
  have hkindA₁ : kA₁.kind = .array comp0 (.array (.array ty)) := by rw [heA]; exact hkindA
  have hkind1₁ : k1₁.kind = .array comp2 (.array ty) := by rw [he1]; exact hkind1
  have hkind2₁ : k2₁.kind = .array cc ty := by rw [he2]; exact hkind2
  have X₁ := X.noted hwarm₁
  obtain ⟨hr1, hr2⟩ := X.roomAbove hcells hslots
  obtain ⟨J, XF, hJ⟩ := m3_stand X₁ cA comp0 comp2 n.toNatClampNeg k.toNatClampNeg q.toNatClampNeg (defaultValue ty) n.toNatClampNeg
  have XF := XF.dropFresh (fun x hx => Nat.le_trans X.heapGrown (hJ x hx))
  refine ⟨vm₁, cA, comp0, comp2, hwarm₁, hnameA, hname1, hcomp2, XF, fun target hrest => ?_⟩
  have hl0 : ¬ n.toNatClampNeg > e.platform.arrayLengthLimit := by rw [Launch.admits_arrayLengthLimit X.admits]; omega
  have hh0 : ¬ n.toNatClampNeg * componentBytes (.array (.array ty)) > e.platform.maxHeapBytes := by
    rw [Launch.admits_maxHeapBytes X.admits]; show ¬ n.toNatClampNeg * 4 > 536870912; omega
  have hl1 : ¬ k.toNatClampNeg > e.platform.arrayLengthLimit := by rw [Launch.admits_arrayLengthLimit X.admits]; omega
  have hh1 : ¬ k.toNatClampNeg * componentBytes (.array ty) > e.platform.maxHeapBytes := by
    rw [Launch.admits_maxHeapBytes X.admits]; show ¬ k.toNatClampNeg * 4 > 536870912; omega
  have hl2 : ¬ q.toNatClampNeg > e.platform.arrayLengthLimit := by rw [Launch.admits_arrayLengthLimit X.admits]; omega
  have hh2 : ¬ q.toNatClampNeg * componentBytes ty > e.platform.maxHeapBytes := by rw [Launch.admits_maxHeapBytes X.admits]; omega
  jvm_step X.here [hexec, hdg]
  simp only [multianewarray.sem, wp_bind', W.resolveClassAt_links (State.method?_setTop g X.here.top) hg₁]
  rw [W.popN, if_neg (by decide)]
  refine ⟨g, State.topJava?_setTop' (s := T.setVm vm₁) g X.here.top, [.int n, .int k, .int q], rest, rfl, hstack, ?_⟩
  simp only [List.mapM_cons, List.mapM_nil, wp_bind', wp_pure']
  refine m3_make (k := kA₁) (k1 := k1₁) (k2 := k2₁) (c1 := comp0) (c2 := comp2) (cc := cc) (t0 := .array (.array ty)) (t1 := .array ty) (type := ty) hkA₁ hkindA₁ rfl hk1₁ hkind1₁ rfl hk2₁ hkind2₁ hn hk hq hl0 hh0 hl1 hh1 hl2 hh2 hdf hdd (by show T.heap.size + 1 + _ ≤ _; omega) (by show T.slotsUsed + _ + _ ≤ _; omega) (fun d' acts' => ?_)
  have eS : ((T.setTop g).setVm vm₁).setTop { g with stack := rest } = (T.setVm vm₁).setTop { g with stack := rest } := by
    show ((T.setVm vm₁).setTop g).setTop _ = _
    rw [State.setTop_setTop]
  rw [eS, m3_setTop]
  simp only [wp_bind', W.mark, W.pushRef, State.topJava?_setTop' _ XF.here.top, Option.some.injEq, exists_eq_left', State.setTop_setTop, State.heap_setTop]
  intro acts
  simp [jvm, XF.here.top]
  exact hrest
end M4
