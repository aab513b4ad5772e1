/-! THE MODEL'S new T[n][k][m]: the outer array, then each of the n, with its k rows behind it -/
section M3
def m3_out (c : ClassId) (N h0 K : Nat) : Nat → Cell
  | 0 => { cls := c, slots := Array.replicate N .null, vm := .none }
  | i + 1 => (m3_out c N h0 K i).setSlot i (.ref (h0 + 1 + i * (K + 1)))
def m3_fill (s : State) (c c1 c2 : ClassId) (N K M : Nat) (dv : Value) : Nat → State
  | 0 => s.pushCell (m3_out c N s.heap.size K 0)
  | i + 1 => (Multi.fill (m3_fill s c c1 c2 N K M dv i) c1 c2 K M dv K).setCell s.heap.size (m3_out c N s.heap.size K (i + 1))
theorem m3_out_facts (c : ClassId) (N h0 K : Nat) : ∀ i, (m3_out c N h0 K i).cls = c ∧ (m3_out c N h0 K i).vm = .none ∧ (m3_out c N h0 K i).slots.size = N
  | 0 => ⟨rfl, rfl, by simp [m3_out]⟩
  | i + 1 => by
    obtain ⟨a, b, d⟩ := m3_out_facts c N h0 K i
    exact ⟨by simp [m3_out, Cell.setSlot, a], by simp [m3_out, Cell.setSlot, b], by simp [m3_out, Cell.setSlot, d]⟩
theorem m3_facts (s : State) (c c1 c2 : ClassId) (N K M : Nat) (dv : Value) : ∀ i, (m3_fill s c c1 c2 N K M dv i).heap.size = s.heap.size + 1 + i * (K + 1) ∧ (m3_fill s c c1 c2 N K M dv i).heap[s.heap.size]? = some (m3_out c N s.heap.size K i) ∧
    (m3_fill s c c1 c2 N K M dv i).vm = s.vm ∧ (m3_fill s c c1 c2 N K M dv i).slotsUsed = s.slotsUsed + N + i * (K + K * M)
  | 0 => ⟨by simp [m3_fill], by simp [m3_fill], rfl, by simp [m3_fill, m3_out]⟩
  | i + 1 => by
    obtain ⟨a, b, d, u⟩ := m3_facts s c c1 c2 N K M dv i
    obtain ⟨f1, f2, f3, f4⟩ := Multi.fill_facts (m3_fill s c c1 c2 N K M dv i) c1 c2 K M dv K
    have hlt : s.heap.size < (m3_fill s c c1 c2 N K M dv i).heap.size := by omega
    have hb' : (Multi.fill (m3_fill s c c1 c2 N K M dv i) c1 c2 K M dv K).heap[s.heap.size]? = some (m3_out c N s.heap.size K i) := by rw [Multi.fill_old _ _ _ _ _ _ hlt]; exact b
    have e1 : (i + 1) * (K + 1) = i * (K + 1) + (K + 1) := Nat.succ_mul _ _
    have e2 : (i + 1) * (K + K * M) = i * (K + K * M) + (K + K * M) := Nat.succ_mul _ _
    refine ⟨?_, State.heap_setCell_self hb', by simp [m3_fill, f3, d], ?_⟩
    · simp only [m3_fill, State.setCell]; simp [f1, a]; omega
    · simp [m3_fill, f4, u]; omega
theorem m3_setTop (s : State) (f : JFrame) (c c1 c2 : ClassId) (N K M : Nat) (dv : Value) : ∀ i, m3_fill (s.setTop f) c c1 c2 N K M dv i = (m3_fill s c c1 c2 N K M dv i).setTop f
  | 0 => rfl
  | i + 1 => by simp only [m3_fill, m3_setTop s f c c1 c2 N K M dv i, State.heap_setTop, Multi.fill_setTop, State.setCell_setTop]
theorem m3_old (s : State) (c c1 c2 : ClassId) (N K M : Nat) (dv : Value) {a : Addr} (ha : a < s.heap.size) : ∀ i, (m3_fill s c c1 c2 N K M dv i).heap[a]? = s.heap[a]?
  | 0 => State.heap_pushCell_of_lt _ _ ha
  | i + 1 => by
    have f1 := (m3_facts s c c1 c2 N K M dv i).1
    show ((Multi.fill (m3_fill s c c1 c2 N K M dv i) c1 c2 K M dv K).setCell s.heap.size _).heap[a]? = _
    rw [State.heap_setCell_other (Nat.ne_of_gt ha), Multi.fill_old (a := a) _ _ _ _ _ _ (Nat.lt_of_lt_of_le ha (by rw [f1]; omega))]
    exact m3_old s c c1 c2 N K M dv ha i
/-- the middle ones, and the rows -/
theorem m3_in (s : State) (c c1 c2 : ClassId) (N K M : Nat) (dv : Value) : ∀ i j, j < i → (m3_fill s c c1 c2 N K M dv i).heap[s.heap.size + 1 + j * (K + 1)]? = some (Multi.outerC c1 K (s.heap.size + 1 + j * (K + 1)) K) ∧ ∀ q, q < K → (m3_fill s c c1 c2 N K M dv i).heap[s.heap.size + 1 + j * (K + 1) + 1 + q]? = some (Multi.innerC c2 M dv)
  | 0, _, h => absurd h (Nat.not_lt_zero _)
  | i + 1, j, h => by
    have f1 := (m3_facts s c c1 c2 N K M dv i).1
    obtain ⟨g1, g2, g3, g4⟩ := Multi.fill_facts (m3_fill s c c1 c2 N K M dv i) c1 c2 K M dv K
    rcases Nat.lt_or_ge j i with hj | hj
    · have e1 : j * (K + 1) + (K + 1) ≤ i * (K + 1) := by rw [← Nat.succ_mul]; exact Nat.mul_le_mul_right _ hj
      obtain ⟨h1, h2⟩ := m3_in s c c1 c2 N K M dv i j hj
      refine ⟨?_, fun q hq => ?_⟩
      · show ((Multi.fill (m3_fill s c c1 c2 N K M dv i) c1 c2 K M dv K).setCell s.heap.size _).heap[_]? = _
        rw [State.heap_setCell_other (show s.heap.size ≠ s.heap.size + 1 + j * (K + 1) by omega), Multi.fill_old (a := s.heap.size + 1 + j * (K + 1)) _ _ _ _ _ _ (Nat.lt_of_lt_of_eq (show (s.heap.size + 1 + j * (K + 1) : Nat) < s.heap.size + 1 + i * (K + 1) by omega) f1.symm)]
        exact h1
      · show ((Multi.fill (m3_fill s c c1 c2 N K M dv i) c1 c2 K M dv K).setCell s.heap.size _).heap[_]? = _
        rw [State.heap_setCell_other (show s.heap.size ≠ s.heap.size + 1 + j * (K + 1) + 1 + q by omega), Multi.fill_old (a := s.heap.size + 1 + j * (K + 1) + 1 + q) _ _ _ _ _ _ (Nat.lt_of_lt_of_eq (show (s.heap.size + 1 + j * (K + 1) + 1 + q : Nat) < s.heap.size + 1 + i * (K + 1) by omega) f1.symm)]
        exact h2 q hq
    · have e : j = i := by omega
      subst e
      refine ⟨?_, fun q hq => ?_⟩
      · show ((Multi.fill (m3_fill s c c1 c2 N K M dv j) c1 c2 K M dv K).setCell s.heap.size _).heap[_]? = _
        rw [State.heap_setCell_other (show s.heap.size ≠ s.heap.size + 1 + j * (K + 1) by omega), ← f1]
        exact g2
      · show ((Multi.fill (m3_fill s c c1 c2 N K M dv j) c1 c2 K M dv K).setCell s.heap.size _).heap[_]? = _
        rw [State.heap_setCell_other (show s.heap.size ≠ s.heap.size + 1 + j * (K + 1) + 1 + q by omega), ← f1]
        exact Multi.fill_inner _ _ _ _ _ _ K q hq
theorem m3_slot (c : ClassId) (N h0 K : Nat) : ∀ i, m3_out c N h0 K i = arrV c N (fun j => va_rf (if j < i then some (h0 + 1 + j * (K + 1)) else none))
  | 0 => by
    show ({ cls := c, slots := Array.replicate N .null, vm := .none } : Cell) = _
    rw [arrV_new]
    refine congrArg (arrV c N) (funext fun j => ?_)
    simp [va_rf]
  | i + 1 => by
    show (m3_out c N h0 K i).setSlot i (.ref (h0 + 1 + i * (K + 1))) = _
    rw [m3_slot c N h0 K i, arrV_store]
    refine congrArg (arrV c N) (funext fun j => ?_)
    by_cases e : j = i
    · subst e
      simp [updV, va_rf]
    · by_cases h : j < i
      · simp [updV, e, h, Nat.lt_succ_of_lt h]
      · simp [updV, e, h, show ¬ j < i + 1 by omega]
section
variable {E : CtlPost} {e : Env} {d : Bool} {acts : List Action} {s : State}
theorem m3_make {c c1 c2 cc : ClassId} {k k1 k2 : Class} {t0 t1 type : FieldType} {n m q : Int32} (hk : s.vm.classes[c]? = some k) (hkind : k.kind = .array c1 t0) (href : t0.isReference = true)
    (hk1 : s.vm.classes[c1]? = some k1) (hkind1 : k1.kind = .array c2 t1) (href1 : t1.isReference = true)
    (hk2 : s.vm.classes[c2]? = some k2) (hkind2 : k2.kind = .array cc type) (hn : ¬ n < 0) (hm : ¬ m < 0) (hq0 : ¬ q < 0)
    (hl0 : ¬ n.toNatClampNeg > e.platform.arrayLengthLimit) (hh0 : ¬ n.toNatClampNeg * componentBytes t0 > e.platform.maxHeapBytes)
    (hl1 : ¬ m.toNatClampNeg > e.platform.arrayLengthLimit) (hh1 : ¬ m.toNatClampNeg * componentBytes t1 > e.platform.maxHeapBytes)
    (hl2 : ¬ q.toNatClampNeg > e.platform.arrayLengthLimit) (hh2 : ¬ q.toNatClampNeg * componentBytes type > e.platform.maxHeapBytes)
    (hdf : fits type (defaultValue type) = true) (hdd : (defaultValue type).isDefault = true)
    (hc : s.heap.size + 1 + n.toNatClampNeg * (m.toNatClampNeg + 1) ≤ e.platform.maxCells) (hs : s.slotsUsed + n.toNatClampNeg + n.toNatClampNeg * (m.toNatClampNeg + m.toNatClampNeg * q.toNatClampNeg) ≤ e.platform.maxSlots)
    {Q : Addr → Pre} (hq : ∀ d' acts', Q s.heap.size d' acts' (m3_fill s c c1 c2 n.toNatClampNeg m.toNatClampNeg q.toNatClampNeg (defaultValue type) n.toNatClampNeg)) :
    wp (multianewarray.make c [n, m, q]) Q E e d acts s := by
  have hfind : ([m, q].find? (· < 0)) = none := by simp [hm, hq0]
  rw [multianewarray.make]
  simp only [wp_bind', W.ite, hn, if_false, wp_pure', W.theClass, hk, hkind, Option.some.injEq, exists_eq_left']
  refine Multi.wp_newArray hk hkind hl0 hh0 (Multi.refFits href _ (Or.inl rfl)) rfl (by omega) (by have := Nat.zero_le (n.toNatClampNeg * (m.toNatClampNeg + m.toNatClampNeg * q.toNatClampNeg)); omega) ?_
  simp only [hfind]
  rw [ite_self, wp_bind', Std.Legacy.Range.forIn_eq_forIn_range']
  have hsz : ([:n.toNatClampNeg] : Std.Legacy.Range).size = n.toNatClampNeg := by simp [Std.Legacy.Range.size]
  rw [hsz]
  show wp (forIn (List.range' 0 n.toNatClampNeg 1) PUnit.unit _) _ E e d acts _
  refine wp_forIn_inv (fun rest s' => ∃ i, i ≤ n.toNatClampNeg ∧ rest = List.range' i (n.toNatClampNeg - i) ∧ s' = m3_fill s c c1 c2 n.toNatClampNeg m.toNatClampNeg q.toNatClampNeg (defaultValue type) i) _ _ ⟨0, Nat.zero_le _, rfl, rfl⟩ ?_ ?_
  · rintro x rest s' d' acts' Q' ⟨i, hi, hl, rfl⟩ hnext
    have hlt : i < n.toNatClampNeg := by
      rcases Nat.lt_or_ge i n.toNatClampNeg with h | h
      · exact h
      · rw [show n.toNatClampNeg - i = 0 from by omega] at hl; simp at hl
    obtain ⟨rfl, hrest⟩ : x = i ∧ rest = List.range' (i + 1) (n.toNatClampNeg - (i + 1)) := by
      rw [show n.toNatClampNeg - i = (n.toNatClampNeg - (i + 1)) + 1 from by omega, List.range'_succ] at hl
      exact ⟨(List.cons.inj hl).1, (List.cons.inj hl).2⟩
    obtain ⟨f1, f2, f3, f4⟩ := m3_facts s c c1 c2 n.toNatClampNeg m.toNatClampNeg q.toNatClampNeg (defaultValue type) x
    obtain ⟨o1, o2, o3⟩ := m3_out_facts c n.toNatClampNeg s.heap.size m.toNatClampNeg x
    have hmul : x * (m.toNatClampNeg + 1) + (m.toNatClampNeg + 1) ≤ n.toNatClampNeg * (m.toNatClampNeg + 1) := by
      rw [← Nat.succ_mul]; exact Nat.mul_le_mul_right _ hlt
    have hmul2 : x * (m.toNatClampNeg + m.toNatClampNeg * q.toNatClampNeg) + (m.toNatClampNeg + m.toNatClampNeg * q.toNatClampNeg) ≤ n.toNatClampNeg * (m.toNatClampNeg + m.toNatClampNeg * q.toNatClampNeg) := by
      rw [← Nat.succ_mul]; exact Nat.mul_le_mul_right _ hlt
    simp only [wp_bind']
    refine Multi.wp_make2 (by rw [f3]; exact hk1) hkind1 href1 (by rw [f3]; exact hk2) hkind2 hm hq0 hl1 hh1 hl2 hh2 hdf hdd (by rw [f1]; omega) (by rw [f4]; omega) (fun d2 acts2 => ?_)
    obtain ⟨g1, g2, g3, g4⟩ := Multi.fill_facts (m3_fill s c c1 c2 n.toNatClampNeg m.toNatClampNeg q.toNatClampNeg (defaultValue type) x) c1 c2 m.toNatClampNeg q.toNatClampNeg (defaultValue type) m.toNatClampNeg
    have hlt0 : s.heap.size < (m3_fill s c c1 c2 n.toNatClampNeg m.toNatClampNeg q.toNatClampNeg (defaultValue type) x).heap.size := by rw [f1]; omega
    simp only [wp_bind', W.writeLoc, wp_pure']
    refine ⟨m3_out c n.toNatClampNeg s.heap.size m.toNatClampNeg x, by rw [Multi.fill_old _ _ _ _ _ _ hlt0]; exact f2, by rw [o2]; simp, by rw [o3]; exact hlt, ?_, hnext _ _ _ ⟨x + 1, hlt, hrest, ?_⟩⟩
    · rw [o1, o2]
      simp [State.fitsSlot, State.slotType?, g3, f3, hk, hkind, Multi.refFits href _ (Or.inr ⟨_, rfl⟩)]
    · rw [f1]; rfl
  · rintro s' d' acts' ⟨i, hi, hl, rfl⟩
    have hiN : i = n.toNatClampNeg := by
      rcases Nat.lt_or_ge i n.toNatClampNeg with h | h
      · rw [show n.toNatClampNeg - i = (n.toNatClampNeg - (i + 1)) + 1 from by omega, List.range'_succ] at hl; cases hl
      · omega
    subst hiN
    simp only [wp_pure']
    exact hq _ _
end
end M3
