/-! WHAT THE START HOLDS: the Statement's words, in the walk's terms -/
section STA
variable {s : State} {args : Array Value}
theorem st_g (hts : ∀ w ∈ lw_tbl, w.before args s = true) : ∀ w ∈ wsG, w.before args s = true := fun w h => hts w (List.mem_filter.mp h).1
theorem tt1 {w : Cond} (i : Nat) (h : tables_1_1[i]? = some w) : w ∈ lw_tbl := List.mem_append_right _ (List.mem_append_left _ (List.mem_of_getElem? h))
theorem tt2 {w : Cond} (i : Nat) (h : tables_1_2[i]? = some w) : w ∈ lw_tbl := List.mem_append_right _ (List.mem_append_right _ (List.mem_append_left _ (List.mem_of_getElem? h)))
theorem tt4 {w : Cond} (i : Nat) (h : tables_1_4[i]? = some w) : w ∈ lw_tbl := List.mem_append_right _ (List.mem_append_right _ (List.mem_append_right _ (List.mem_append_right _ (List.mem_append_left _ (List.mem_of_getElem? h)))))
theorem st_cl (hts : ∀ w ∈ lw_tbl, w.before args s = true) : ∃ D : va_G, ∀ (c : Nat) (q : vw_C), vwCl[c]? = some q → u_Kn s q.1 q.2.1 q.2.2 (D.1 c) (D.2 c) := by
  have hg := st_g hts
  obtain ⟨c0, i0, k0⟩ := u_known (C := RJx4a65c) (T := TJx4a65c) (N := 3) (n := 3) hg inGL (hg _ (tg1 30 rfl rfl))
  obtain ⟨c1, i1, k1⟩ := u_known (C := RX0) (T := TX0) (N := 6) (n := 6) hg inG0 (hg _ (tg2 127 rfl rfl))
  obtain ⟨c2, i2, k2⟩ := u_known (C := RX1) (T := TX1) (N := 6) (n := 6) hg inG1 (hg _ (tg3 62 rfl rfl))
  obtain ⟨c3, i3, k3⟩ := u_known (C := RX2) (T := TX2) (N := 5) (n := 5) hg inG2 (hg _ (tg3 25 rfl rfl))
  obtain ⟨c4, i4, k4⟩ := u_known (C := RX3) (T := TX3) (N := 7) (n := 7) hg inG3 (hg _ (tg1 22 rfl rfl))
  obtain ⟨c5, i5, k5⟩ := u_known (C := RX4) (T := TX4) (N := 27) (n := 27) hg inG4 (hg _ (tg3 190 rfl rfl))
  refine ⟨(fun k => match k with | 0 => c0 | 1 => c1 | 2 => c2 | 3 => c3 | 4 => c4 | _ => c5, fun k => match k with | 0 => i0 | 1 => i1 | 2 => i2 | 3 => i3 | 4 => i4 | _ => i5), fun c q hq => ?_⟩
  match c, hq with
  | 0, hq => cases hq; exact k0
  | 1, hq => cases hq; exact k1
  | 2, hq => cases hq; exact k2
  | 3, hq => cases hq; exact k3
  | 4, hq => cases hq; exact k4
  | 5, hq => cases hq; exact k5
  | c + 6, hq => cases hq
theorem st_ty (hts : ∀ w ∈ lw_tbl, w.before args s = true) : ∃ Y : Yc, ∀ (k : Nat) (q : ClassId × FieldType), (tyY Y)[k]? = some q → ArrOfT s q.1 q.2 ∧ va_RA s q.1 q.2 := by
  obtain ⟨a, ka, pa, a1, a2, a3⟩ := Cond.arrayClass_spec (hts _ (tt1 80 rfl))
  obtain ⟨pb, b, kb, b1, b2, b3, b4, b5⟩ := Cond.arrayOver_spec (hts _ (tt2 204 rfl))
  obtain ⟨d, kd, pd, d1, d2, d3⟩ := Cond.arrayClass_spec (hts _ (tt4 221 rfl))
  refine ⟨(a, b, d), fun k q hq => ?_⟩
  match k, hq with
  | 0, hq => cases hq; exact ⟨fun n z => ⟨fun k h => (by cases h), ka, a2, pa, a3⟩, a1⟩
  | 1, hq => cases hq; exact ⟨fun n z => ⟨fun k h => (by cases h), kb, b3, pb, b4⟩, kb, pb, b3, b4, b1, b5⟩
  | 2, hq => cases hq; exact ⟨fun n z => ⟨fun k h => (by cases h), kd, d2, pd, d3⟩, d1⟩
  | k + 3, hq => cases hq
theorem st_eqi {t : Term} {z : Int32} (h : (Cond.eq t (.int z)).before args s = true) : t.eval args s none [] s = some (.int z) := by
  cases hv : t.eval args s none [] s with
  | none => simp [Cond.before, Cond.holds, Cond.value, hv] at h
  | some w =>
    have hz : (Term.int z).eval args s none [] s = some (.int z) := rfl
    simp only [Cond.before, Cond.holds, Cond.value, hv, hz] at h
    cases w <;> simp_all
def prL : List Cond := [.arrayOf (.static ALn DEn DEd) (.object "java/lang/Object"), .eq (.length (.static ALn DEn DEd)) (.int 0), .isRef (.static Bundle.tN "UNASSIGNED_STACK" Bundle.steD), .isRef (.static Bundle.tN "SUPPRESSED_SENTINEL" Bundle.listD)] ++ ncL.map (fun q => .not (.castable q.1 q.2))
set_option maxRecDepth 100000 in
theorem prL_in : ∀ w ∈ prL, w ∈ flatC (Jvm.Cond.and given_1 narrow_1) := by decide +kernel
theorem st_sta (hts : ∀ w ∈ lw_tbl, w.before args s = true) (hgv : (Jvm.Cond.and given_1 narrow_1).before args s = true) : ∃ df, Sta s.heap.size df s s.heap := by
  have hs : ∀ w ∈ prL, w.before args s = true := fun w h => flat_of_before _ hgv w (prL_in w h)
  have hA : ∀ a : Nat, a < s.heap.size → ¬ A0 s.heap.size a := fun a h q => absurd (show s.heap.size ≤ a from q) (Nat.not_le.mpr h)
  obtain ⟨t, ht, hT⟩ := va_Tof (N := 0) (f := fun _ => .null) (A := A0 s.heap.size) (by decide) (hs _ (List.mem_of_getElem? (i := 0) rfl)) (st_eqi (hs _ (List.mem_of_getElem? (i := 1) rfl))) (fun j hj => absurd hj (Nat.not_lt_zero j)) hA
  exact ⟨t, va_Zof (hts _ (tt1 42 rfl)) (hts _ (tt1 4 rfl)) ht hA, hT, vx_Zqof (hts _ (tt2 0 rfl)) (hts _ (tt1 7 rfl)) (hs _ (List.mem_of_getElem? (i := 2) rfl)) hA, vx_Zqof (hts _ (tt2 2 rfl)) (hts _ (tt1 7 rfl)) (hs _ (List.mem_of_getElem? (i := 3) rfl)) hA⟩
theorem wsN_in : ∀ w ∈ wsN, w ∈ lw_tbl := by
  intro w hw
  simp only [wsN, List.mem_cons, List.not_mem_nil, or_false] at hw
  rcases hw with rfl | rfl | rfl | rfl | rfl | rfl
  · exact tt1 217 rfl
  · exact tt1 219 rfl
  · exact tt1 221 rfl
  · exact tt1 215 rfl
  · exact tt2 97 rfl
  · exact tt2 113 rfl
theorem wsM_in : ∀ w ∈ wsM, w ∈ lw_tbl := by
  intro w hw
  simp only [wsM, List.mem_cons, List.not_mem_nil, or_false] at hw
  rcases hw with rfl | rfl | rfl
  · exact tt4 228 rfl
  · exact tt4 230 rfl
  · exact tt4 231 rfl
theorem wsM_ot : ∀ w ∈ wsM, w.onTables = true := by
  have h : wsM.all Cond.onTables = true := by decide +kernel
  exact List.all_eq_true.mp h
set_option maxRecDepth 100000 in
theorem strL_in : ∀ q ∈ strL, Cond.stringRef "PosterTypes" q.1 q.2 ∈ tables_1 := by decide +kernel
theorem st_A (hts : ∀ w ∈ lw_tbl, w.before args s = true) (hgv : (Jvm.Cond.and given_1 narrow_1).before args s = true) : StrA s := by
  have hs : ∀ w ∈ prL, w.before args s = true := fun w h => flat_of_before _ hgv w (prL_in w h)
  obtain ⟨c, i, k⟩ := u_known (C := RX3) (T := TX3) (N := 7) (n := 7) (st_g hts) inG3 (st_g hts _ (tg1 22 rfl rfl))
  refine ⟨⟨fun w hw => va_tabs (wsN_ot w hw) rfl (hts w (wsN_in w hw)), fun q hq => ?_⟩, ⟨fun w hw => va_Nw.of (wsM_ot w hw) (hts w (wsM_in w hw)), hts _ (tt2 204 rfl)⟩, fun q hq => va_Nc.of (hs _ (List.mem_append_right _ (List.mem_map.mpr ⟨q, hq, rfl⟩)))⟩
  have h1 := hts _ (List.mem_append_right _ (strL_in q hq))
  obtain ⟨-, -, -, a, -, -, -, -, -, h2⟩ := Cond.stringRef_spec k.2.1 h1
  exact ⟨a, vk_R.of h1 h2⟩
end STA
