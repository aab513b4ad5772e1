/-! WHAT THE START HOLDS: the Statement's words, in the walk's terms -/
section STA
variable {s : State} {args : Array Value}
theorem st_g (hts : ∀ w ∈ lw_tbl, w.before args s = true) : ∀ w ∈ wsG, w.before args s = true := fun w h => hts w (List.mem_filter.mp h).1
theorem tt1 {w : Cond} (i : Nat) (h : tables_1_1[i]? = some w) : w ∈ lw_tbl := List.mem_append_right _ (List.mem_append_left _ (List.mem_of_getElem? h))
theorem tt2 {w : Cond} (i : Nat) (h : tables_1_2[i]? = some w) : w ∈ lw_tbl := List.mem_append_right _ (List.mem_append_right _ (List.mem_append_left _ (List.mem_of_getElem? h)))
theorem tt3 {w : Cond} (i : Nat) (h : tables_1_3[i]? = some w) : w ∈ lw_tbl := List.mem_append_right _ (List.mem_append_right _ (List.mem_append_right _ (List.mem_append_left _ (List.mem_of_getElem? h))))
theorem tt4 {w : Cond} (i : Nat) (h : tables_1_4[i]? = some w) : w ∈ lw_tbl := List.mem_append_right _ (List.mem_append_right _ (List.mem_append_right _ (List.mem_append_right _ (List.mem_append_left _ (List.mem_of_getElem? h)))))
theorem tt5 {w : Cond} (i : Nat) (h : tables_1_5[i]? = some w) : w ∈ lw_tbl := List.mem_append_right _ (List.mem_append_right _ (List.mem_append_right _ (List.mem_append_right _ (List.mem_append_right _ (List.mem_of_getElem? h)))))
theorem st_cl (hts : ∀ w ∈ lw_tbl, w.before args s = true) : ∃ D : va_G, ∀ (c : Nat) (q : vw_C), vwCl[c]? = some q → u_Kn s q.1 q.2.1 q.2.2 (D.1 c) (D.2 c) := by
  have hg := st_g hts
  obtain ⟨c0, i0, k0⟩ := u_known (C := RJx4a65c) (T := TJx4a65c) (N := 3) (n := 3) hg inGL (hg _ (tg1 38 rfl rfl))
  obtain ⟨c1, i1, k1⟩ := u_known (C := RX0) (T := TX0) (N := 6) (n := 6) hg inG0 (hg _ (tg5 37 rfl rfl))
  obtain ⟨c2, i2, k2⟩ := u_known (C := RX1) (T := TX1) (N := 6) (n := 6) hg inG1 (hg _ (tg4 181 rfl rfl))
  obtain ⟨c3, i3, k3⟩ := u_known (C := RX2) (T := TX2) (N := 5) (n := 5) hg inG2 (hg _ (tg3 82 rfl rfl))
  obtain ⟨c4, i4, k4⟩ := u_known (C := RX3) (T := TX3) (N := 7) (n := 7) hg inG3 (hg _ (tg1 30 rfl rfl))
  obtain ⟨c5, i5, k5⟩ := u_known (C := RX4) (T := TX4) (N := 8) (n := 8) hg inG4 (hg _ (tg2 168 rfl rfl))
  obtain ⟨c6, i6, k6⟩ := u_known (C := RX5) (T := TX5) (N := 7) (n := 7) hg inG5 (hg _ (tg2 217 rfl rfl))
  obtain ⟨c7, i7, k7⟩ := u_known (C := RJ0) (T := TJ0) (N := 4) (n := 4) hg inGS (hg _ (tg4 93 rfl rfl))
  obtain ⟨c8, i8, k8⟩ := u_known (C := RJ4) (T := TJ4) (N := 4) (n := 4) hg inGB (hg _ (tg3 169 rfl rfl))
  refine ⟨(fun k => match k with | 0 => c0 | 1 => c1 | 2 => c2 | 3 => c3 | 4 => c4 | 5 => c5 | 6 => c6 | 7 => c7 | _ => c8, fun k => match k with | 0 => i0 | 1 => i1 | 2 => i2 | 3 => i3 | 4 => i4 | 5 => i5 | 6 => i6 | 7 => i7 | _ => i8), fun c q hq => ?_⟩
  match c, hq with
  | 0, hq => cases hq; exact k0
  | 1, hq => cases hq; exact k1
  | 2, hq => cases hq; exact k2
  | 3, hq => cases hq; exact k3
  | 4, hq => cases hq; exact k4
  | 5, hq => cases hq; exact k5
  | 6, hq => cases hq; exact k6
  | 7, hq => cases hq; exact k7
  | 8, hq => cases hq; exact k8
  | c + 9, hq => cases hq
theorem st_ty (hts : ∀ w ∈ lw_tbl, w.before args s = true) : ∃ Y : Yc, Y.m = m00 ∧ ∀ (k : Nat) (q : ClassId × FieldType), (tyY Y)[k]? = some q → ArrOfT s q.1 q.2 ∧ va_RA s q.1 q.2 := by
  obtain ⟨a, ka, pa, a1, a2, a3⟩ := Cond.arrayClass_spec (hts _ (tt1 88 rfl))
  obtain ⟨pb, b, kb, b1, b2, b3, b4, b5⟩ := Cond.arrayOver_spec (hts _ (tt3 156 rfl))
  obtain ⟨pc, c, kc, c1, c2, c3, c4, c5⟩ := arrayOverA_spec (hts _ (tt2 174 rfl))
  obtain ⟨pd, d, kd, d1, d2, d3, d4, d5⟩ := arrayOverA_spec (hts _ (tt5 2 rfl))
  obtain ⟨pe, e, ke, e1, e2, e3, e4, e5⟩ := Cond.arrayOver_spec (hts _ (tt3 75 rfl))
  obtain ⟨f, kf, pf, f1, f2, f3⟩ := Cond.arrayClass_spec (hts _ (tt1 168 rfl))
  refine ⟨(a, b, c, d, e, f, m00), rfl, fun k q hq => ?_⟩
  match k, hq with
  | 0, hq => cases hq; exact ⟨fun n z => ⟨fun k h => (by cases h), ka, a2, pa, a3⟩, a1⟩
  | 1, hq => cases hq; exact ⟨fun n z => ⟨fun k h => (by cases h), kb, b3, pb, b4⟩, kb, pb, b3, b4, b1, b5⟩
  | 2, hq => cases hq; exact ⟨fun n z => ⟨fun k h => (by cases h), kc, c3, pc, c4⟩, c5⟩
  | 3, hq => cases hq; exact ⟨fun n z => ⟨fun k h => (by cases h), kd, d3, pd, d4⟩, d5⟩
  | 4, hq => cases hq; exact ⟨fun n z => ⟨fun k h => (by cases h), ke, e3, pe, e4⟩, ke, pe, e3, e4, e1, e5⟩
  | 5, hq => cases hq; exact ⟨fun n z => ⟨fun k h => (by cases h), kf, f2, pf, f3⟩, f1⟩
  | k + 6, hq => cases hq
theorem st_eqi {t : Term} {z : Int32} (h : (Cond.eq t (.int z)).before args s = true) : t.eval args s none [] s = some (.int z) := by
  cases hv : t.eval args s none [] s with
  | none => simp [Cond.before, Cond.holds, Cond.value, hv] at h
  | some w =>
    have hz : (Term.int z).eval args s none [] s = some (.int z) := rfl
    simp only [Cond.before, Cond.holds, Cond.value, hv, hz] at h
    cases w <;> simp_all
def tmT : Term := .static "java/lang/Integer" "DigitTens" "[B"
def tmO : Term := .static "java/lang/Integer" "DigitOnes" "[B"
def tmE : Term := .string "PosterTypesLaw$Sim" 35
def tmV : Term := .field tmE "java/lang/String" "value" "[B"
def prL : List Cond := [.arrayOf (.static ALn DEn DEd) (.object "java/lang/Object"), .eq (.length (.static ALn DEn DEd)) (.int 0), .isRef (.static Bundle.tN "UNASSIGNED_STACK" Bundle.steD), .isRef (.static Bundle.tN "SUPPRESSED_SENTINEL" Bundle.listD), .eq (.static "java/lang/String" "COMPACT_STRINGS" "Z") (.int 1), .isRef (.static "jdk/internal/util/Preconditions" "SIOOBE_FORMATTER" "Ljava/util/function/BiFunction;"), .arrayOf tmT .byte, .eq (.length tmT) (.int 100), .arrayOf tmO .byte, .eq (.length tmO) (.int 100), .exactly tmE "java/lang/String", .eq (.field tmE "java/lang/String" "coder" "B") (.int 0), .arrayOf tmV .byte, .eq (.length tmV) (.int 0)] ++ ncL.map (fun q => .not (.castable q.1 q.2))
set_option maxRecDepth 100000 in
theorem prL_in : ∀ w ∈ prL, w ∈ flatC (Jvm.Cond.and given_1 narrow_1) := by decide +kernel
def prT9 : List Cond := (List.range 100).map (fun j => .eq (.elem tmT (.int (Int32.ofNat j))) (.int (Int32.ofNat (48 + j / 10))))
def prO9 : List Cond := (List.range 100).map (fun j => .eq (.elem tmO (.int (Int32.ofNat j))) (.int (Int32.ofNat (48 + j % 10))))
set_option maxRecDepth 100000 in
theorem prT_sl : ((flatC (Jvm.Cond.and given_1 narrow_1)).drop 121).take 100 = prT9 := by decide +kernel
theorem prT_in : ∀ w ∈ prT9, w ∈ flatC (Jvm.Cond.and given_1 narrow_1) := fun w h => List.mem_of_mem_drop (List.mem_of_mem_take (prT_sl ▸ h))
set_option maxRecDepth 100000 in
theorem prO_sl : ((flatC (Jvm.Cond.and given_1 narrow_1)).drop 18).take 100 = prO9 := by decide +kernel
theorem prO_in : ∀ w ∈ prO9, w ∈ flatC (Jvm.Cond.and given_1 narrow_1) := fun w h => List.mem_of_mem_drop (List.mem_of_mem_take (prO_sl ▸ h))
theorem st_pr (hgv : (Jvm.Cond.and given_1 narrow_1).before args s = true) : ∀ w ∈ prL, w.before args s = true := fun w h => flat_of_before _ hgv w (prL_in w h)
theorem st_hA : ∀ a : Nat, a < s.heap.size → ¬ A0 s.heap.size a := fun a h q => absurd (show s.heap.size ≤ a from q) (Nat.not_le.mpr h)
theorem st_sta (hts : ∀ w ∈ lw_tbl, w.before args s = true) (hgv : (Jvm.Cond.and given_1 narrow_1).before args s = true) : ∃ df, Sta s.heap.size df s s.heap := by
  have hs := st_pr hgv
  obtain ⟨t, ht, hT⟩ := va_Tof (N := 0) (f := fun _ => .null) (A := A0 s.heap.size) (by decide) (hs _ (List.mem_of_getElem? (i := 0) rfl)) (st_eqi (hs _ (List.mem_of_getElem? (i := 1) rfl))) (fun j hj => absurd hj (Nat.not_lt_zero j)) st_hA
  exact ⟨t, va_Zof (hts _ (tt1 50 rfl)) (hts _ (tt1 4 rfl)) ht st_hA, hT, vx_Zqof (hts _ (tt1 128 rfl)) (hts _ (tt1 7 rfl)) (hs _ (List.mem_of_getElem? (i := 2) rfl)) st_hA, vx_Zqof (hts _ (tt1 130 rfl)) (hts _ (tt1 7 rfl)) (hs _ (List.mem_of_getElem? (i := 3) rfl)) st_hA⟩
theorem st_b0 (hts : ∀ w ∈ lw_tbl, w.before args s = true) {w : Cond} (h : w ∈ lw_tbl) (ho : w.onTables = true) : w.before #[] s = true := va_tabs ho rfl (hts w h)
theorem st_sel (hts : ∀ w ∈ lw_tbl, w.before args s = true) : ∀ w ∈ wsSel, va_Nw w s := by
  intro w hw
  simp only [wsSel, List.mem_cons, List.not_mem_nil, or_false] at hw
  rcases hw with rfl | rfl | rfl
  · exact j_selP (args := #[]) (n := 4) (by decide +kernel) (st_b0 hts (tt3 169 rfl) rfl) (st_b0 hts (tt3 212 rfl) rfl) (st_b0 hts (tt3 213 rfl) rfl) (st_b0 hts (tt5 76 rfl) rfl)
  · exact j_selP (args := #[]) (n := 4) (by decide +kernel) (st_b0 hts (tt3 169 rfl) rfl) (st_b0 hts (tt4 30 rfl) rfl) (st_b0 hts (tt4 31 rfl) rfl) (st_b0 hts (tt5 78 rfl) rfl)
  · exact j_selP (args := #[]) (n := 4) (by decide +kernel) (st_b0 hts (tt3 169 rfl) rfl) (st_b0 hts (tt4 34 rfl) rfl) (st_b0 hts (tt4 35 rfl) rfl) (st_b0 hts (tt5 79 rfl) rfl)
theorem st_em (hts : ∀ w ∈ lw_tbl, w.before args s = true) (hgv : (Jvm.Cond.and given_1 narrow_1).before args s = true) : ∃ e, EmL s.heap.size e s s.heap := by
  have hs := st_pr hgv
  obtain ⟨c, i, k⟩ := u_known (C := RX5) (T := TX5) (N := 7) (n := 7) (st_g hts) inG5 (st_g hts _ (tg2 217 rfl rfl))
  have h1 := hts _ (tt3 199 rfl)
  obtain ⟨-, -, -, a, -, -, -, -, -, h2⟩ := Cond.stringRef_spec k.2.1 h1
  have h3 : tmE.eval args s none [] s = some (.ref a) := h2
  obtain ⟨b, hb, hT⟩ := va_Tof (tm := tmV) (N := 0) (f := fun _ => .int 0) (A := A0 s.heap.size) (by decide) (hs _ (List.mem_of_getElem? (i := 12) rfl)) (st_eqi (hs _ (List.mem_of_getElem? (i := 13) rfl))) (fun j hj => absurd hj (Nat.not_lt_zero j)) st_hA
  exact ⟨a, b, vk_R.of h1 h2, va_Oof (hs _ (List.mem_of_getElem? (i := 10) rfl)) h3 st_hA, vk_OFof (t := tmE) h3 (st_eqi (hs _ (List.mem_of_getElem? (i := 11) rfl))) st_hA, vk_OFof (t := tmE) h3 hb st_hA, hT, st_sel hts⟩
theorem st_staL (hts : ∀ w ∈ lw_tbl, w.before args s = true) (hgv : (Jvm.Cond.and given_1 narrow_1).before args s = true) : ∃ e, StaL (s.heap.size, e) s s.heap := by
  have hs := st_pr hgv
  obtain ⟨e, he⟩ := st_em hts hgv
  have htmT : ∀ j : Nat, j < 100 → (Term.elem tmT (.int (Int32.ofNat j))).eval args s none [] s = some (tensF j) := fun j hj => st_eqi (flat_of_before _ hgv _ (prT_in _ (List.mem_map.mpr ⟨j, List.mem_range.mpr hj, rfl⟩)))
  obtain ⟨ttmT, atmT, btmT⟩ := va_Tof (tm := tmT) (N := 100) (f := tensF) (A := A0 s.heap.size) (by decide) (hs _ (List.mem_of_getElem? (i := 6) rfl)) (st_eqi (hs _ (List.mem_of_getElem? (i := 7) rfl))) htmT st_hA
  have htmO : ∀ j : Nat, j < 100 → (Term.elem tmO (.int (Int32.ofNat j))).eval args s none [] s = some (onesF j) := fun j hj => st_eqi (flat_of_before _ hgv _ (prO_in _ (List.mem_map.mpr ⟨j, List.mem_range.mpr hj, rfl⟩)))
  obtain ⟨ttmO, atmO, btmO⟩ := va_Tof (tm := tmO) (N := 100) (f := onesF) (A := A0 s.heap.size) (by decide) (hs _ (List.mem_of_getElem? (i := 8) rfl)) (st_eqi (hs _ (List.mem_of_getElem? (i := 9) rfl))) htmO st_hA
  refine ⟨e, va_Zof (hts _ (tt3 178 rfl)) (hts _ (tt1 23 rfl)) (st_eqi (hs _ (List.mem_of_getElem? (i := 4) rfl))) st_hA, ⟨ttmT, va_Zof (hts _ (tt4 79 rfl)) (hts _ (tt1 27 rfl)) atmT st_hA, btmT⟩, ⟨ttmO, va_Zof (hts _ (tt4 77 rfl)) (hts _ (tt1 27 rfl)) atmO st_hA, btmO⟩, va_Zqof (hts _ (tt4 7 rfl)) (hts _ (tt1 18 rfl)) (hs _ (List.mem_of_getElem? (i := 5) rfl)) st_hA, he⟩
theorem wsN_in : ∀ w ∈ wsN, w ∈ lw_tbl := by
  intro w hw
  simp only [wsN, List.mem_cons, List.not_mem_nil, or_false] at hw
  rcases hw with rfl | rfl | rfl | rfl | rfl | rfl
  · exact (tt1 105 rfl)
  · exact (tt1 107 rfl)
  · exact (tt1 109 rfl)
  · exact (tt1 103 rfl)
  · exact (tt3 37 rfl)
  · exact (tt2 0 rfl)
theorem wsM_in : ∀ w ∈ wsM, w ∈ lw_tbl := by
  intro w hw
  simp only [wsM, List.mem_cons, List.not_mem_nil, or_false] at hw
  rcases hw with rfl | rfl | rfl
  · exact (tt5 88 rfl)
  · exact (tt5 90 rfl)
  · exact (tt5 93 rfl)
theorem wsNest_in : ∀ w ∈ wsNest, w ∈ lw_tbl := by
  intro w hw
  simp only [wsNest, List.mem_cons, List.not_mem_nil, or_false] at hw
  rcases hw with rfl | rfl
  · exact (tt3 30 rfl)
  · exact (tt4 238 rfl)
theorem wsM_ot : ∀ w ∈ wsM, w.onTables = true := by
  have h : wsM.all Cond.onTables = true := by decide +kernel
  exact List.all_eq_true.mp h
theorem wsNest_ot : ∀ w ∈ wsNest, w.onTables = true := by
  have h : wsNest.all Cond.onTables = true := by decide +kernel
  exact List.all_eq_true.mp h
set_option maxRecDepth 100000 in
theorem strL_in : ∀ q ∈ strL, Cond.stringRef "PosterTypes" q.1 q.2 ∈ tables_1 := by decide +kernel
theorem st_A (hts : ∀ w ∈ lw_tbl, w.before args s = true) (hgv : (Jvm.Cond.and given_1 narrow_1).before args s = true) : StrA s := by
  have hs := st_pr hgv
  obtain ⟨c, i, k⟩ := u_known (C := RX3) (T := TX3) (N := 7) (n := 7) (st_g hts) inG3 (st_g hts _ (tg1 30 rfl rfl))
  refine ⟨⟨fun w hw => va_tabs (wsN_ot w hw) rfl (hts w (wsN_in w hw)), fun q hq => ?_⟩, ⟨fun w hw => va_Nw.of (wsM_ot w hw) (hts w (wsM_in w hw)), hts _ (tt3 156 rfl)⟩, fun q hq => va_Nc.of (hs _ (List.mem_append_right _ (List.mem_map.mpr ⟨q, hq, rfl⟩)))⟩
  have h1 := hts _ (List.mem_append_right _ (strL_in q hq))
  obtain ⟨-, -, -, a, -, -, -, -, -, h2⟩ := Cond.stringRef_spec k.2.1 h1
  exact ⟨a, vk_R.of h1 h2⟩
theorem st_L (hts : ∀ w ∈ lw_tbl, w.before args s = true) : StrL s := ⟨va_Nw.of rfl (hts _ (tt2 224 rfl)), hts _ (tt3 75 rfl), hts _ (tt2 174 rfl), hts _ (tt5 2 rfl), fun w hw => va_Nw.of (wsNest_ot w hw) (hts w (wsNest_in w hw))⟩
end STA
