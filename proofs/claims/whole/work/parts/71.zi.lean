/-! THE LAW ITSELF: its rows -/
def CxX (P : Pm) (b L : Nat) (xs : Nat → Int32) : Prop := match P with
  | (_, _, _, s, _, _, _, _, _, _, _) => va_X b L xs s s.heap ∧ b < s.heap.size
theorem gsw {own : String} {idx : Nat} {y : MethodName} {cc : ByteArray} {maxL : Nat} {ret : Option FieldType} {hh : List (Nat × Nat × Nat × Nat)} (h1 : Cond.methodLink own idx y ∈ wsG) (h2 : Cond.static y ∈ wsG) (h4 : Cond.initialized y.cls ∈ wsG) (h5 : Cond.codeWith y cc maxL ret hh ∈ wsG) : GoodIn wsG (va_wsS own idx y (Cond.codeWith y cc maxL ret hh :: wsG)) := by
  intro w hw
  have : w ∈ wsG := by
    simp only [va_wsS, List.mem_append, List.mem_cons, List.not_mem_nil, or_false] at hw
    rcases hw with (rfl | rfl | rfl) | rfl | hw
    · exact h1
    · exact h2
    · exact h4
    · exact h5
    · exact hw
  exact ⟨this, good_all this⟩
theorem Wa_fb {Z : Zc} {as : List Value} {g : MG} : FrameBlind (va_Pc as (fun U => Wd Z g U ∧ StrA U)) := fun a U g' mk h => ⟨h.1, Wd_blind (U := U) (U' := U.calling g' mk a) rfl (Vm.Alike.refl U.vm) h.2.1, StrA.same (u := U) rfl h.2.2⟩
theorem Lv.weak {ls : Array Slot} {nL : Nat} {lo lo' : Lo} (h : Lv ls nL lo) (hlen : lo'.length ≤ lo.length) (hw : ∀ (i : Nat) (v : Value), lo'[i]? = some (some v) → lo[i]? = some (some v)) : Lv ls nL lo' :=
  ⟨Nat.le_trans hlen h.1, h.2.1, h.2.2.1, fun q hq => h.2.2.2 q (by obtain ⟨i, v⟩ := q; exact asc_mem.mpr (hw i v (asc_mem.mp hq)))⟩
section VLR
variable {P : Pm} {R : Room} {Z : Zc} {cc : ByteArray} {own : String} {lo : Lo} {pc : Nat} {rest st : List Value} {g : MG} {cs sl : Nat}
theorem v_lw {lo' : Lo} (hlen : lo'.length ≤ lo.length) (hw : ∀ (i : Nat) (v : Value), lo'[i]? = some (some v) → lo[i]? = some (some v)) (kk : V P R Z lo' pc st g cs sl) : V P R Z lo pc st g cs sl := by
  obtain ⟨p, l, e, s, m, args, below, meth, c, Q, nL⟩ := P
  exact fun ls H locs hl hw' hS => kk ls H locs (hl.weak hlen hw) hw' hS
theorem v_sld (C : Cx P Z cc own) {b L a : Nat} {xs : Nat → Int32} (hX : CxX P b L xs) (hz : b < Z.z) (ha : a < L ∧ L < 2147483648) (hdg : decode cc pc = .ok (.iaload, 1)) (kk : V P R Z lo (pc + 1) (.int (xs a) :: rest) g cs sl) : V P R Z lo pc (.int (nI a) :: .ref b :: rest) g cs sl := by
  obtain ⟨p, l, e, s, m, args, below, meth, c, Q, nL⟩ := P
  intro ls H locs hl hw hS
  refine va_sld C.1 C.2.1 hX.1 hX.2 (fun q => absurd (show Z.z ≤ b from q) (by omega)) hS (vp_in_nI ha.1 ha.2) hdg ?_
  rw [show (nI a).toNatClampNeg = a from iz_nI (by have := ha.1; have := ha.2; omega)]
  exact kk ls H locs hl hw hS
theorem v_slen (C : Cx P Z cc own) {b L : Nat} {xs : Nat → Int32} (hX : CxX P b L xs) (hz : b < Z.z) (hdg : decode cc pc = .ok (.arraylength, 1)) (kk : V P R Z lo (pc + 1) (.int (nI L) :: rest) g cs sl) : V P R Z lo pc (.ref b :: rest) g cs sl := by
  obtain ⟨p, l, e, s, m, args, below, meth, c, Q, nL⟩ := P
  intro ls H locs hl hw hS
  exact va_slen C.1 C.2.1 hX.1 hX.2 (fun q => absurd (show Z.z ≤ b from q) (by omega)) hS hdg (kk ls H locs hl hw hS)
theorem v_iand (C : Cx P Z cc own) {x y : Int32} (hdg : decode cc pc = .ok (.iand, 1)) (kk : V P R Z lo (pc + 1) (.int (x &&& y) :: rest) g cs sl) : V P R Z lo pc (.int y :: .int x :: rest) g cs sl := by
  obtain ⟨p, l, e, s, m, args, below, meth, c, Q, nL⟩ := P
  exact fun ls H locs hl hw hS => lv_iand C.1 C.2.1 hdg (kk ls H locs hl hw hS)
theorem v_lald0 (C : Cx P Z cc own) (hdg : decode cc pc = .ok (.laload, 1)) (kk : V P R Z lo (pc + 1) (.long (g 500 0).toInt64 :: rest) g cs sl) : V P R Z lo pc (.int 0 :: .ref (Z.ad 500) :: rest) g cs sl := by
  obtain ⟨p, l, e, s, m, args, below, meth, c, Q, nL⟩ := P
  intro ls H locs hl hw hS
  have hP : va_P Z.D vwCl [(Z.ad 500, .inl (Z.Y.2.2, 1, .inr (.inl (fun i => (g 500 i).toInt64))))] H := by
    intro i q hq
    rcases List.mem_singleton.mp (List.mem_of_getElem? hq) with rfl
    exact (hw.1 500 _ cx_out).1
  exact va_lald C.1 C.2.1 C.2.2.2.2.2.1 hP 0 2 rfl rfl (vp_in_nI (n := 0) (N := 1) (by decide) (by decide)) hdg (kk ls H locs hl hw hS)
theorem v_lcmp (C : Cx P Z cc own) {x y : Int64} (hdg : decode cc pc = .ok (.lcmp, 1)) (kk : V P R Z lo (pc + 1) (.int (lg_cmp x y) :: rest) g cs sl) : V P R Z lo pc (.long y :: .long x :: rest) g cs sl := by
  obtain ⟨p, l, e, s, m, args, below, meth, c, Q, nL⟩ := P
  exact fun ls H locs hl hw hS => W.lcmp C.1 C.2.1 hdg (kk ls H locs hl hw hS)
theorem v_dload (C : Cx P Z cc own) {i : Nat} {x : UInt64} (hdg : decode cc pc = .ok (.dload i, 2)) (hl0 : lo[i]? = some (some (.double x))) (kk : V P R Z lo (pc + 2) (.double x :: rest) g cs sl) : V P R Z lo pc rest g cs sl := by
  obtain ⟨p, l, e, s, m, args, below, meth, c, Q, nL⟩ := P
  exact fun ls H locs hl hw hS => lv_dload C.1 C.2.1 hdg (hl.at hl0) (kk ls H locs hl hw hS)
theorem v_dstore (C : Cx P Z cc own) {i : Nat} {x : UInt64} {lo' : Lo} (hdg : decode cc pc = .ok (.dstore i, 2)) (hlt : i + 1 < lo.length) (hck : ck1 lo i = true) (he : (lo.set i (some (.double x))).set (i + 1) none = lo') (kk : V P R Z lo' (pc + 2) rest g cs sl) : V P R Z lo pc (.double x :: rest) g cs sl := by
  obtain ⟨p, l, e, s, m, args, below, meth, c, Q, nL⟩ := P
  subst he
  exact fun ls H locs hl hw hS => lv_dstore C.1 C.2.1 hdg hl.2 (Nat.lt_of_lt_of_le hlt hl.1) rfl (fun ls' h' => kk ls' H locs (Lv.st2 hl.1 hlt hck h') hw hS)
theorem v_dcmp (C : Cx P Z cc own) {x y : UInt64} {op : CmpOp} (hdg : decode cc pc = .ok (.dcmp op, 1)) (kk : V P R Z lo (pc + 1) (.int (cmpValue (FP.dcmp x y) op) :: rest) g cs sl) : V P R Z lo pc (.double y :: .double x :: rest) g cs sl := by
  obtain ⟨p, l, e, s, m, args, below, meth, c, Q, nL⟩ := P
  exact fun ls H locs hl hw hS => lv_dcmp C.1 C.2.1 hdg (kk ls H locs hl hw hS)
theorem v_callVd (C : Cx P Z cc own) {y : MethodName} {cc' : ByteArray} {maxL idx n k ci N : Nat} {rm' : Room} {as : List Value} {post : UInt64 → MG → Prop} {Cn : String} {T : u_T} {fs : List Value} (hM : MDb P.2.1 y cc' maxL rm' Z (.ref (Z.ad k) :: as) g post) (hG : GoodIn wsG (wsV own idx Cn y (wz y cc' maxL (some .double))))
    (hd : y.cls = Cn ∧ y.cls ≠ "java/lang/invoke/MethodHandle" ∧ y.cls ≠ "java/lang/invoke/VarHandle" ∧ (parseMethodDescriptor y.desc).map (fun d => d.parameters.length) = some n) (hR : rm'.frames + 1 ≤ R.frames ∧ 8 + (maxL + 11) + rm'.locals ≤ R.locals) (hc : vwCl[ci]? = some (Cn, T, N)) (hk : cx Z.Y Z.ad Z.df g k = some (.inr (ci, fs))) (hn : as.length = n) (hst : st = as.reverse ++ .ref (Z.ad k) :: rest) (hr : (rest.map fun v => v.category).sum ≤ 8) (hdg : decode cc pc = .ok (.invokevirtual idx, 3)) (hf : cs + rm'.cells ≤ R.cells ∧ sl + rm'.slots ≤ R.slots)
    (kk : ∀ (r : UInt64) (g' : MG), post r g' → V P R Z lo (pc + 3) (.double r :: rest) g' (cs + rm'.cells) (sl + rm'.slots)) : V P R Z lo pc st g cs sl := by
  obtain ⟨p, l, e, s, m, args, below, meth, c, Q, nL⟩ := P
  subst hst
  intro ls H locs hl hw hS
  have hP : va_P Z.D vwCl [(Z.ad k, .inr (ci, fs))] H := by
    intro i q hq
    rcases List.mem_singleton.mp (List.mem_of_getElem? hq) with rfl
    exact (hw.1 k _ hk).1
  refine va_calld (va_runV (As := as) (rest := rest) ⟨C.1, C.2.1, C.2.2.1, C.2.2.2.1, C.2.2.2.2.1⟩ hM (cwV n C.2.2.2.2.1 hG rfl rfl rfl hd hR) ⟨Wd_fb, va_recv C.2.2.2.2.2.1 hP hc (q0 := 0) rfl, fun U hU hW => ⟨rfl, Wd_of hw C.2.2.2.2.2.1 C.2.2.2.2.2.2.1 C.2.2.2.2.2.2.2.2 hS hU hW.alike⟩⟩ rfl hn hl.2.1 rfl (lv_room hr) hdg hf) hS (fun _ _ h => h) (fun _ h => h) (fun r u t H1 locs1 ht hvm hp hB hz1 hk1 hS1 => ?_)
  refine kk r u hp ls H1 locs1 hl ?_ hS1
  rw [← ht]; exact hB.1
/-- a call of the law's own method, where what is thrown is caught -/
theorem v_callW (C : Cx P Z cc own) (hS9 : CxS P) {y : MethodName} {cc' : ByteArray} {maxL idx n : Nat} {hh : List (Nat × Nat × Nat × Nat)} {rm' : Room} {as : List Value} {post : Int32 → (Nat → Nat) × MG → Prop} (hM : MW P.2.1 y cc' maxL hh rm' Z as g post) (hG : GoodIn wsG (va_wsS own idx y (Cond.codeWith y cc' maxL (some .int) hh :: wsG)))
    (hd : y.cls ≠ "java/lang/invoke/MethodHandle" ∧ y.cls ≠ "java/lang/invoke/VarHandle" ∧ (parseMethodDescriptor y.desc).map (fun d => d.parameters.length) = some n) (hR : rm'.frames + 1 ≤ R.frames ∧ 8 + (maxL + 11) + rm'.locals ≤ R.locals) (hn : as.length = n) (hst : st = as.reverse ++ rest) (hr : (rest.map fun v => v.category).sum ≤ 8) (hdg : decode cc pc = .ok (.invokestatic idx, 3)) (hf : cs + rm'.cells ≤ R.cells ∧ sl + rm'.slots ≤ R.slots)
    (kk : ∀ (r : Int32) (ad' : Nat → Nat) (g' : MG), post r (ad', g') → V P R (Z.wa ad') lo (pc + 3) (.int r :: rest) g' (cs + rm'.cells) (sl + rm'.slots)) : V P R Z lo pc st g cs sl := by
  obtain ⟨p, l, e, s, m, args, below, meth, c, Q, nL⟩ := P
  subst hst
  intro ls H locs hl hw hS
  refine va_calli (vx_runSW (As := as) (rest := rest) ⟨C.1, C.2.1, C.2.2.1, C.2.2.2.1, C.2.2.2.2.1⟩ hM (vx_cwSW n C.2.2.2.2.1 hG rfl rfl rfl hd hR) ⟨Wa_fb, fun U hU hW => ⟨rfl, Wd_of hw C.2.2.2.2.2.1 C.2.2.2.2.2.2.1 C.2.2.2.2.2.2.2.2 hS hU hW.alike, hS9.warm hW⟩⟩ rfl hn hl.2.1 rfl (lv_room hr) hdg hf) hS (fun _ _ h => h) (fun _ h => h) (fun r u t H1 locs1 ht hvm hp hB hz1 hk1 hS1 => ?_)
  refine kk r u.1 u.2 hp ls H1 locs1 hl ?_ hS1
  rw [← ht]; exact hB.1
end VLR
/-- the law's locals at the loop's head -/
def loL (Z : Zc) (b n : Nat) (v5 v6 v7 v8 : Option Value) : Lo := [some (.ref b), some (.ref (Z.ad 30)), some (.ref (Z.ad 0)), some (.ref (Z.ad 500)), some (.int (nI (4 * n))), v5, v6, v7, v8]
theorem loL_wa {Z : Zc} {ad' : Nat → Nat} (h : adE Z ad') (b n : Nat) (v5 v6 v7 v8 : Option Value) : loL Z b n v5 v6 v7 v8 = loL (Z.wa ad') b n v5 v6 v7 v8 := by
  unfold loL
  rw [show (Z.wa ad').ad 30 = Z.ad 30 from h.1 30 (by decide), show (Z.wa ad').ad 0 = Z.ad 0 from h.1 0 (by decide), show (Z.wa ad').ad 500 = Z.ad 500 from h.2]
theorem loL_no {Z : Zc} {b n : Nat} {v5 v6 v7 v8 : Option Value} (i : Nat) (v : Value) (h : (loL Z b n none none none none)[i]? = some (some v)) : (loL Z b n v5 v6 v7 v8)[i]? = some (some v) := by
  unfold loL at h ⊢
  match i, h with
  | 0, h => exact h
  | 1, h => exact h
  | 2, h => exact h
  | 3, h => exact h
  | 4, h => exact h
  | 5, h => cases h
  | 6, h => cases h
  | 7, h => cases h
  | 8, h => cases h
  | i + 9, h => cases h
theorem ixL (n k : Nat) : nI (4 * n) + nI k = nI (4 * n + k) := nI_add _ _
theorem nI_z3 {cd : Nat} (h : cd ≤ 3) (hz : nI cd = 0) : cd = 0 := by
  match cd, h with
  | 0, _ => rfl
  | 1, _ => exact absurd hz (by decide)
  | 2, _ => exact absurd hz (by decide)
  | 3, _ => exact absurd hz (by decide)
theorem lcmp_eq (x : Int64) : lg_cmp x x = 0 := by
  unfold lg_cmp
  simp
theorem IvM.e26 {g a : MG} (h : IvM g) (e : E26 a g) : IvM a := IvM_eq h (by rw [e 0 (by decide)]) (by rw [e 0 (by decide)]) (fun k k1 k2 => e k (by omega))
