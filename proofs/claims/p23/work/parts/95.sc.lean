/-! THE SCRIPT: the law's own argument, that no one writes -/
abbrev Sc : Type := Nat × Nat × (Nat → Int32)
def ScP (S : Sc) (z : Nat) (U : State) : Prop := va_T .int S.1 S.2.1 (fun j => .int (S.2.2 j)) (A0 z) U U.heap ∧ S.2.1 < 2147483648
theorem ScP.same {S : Sc} {z : Nat} {u U : State} (h : u.vm = U.vm) (hh : u.heap = U.heap) (hs : ScP S z u) : ScP S z U := by
  refine ⟨?_, hs.2⟩
  rw [← hh]
  exact hs.1.moved (by rw [h]; exact Vm.Alike.refl U.vm)
def CxP (P : Pm) (S : Sc) (z : Nat) : Prop := match P with
  | (_, _, _, s, _, _, _, _, _, _, _) => ScP S z s
def MIs (l : Launch) (y : MethodName) (cc : ByteArray) (maxL : Nat) (ret : Option FieldType) (rm : Room) (Z : Zc) (S : Sc) (as : List Value) (g : MG) (post : Int32 → MG → Prop) : Prop := Met l y (wz y cc maxL ret) rm (va_Pc as (fun U => Wd Z g U ∧ ScP S Z.z U)) (va_Qi post (fun g' t => Wd Z g' t) (A0 Z.z)) rm.cells rm.slots (A0 Z.z)
theorem Ws_fb {Z : Zc} {S : Sc} {as : List Value} {g : MG} : FrameBlind (va_Pc as (fun U => Wd Z g U ∧ ScP S Z.z U)) := fun a U g' mk h => ⟨h.1, Wd_blind (U := U) (U' := U.calling g' mk a) rfl (Vm.Alike.refl U.vm) h.2.1, ScP.same (u := U) rfl rfl h.2.2⟩
theorem ent_is {l : Launch} {y : MethodName} {cc : ByteArray} {maxL : Nat} {rm : Room} {Z : Zc} {S : Sc} {as : List Value} {g : MG} {post : Int32 → MG → Prop} {own : String} {lo : Lo} (hy : plainName y.cls = true) (ho : y.cls = own) (hlen : (lg_sl as).length ≤ maxL) (hlo : loA (lv_args 0 as) maxL = lo)
    (body : ∀ P : Pm, P.2.1 = l → Cx P Z cc own → CxP P S Z.z → (∀ (pc : Nat) (lo' : Lo) (v : Int32) (g' : MG), decode cc pc = .ok (.ireturn, 1) → post v g' → V P rm Z lo' pc [.int v] g' rm.cells rm.slots) → V P rm Z lo 0 [] g 0 0) : MIs l y cc maxL (some .int) rm Z S as g post := by
  refine Met.ofW (cc := cc) (maxL := maxL) (ret := some .int) hy rfl ?_
  intro p e s m args below meth c s₁ B hml hv
  obtain ⟨rfl, ⟨hw, hK, hz, hst⟩, hS9⟩ := hv
  have hts : ∀ w ∈ wsG, w.before as.toArray s = true := fun w h => atoms_spec (ws := wz y cc maxL (some .int)) B.pre w (List.mem_cons_of_mem _ h)
  have hown : s.vm.findClass own = some m.cls := ho ▸ findClass_of_methodNamed B.named
  have hl := lv_entry as hlen
  rw [lg_entry_eq]
  generalize (lg_sl as ++ List.replicate (maxL - (lg_sl as).length) Slot.unset).toArray = ls at hl ⊢
  refine body (p, l, e, s, m, as.toArray, below, meth, c, _, maxL) rfl ⟨B.exec, B.bytes, hml, hown, hts, hK, hz, B.notSynchronized, hst⟩ hS9 ?_ ls s.heap [] (hlo ▸ Lv_of hl) hw va_S.rf
  intro pc lo' v g' hdg hp ls H locs hl hw' hS
  exact W.iret B.exec B.bytes B.returns (fun t ht hW => ⟨⟨v, g', rfl, hp, Wd_of hw' hK hz hst hS ht hW.alike⟩, hS.F ht⟩) hS.2.2 hdg
section SC
variable {P : Pm} {R : Room} {Z : Zc} {cc : ByteArray} {own : String} {lo : Lo} {pc : Nat} {rest st : List Value} {g : MG} {cs sl : Nat} {S : Sc}
theorem s_len (C : Cx P Z cc own) (hC : CxP P S Z.z) (hdg : decode cc pc = .ok (.arraylength, 1)) (kk : V P R Z lo (pc + 1) (.int (nI S.2.1) :: rest) g cs sl) : V P R Z lo pc (.ref S.1 :: rest) g cs sl := by
  obtain ⟨p, l, e, s, m, args, below, meth, c, Q, nL⟩ := P
  exact fun ls H locs hl hw hS => va_tlen (A := A0 Z.z) C.1 C.2.1 hC.1 hS rfl hdg (kk ls H locs hl hw hS)
theorem s_ld (C : Cx P Z cc own) (hC : CxP P S Z.z) {k : Nat} (hk : k < S.2.1) (hdg : decode cc pc = .ok (.iaload, 1)) (kk : V P R Z lo (pc + 1) (.int (S.2.2 k) :: rest) g cs sl) : V P R Z lo pc (.int (nI k) :: .ref S.1 :: rest) g cs sl := by
  obtain ⟨p, l, e, s, m, args, below, meth, c, Q, nL⟩ := P
  have hn : S.2.1 < 2147483648 := hC.2
  exact fun ls H locs hl hw hS => va_ti (A := A0 Z.z) C.1 C.2.1 hC.1 hS (vp_in_nI hk (by omega)) (v := .int (S.2.2 k)) (by rw [nI_clamp (by omega)]) hdg (kk ls H locs hl hw hS)
theorem s_call (C : Cx P Z cc own) (hC : CxP P S Z.z) {y : MethodName} {cc' : ByteArray} {maxL idx n : Nat} {ret : Option FieldType} {rm' : Room} {as : List Value} {post : Int32 → MG → Prop} (hM : MIs P.2.1 y cc' maxL ret rm' Z S as g post) (hG : GoodIn wsG (va_wsS own idx y (wz y cc' maxL ret)))
    (hd : y.cls ≠ "java/lang/invoke/MethodHandle" ∧ y.cls ≠ "java/lang/invoke/VarHandle" ∧ (parseMethodDescriptor y.desc).map (fun d => d.parameters.length) = some n) (hR : rm'.frames + 1 ≤ R.frames ∧ 8 + (maxL + 11) + rm'.locals ≤ R.locals) (hn : as.length = n) (hst : st = as.reverse ++ rest) (hr : (rest.map fun v => v.category).sum ≤ 8) (hdg : decode cc pc = .ok (.invokestatic idx, 3)) (hf : cs + rm'.cells ≤ R.cells ∧ sl + rm'.slots ≤ R.slots)
    (kk : ∀ (r : Int32) (g' : MG), post r g' → V P R Z lo (pc + 3) (.int r :: rest) g' (cs + rm'.cells) (sl + rm'.slots)) : V P R Z lo pc st g cs sl := by
  obtain ⟨p, l, e, s, m, args, below, meth, c, Q, nL⟩ := P
  subst hst
  intro ls H locs hl hw hS
  refine va_calli (va_runS (As := as) (rest := rest) ⟨C.1, C.2.1, C.2.2.1, C.2.2.2.1, C.2.2.2.2.1⟩ hM (va_cwS n C.2.2.2.2.1 hG rfl rfl rfl hd hR) ⟨Ws_fb, fun U hU hW => ⟨rfl, Wd_of hw C.2.2.2.2.2.1 C.2.2.2.2.2.2.1 C.2.2.2.2.2.2.2.2 hS hU hW.alike, ?_⟩⟩ rfl hn hl.2.1 rfl (lv_room hr) hdg hf) hS (fun _ _ h => h) (fun _ h => h) (fun r u t H1 locs1 ht hvm hp hB hz1 hk1 hS1 => ?_)
  · have hC : ScP S Z.z s := hC
    refine ⟨?_, hC.2⟩
    rw [hU]
    exact (hC.1.kept hS.2.1).moved hW.alike
  · refine kk r u hp ls H1 locs1 hl ?_ hS1
    rw [← ht]; exact hB.1
end SC
theorem l_cell (l : Launch) (Z : Zc) (S : Sc) (k : Nat) (hk : k < 1000) (g : MG) : MIs l yL_cell cL_cell 2 (some .int) (rmz 0 0 0 0) Z S [.ref S.1, .int (nI k)] g (fun r g' => g' = g) := by
  refine ent_is (own := RL) (lo := [some (.ref S.1), some (.int (nI k))]) (by decide) rfl (by simp [lg_sl, Value.category]) rfl (fun P hl C hC ret => ?_)
  have hn : S.2.1 < 2147483648 := by
    obtain ⟨p, l, e, s, m, args, below, meth, c, Q, nL⟩ := P
    exact hC.2
  refine v_iload_n C dL_cell_0 rfl rfl ?_
  refine v_aload_n C dL_cell_1 rfl rfl ?_
  refine s_len C hC dL_cell_2 ?_
  refine v_icmp_ge (tgt := 12) C dL_cell_3 (by decide) (fun h3 => ?_) (fun h3 => ?_)
  · refine v_ldc (v := 790386105) C (tg3 24 rfl rfl) dL_cell_12 ?_
    refine v_iload_n C dL_cell_14 rfl rfl ?_
    refine v_iconst C dL_cell_15 rfl ?_
    refine v_iadd C dL_cell_16 ?_
    refine v_imul C dL_cell_17 ?_
    exact ret _ _ _ _ dL_cell_18 rfl
  · refine v_aload_n C dL_cell_6 rfl rfl ?_
    refine v_iload_n C dL_cell_7 rfl rfl ?_
    refine s_ld C hC (Nat.lt_of_not_le fun q => h3 ((nI_leI (by omega) (by omega)).mpr q)) dL_cell_8 ?_
    refine v_goto (tgt := 18) C dL_cell_9 (by decide) ?_
    exact ret _ _ _ _ dL_cell_18 rfl
