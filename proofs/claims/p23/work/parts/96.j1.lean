/-! THE JDK'S TEXTS in the law's world: rules for their cells; a text's coder, its length -/
theorem ent_ln {l : Launch} {y : MethodName} {cc : ByteArray} {maxL : Nat} {rm : Room} {Z : Zc} {as : List Value} {ad : Nat → Nat} {m g : MG} {post : Int32 → (Nat → Nat) → MG → MG → Prop} {own : String} {lo : Lo} {ty : FieldType} (hy : plainName y.cls = true) (ho : y.cls = own) (hlen : (lg_sl as).length ≤ maxL) (hlo : loA (lv_args 0 as) maxL = lo)
    (body : ∀ P : Pm, P.2.1 = l → Cx P Z cc own → CxW P Z → (∀ (pc : Nat) (lo' : Lo) (v : Int32) (ad' : Nat → Nat) (m' g' : MG), decode cc pc = .ok (.ireturn, 1) → narrow ty (.int v) = .int v → post v ad' m' g' → V P rm (Z.wl ad' m') lo' pc [.int v] g' rm.cells rm.slots) → V P rm (Z.wl ad m) lo 0 [] g 0 0) : LMi l y cc maxL (some ty) rm Z as ad m g post := by
  refine Met.ofW (cc := cc) (maxL := maxL) (ret := some ty) hy rfl ?_
  intro p e s mm args below meth c s₁ B hml hv
  obtain ⟨rfl, ⟨hw, hK, hz, hst⟩, hW9⟩ := hv
  have hts : ∀ w ∈ wsG, w.before as.toArray s = true := fun w h => atoms_spec (ws := wz y cc maxL (some ty)) B.pre w (List.mem_cons_of_mem _ h)
  have hown : s.vm.findClass own = some mm.cls := ho ▸ findClass_of_methodNamed B.named
  have hl := lv_entry as hlen
  rw [lg_entry_eq]
  generalize (lg_sl as ++ List.replicate (maxL - (lg_sl as).length) Slot.unset).toArray = ls at hl ⊢
  refine body (p, l, e, s, mm, as.toArray, below, meth, c, _, maxL) rfl ⟨B.exec, B.bytes, hml, hown, hts, hK, hz, B.notSynchronized, hst⟩ hW9 ?_ ls s.heap [] (hlo ▸ Lv_of hl) hw va_S.rf
  intro pc lo' v ad' m' g' hdg hv hp ls H locs hl hw' hS
  exact W.zret B.exec B.bytes B.returns hv (fun t ht hW => ⟨⟨v, (ad', m', g'), rfl, hp, Wd_of (Z := Z.wl ad' m') hw' hK hz hst hS ht hW.alike⟩, hS.F ht⟩) hS.2.2 hdg
section LJ
variable {P : Pm} {R : Room} {Z : Zc} {cc : ByteArray} {own : String} {lo : Lo} {pc : Nat} {rest st : List Value} {g : MG} {cs sl : Nat} {ad : Nat → Nat} {m : MG} {T : Nat}
/-- COMPACT_STRINGS is on -/
theorem j_compact (C : Cx P Z cc own) (hW9 : CxW P Z) {index : Nat} (hlink : Cond.fieldLink own index "java/lang/String" "COMPACT_STRINGS" "Z" ∈ wsG) (hdg : decode cc pc = .ok (.getstatic index, 3)) (kk : V P R (Z.wl ad m) lo (pc + 3) (.int 1 :: st) g cs sl) : V P R (Z.wl ad m) lo pc st g cs sl := by
  obtain ⟨p, l, e, s, mm, args, below, meth, c, Q, nL⟩ := P
  have hW9 : StrA s ∧ StrL s ∧ StaL Z.2.2.2.2 s s.heap := hW9
  exact fun ls H locs hl hw hS => va_gets C.1 C.2.1 hW9.2.2.1 hS C.2.2.2.1 (C.2.2.2.2.1 _ hlink) (fun x h => h) hdg (kk ls H locs hl hw hS)
/-- a field, by the class that declares it -/
theorem j_get (C : Cx P Z cc own) {Cn : String} {Tt : u_T} {N ci index : Nat} (hin : ∀ w ∈ u_ws Cn Tt N, w ∈ wsG) (hc : vwCl[ci]? = some (Cn, Tt, N)) (j : Nat) (hj : j < N) (hlink : Cond.fieldLink own index (Tt j).1 (Tt j).2.1 (Tt j).2.2.1 ∈ wsG) {k : Nat} (hk9 : 600 ≤ k ∧ k < 1200) {fs : List Value} (hk : cW Z.Y ad (m k) = some (.inr (ci, fs))) {v : Value} (hv : fs[j]? = some v) (hdg : decode cc pc = .ok (.getfield index, 3)) (kk : V P R (Z.wl ad m) lo (pc + 3) (v :: rest) g cs sl) : V P R (Z.wl ad m) lo pc (.ref (ad k) :: rest) g cs sl := by
  obtain ⟨p, l, e, s, mm, args, below, meth, c, Q, nL⟩ := P
  intro ls H locs hl hw hS
  have hP : va_P Z.D vwCl [(ad k, .inr (ci, fs))] H := by
    intro i q hq
    rcases List.mem_singleton.mp (List.mem_of_getElem? hq) with rfl
    exact (l_at hw hk9 hk).1
  exact va_get (D := Z.D) (ref := (Tt j).1) C.1 C.2.1 C.2.2.2.2.1 hin C.2.2.2.1 C.2.2.2.2.2.1 hP 0 rfl hc j hj (C.2.2.2.2.1 _ hlink) (fun x h => h) hv hdg (kk ls H locs hl hw hS)
theorem j_len (C : Cx P Z cc own) {k n : Nat} (hk : 600 ≤ k ∧ k < 1200) (h1 : m k 100000 = 7) (h2 : m k 100001 = nI n) (hn : n < 1000) (hdg : decode cc pc = .ok (.arraylength, 1)) (kk : V P R (Z.wl ad m) lo (pc + 1) (.int (nI n) :: rest) g cs sl) : V P R (Z.wl ad m) lo pc (.ref (ad k) :: rest) g cs sl := by
  obtain ⟨p, l, e, s, mm, args, below, meth, c, Q, nL⟩ := P
  intro ls H locs hl hw hS
  have hP : va_P Z.D vwCl [(ad k, .inl (Z.Y.2.2.2.2.2.1, n, .inl (m k)))] H := by
    intro i q hq
    rcases List.mem_singleton.mp (List.mem_of_getElem? hq) with rfl
    exact (l_at hw hk (cW_7 h1 h2 (by omega))).1
  exact va_alen (D := Z.D) C.1 C.2.1 C.2.2.2.2.2.1 hP 0 5 rfl rfl rfl hdg (kk ls H locs hl hw hS)
theorem j_bald (C : Cx P Z cc own) {k n a : Nat} (hk : 600 ≤ k ∧ k < 1200) (h1 : m k 100000 = 7) (h2 : m k 100001 = nI n) (ha : a < n ∧ n < 1000) (hdg : decode cc pc = .ok (.baload, 1)) (kk : V P R (Z.wl ad m) lo (pc + 1) (.int (m k a) :: rest) g cs sl) : V P R (Z.wl ad m) lo pc (.int (nI a) :: .ref (ad k) :: rest) g cs sl := by
  obtain ⟨p, l, e, s, mm, args, below, meth, c, Q, nL⟩ := P
  intro ls H locs hl hw hS
  have hP : va_P Z.D vwCl [(ad k, .inl (Z.Y.2.2.2.2.2.1, n, .inl (m k)))] H := by
    intro i q hq
    rcases List.mem_singleton.mp (List.mem_of_getElem? hq) with rfl
    exact (l_at hw hk (cW_7 h1 h2 (by omega))).1
  have ea : (nI a).toNatClampNeg = a := nI_clamp (by omega)
  exact va_bald (D := Z.D) C.1 C.2.1 C.2.2.2.2.2.1 hP 0 5 rfl rfl (vp_in_nI ha.1 (by omega)) hdg (by rw [ea]; exact kk ls H locs hl hw hS)
theorem j_bast (C : Cx P Z cc own) {k n a : Nat} {x : Int32} (hk : 600 ≤ k ∧ k < 1200) (h1 : m k 100000 = 7) (h2 : m k 100001 = nI n) (ha : a < n ∧ n < 1000) (hx : vp_nar .byte x = x) (hdg : decode cc pc = .ok (.bastore, 1)) (kk : V P R (Z.wl ad (wr m k a x)) lo (pc + 1) rest g cs sl) : V P R (Z.wl ad m) lo pc (.int x :: .int (nI a) :: .ref (ad k) :: rest) g cs sl := by
  obtain ⟨p, l, e, s, mm, args, below, meth, c, Q, nL⟩ := P
  intro ls H locs hl hw hS
  have h0 := l_at hw hk (cW_7 h1 h2 (by omega))
  have ea : (nI a).toNatClampNeg = a := nI_clamp (by omega)
  refine W.bast C.1 C.2.1 (a := ad k) h0.1 ((C.2.2.2.2.2.1.2 5 _ rfl).1 n (fun j => .int (m k j))) (fun q => by cases q) (by show ¬ (nI a < 0 ∨ (arrV _ _ _).slots.size ≤ _); rw [arrV_size]; exact vp_in_nI ha.1 (show n < 2147483648 by omega)) rfl rfl hdg fun H1 e z oq => ?_
  refine kk ls H1 _ hl ?_ (hS.put z oq h0.2)
  rw [wr_rwr]
  have u1 : upd (m k) a x 100000 = 7 := by rw [← h1]; exact if_neg (by omega)
  have u2 : upd (m k) a x 100001 = nI n := by rw [← h2]; exact if_neg (by omega)
  refine Hw_wrl (Z := Z.wl ad m) hw hk (cW_7 h1 h2 (by omega)) (cW_7 u1 u2 (by omega)) ?_ oq
  show H1[ad k]? = some (vp_cell _ _)
  rw [e, ea]
  rw [vp_cell_i, vp_cell_i, arrV_store]
  congr 2
  funext q
  by_cases hq : q = a
  · subst hq
    have hx2 : narrow .byte (.int x) = .int x := by
      have h9 : vp_nar .byte x = x := hx
      unfold vp_nar at h9
      simp [narrow] at h9 ⊢
      exact h9
    simp [updV, upd, hx2]
  · simp [updV, upd, hq]
end LJ
theorem l_scoder (l : Launch) (Z : Zc) (ad : Nat → Nat) (m g : MG) (K : Nat) (hK : 600 ≤ K ∧ K < 1200) (h8 : m K 100000 = 8) (hc : m K 1 = 0) : LMi l yJ0_coder_7d493 cJ0_coder_7d493 1 (some .byte) (rmz 0 0 0 0) Z [.ref (ad K)] ad m g (fun r ad' m' g' => r = 0 ∧ ad' = ad ∧ m' = m ∧ g' = g) := by
  refine ent_ln (own := RJ0) (lo := [some (.ref (ad K))]) (by decide) rfl (by simp [lg_sl, Value.category]) rfl (fun P hl C hW9 ret => ?_)
  refine j_compact C hW9 (tg4 28 rfl rfl) dJ0_coder_7d493_0 ?_
  refine v_if_eq (tgt := 13) (C.wl _ _) dJ0_coder_7d493_3 (by decide) (fun h3 => ?_) (fun h3 => ?_)
  · exact absurd h3 (by decide)
  · refine v_aload_n (C.wl _ _) dJ0_coder_7d493_6 rfl rfl ?_
    refine j_get (k := K) C inGS (ci := 7) rfl 1 (by decide) (tg4 138 rfl rfl) hK (cW_8 h8) rfl dJ0_coder_7d493_7 ?_
    refine v_goto (tgt := 14) (C.wl _ _) dJ0_coder_7d493_10 (by decide) ?_
    refine v_topi (y := 0) hc ?_
    exact ret _ _ _ _ _ _ dJ0_coder_7d493_14 (by decide) ⟨rfl, rfl, rfl, rfl⟩
theorem sb_rf {ad : Nat → Nat} {r : Nat → Int32} {k : Nat} (h : r 0 = nI k) (hk : 600 ≤ k ∧ k < 1200) : (sbF ad r)[0]? = some (.ref (ad k)) := by
  show some (va_rf (fW ad (r 0))) = _
  rw [h, fW_nI hk]
  rfl
theorem sh0 (x : Int32) : x >>> ((0 : Int32) &&& 31) = x := by
  rw [show ((0 : Int32) &&& 31) = 0 from rfl, Int32.shiftRight_zero]
theorem l_slength (l : Launch) (Z : Zc) (ad : Nat → Nat) (m g : MG) (K V9 n : Nat) (hK : 600 ≤ K ∧ K < 1200) (h8 : m K 100000 = 8) (hc : m K 1 = 0) (h0 : m K 0 = nI V9) (hV : 600 ≤ V9 ∧ V9 < 1200) (h7 : m V9 100000 = 7) (hn : m V9 100001 = nI n) (hn9 : n < 1000) : LMi l yJ0_length_8abf5 cJ0_length_8abf5 1 (some .int) (rmz 1 30 0 0) Z [.ref (ad K)] ad m g (fun r ad' m' g' => r = nI n ∧ ad' = ad ∧ m' = m ∧ g' = g) := by
  refine ent_li (own := RJ0) (lo := [some (.ref (ad K))]) (by decide) rfl (by simp [lg_sl, Value.category]) rfl (fun P hl C hW9 ret => ?_)
  refine v_aload_n (C.wl _ _) dJ0_length_8abf5_0 rfl rfl ?_
  refine j_get (k := K) C inGS (ci := 7) rfl 0 (by decide) (tg4 137 rfl rfl) hK (cW_8 h8) (sb_rf h0 hV) dJ0_length_8abf5_1 ?_
  refine j_len (k := V9) C hV h7 hn hn9 dJ0_length_8abf5_4 ?_
  refine v_aload_n (C.wl _ _) dJ0_length_8abf5_5 rfl rfl ?_
  refine l_callVi (n := 0) (as := []) C hW9 (l_scoder _ Z ad m g K hK h8 hc) (gv (tg4 24 rfl rfl) (tg4 25 rfl rfl) (tg4 26 rfl rfl) (tg1 23 rfl rfl) (tg4 27 rfl rfl)) (by decide +kernel) ⟨Nat.le_of_ble_eq_true rfl, Nat.le_of_ble_eq_true rfl⟩ rfl hK (cW_8 h8) rfl rfl (Nat.le_of_ble_eq_true rfl) dJ0_length_8abf5_6 ⟨Nat.le_of_ble_eq_true rfl, Nat.le_of_ble_eq_true rfl⟩ (fun v6 ad6 m6 g6 hp6 => ?_)
  obtain ⟨rfl, rfl, rfl, rfl⟩ := hp6
  refine v_ishr (C.wl _ _) dJ0_length_8abf5_9 ?_
  exact ret _ _ _ _ _ _ dJ0_length_8abf5_10 ⟨sh0 _, rfl, rfl, rfl⟩
