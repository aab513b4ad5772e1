/-! THE LAW'S act: its contract; the shop after calls -/
def hhA : List (Nat × Nat × Nat × Nat) := [(237, 248, 251, 38), (517, 533, 536, 38), (625, 635, 638, 38), (674, 682, 685, 38)]
def LMw (l : Launch) (y : MethodName) (cc : ByteArray) (maxL : Nat) (hh : List (Nat × Nat × Nat × Nat)) (rm : Room) (Z : Zc) (as : List Value) (ad : Nat → Nat) (m g : MG) (post : Int32 → (Nat → Nat) → MG → MG → Prop) : Prop := Met l y (Cond.codeWith y cc maxL (some .boolean) hh :: wsG) rm (va_Pc as (fun U => WL Z ad m g U)) (va_Qi (fun r (u : LU) => post r u.1 u.2.1 u.2.2) (fun u t => Wd (Z.wl u.1 u.2.1) u.2.2 t) (A0 Z.z)) rm.cells rm.slots (A0 Z.z)
theorem ent_lw {l : Launch} {y : MethodName} {cc : ByteArray} {maxL : Nat} {hh : List (Nat × Nat × Nat × Nat)} {rm : Room} {Z : Zc} {as : List Value} {ad : Nat → Nat} {m g : MG} {post : Int32 → (Nat → Nat) → MG → MG → Prop} {own : String} {lo : Lo} (hy : plainName y.cls = true) (ho : y.cls = own) (hlen : (lg_sl as).length ≤ maxL) (hlo : loA (lv_args 0 as) maxL = lo)
    (body : ∀ P : Pm, P.2.1 = l → Cx P Z cc own → CxW P Z → CxT P hh → (∀ (pc : Nat) (lo' : Lo) (v : Int32) (ad' : Nat → Nat) (m' g' : MG), decode cc pc = .ok (.ireturn, 1) → (v = 0 ∨ v = 1) → post v ad' m' g' → V P rm (Z.wl ad' m') lo' pc [.int v] g' rm.cells rm.slots) → V P rm (Z.wl ad m) lo 0 [] g 0 0) : LMw l y cc maxL hh rm Z as ad m g post := by
  refine va_MetW (cc := cc) (maxL := maxL) (ret := some .boolean) (hh := hh) hy rfl ?_
  intro p e s mm args below meth c s₁ B hml hv
  obtain ⟨rfl, ⟨hw, hK, hz, hst⟩, hW9⟩ := hv
  have hts0 : ∀ w ∈ Cond.codeWith y cc maxL (some .boolean) hh :: wsG, w.before as.toArray s = true := atoms_spec (ws := Cond.codeWith y cc maxL (some .boolean) hh :: wsG) B.pre
  have hts : ∀ w ∈ wsG, w.before as.toArray s = true := fun w h => hts0 w (List.mem_cons_of_mem _ h)
  have htab := vx_table (x := y) B (hts0 _ List.mem_cons_self)
  have hown : s.vm.findClass own = some mm.cls := ho ▸ findClass_of_methodNamed B.named
  have hl := lv_entry as hlen
  rw [lg_entry_eq]
  generalize (lg_sl as ++ List.replicate (maxL - (lg_sl as).length) Slot.unset).toArray = ls at hl ⊢
  refine body (p, l, e, s, mm, as.toArray, below, meth, c, _, maxL) rfl ⟨B.exec, B.bytes, hml, hown, hts, hK, hz, B.notSynchronized, hst⟩ hW9 htab ?_ ls s.heap [] (hlo ▸ Lv_of hl) hw va_S.rf
  intro pc lo' v ad' m' g' hdg hv hp ls H locs hl hw' hS
  exact W.zret B.exec B.bytes B.returns (by rcases hv with rfl | rfl <;> rfl) (fun t ht hW => ⟨⟨v, (ad', m', g'), rfl, hp, Wd_of (Z := Z.wl ad' m') hw' hK hz hst hS ht hW.alike⟩, hS.F ht⟩) hS.2.2 hdg
theorem gsw {own : String} {idx : Nat} {y : MethodName} {cc : ByteArray} {maxL : Nat} {ret : Option FieldType} {hh : List (Nat × Nat × Nat × Nat)} (h1 : Cond.methodLink own idx y ∈ wsG) (h2 : Cond.static y ∈ wsG) (h4 : Cond.initialized y.cls ∈ wsG) (h5 : Cond.codeWith y cc maxL ret hh ∈ wsG) : GoodIn wsG (va_wsS own idx y (Cond.codeWith y cc maxL ret hh :: wsG)) := by
  intro w hw
  have : w ∈ wsG := by
    simp only [va_wsS, List.mem_append, List.mem_cons, List.not_mem_nil, or_false] at hw
    rcases hw with (rfl | rfl | rfl) | rfl | hw
    · exact h1
    · exact h2
    · exact h4
    · exact h5
    · exact hw
  exact ⟨this, good_all this⟩
section LAW
variable {P : Pm} {R : Room} {Z : Zc} {cc : ByteArray} {own : String} {lo : Lo} {pc : Nat} {rest st : List Value} {g : MG} {cs sl : Nat} {ad : Nat → Nat} {m : MG}
theorem l_callSw (C : Cx P Z cc own) (hW9 : CxW P Z) {y : MethodName} {cc' : ByteArray} {maxL idx n : Nat} {hh : List (Nat × Nat × Nat × Nat)} {rm' : Room} {as : List Value} {post : Int32 → (Nat → Nat) → MG → MG → Prop} (hM : LMw P.2.1 y cc' maxL hh rm' Z as ad m g post) (hG : GoodIn wsG (va_wsS own idx y (Cond.codeWith y cc' maxL (some .boolean) hh :: wsG)))
    (hd : y.cls ≠ "java/lang/invoke/MethodHandle" ∧ y.cls ≠ "java/lang/invoke/VarHandle" ∧ (parseMethodDescriptor y.desc).map (fun d => d.parameters.length) = some n) (hR : rm'.frames + 1 ≤ R.frames ∧ 8 + (maxL + 11) + rm'.locals ≤ R.locals) (hn : as.length = n) (hst : st = as.reverse ++ rest) (hr : (rest.map fun v => v.category).sum ≤ 8) (hdg : decode cc pc = .ok (.invokestatic idx, 3)) (hf : cs + rm'.cells ≤ R.cells ∧ sl + rm'.slots ≤ R.slots)
    (kk : ∀ (r : Int32) (ad' : Nat → Nat) (m' g' : MG), post r ad' m' g' → V P R (Z.wl ad' m') lo (pc + 3) (.int r :: rest) g' (cs + rm'.cells) (sl + rm'.slots)) : V P R (Z.wl ad m) lo pc st g cs sl := by
  obtain ⟨p, l, e, s, mm, args, below, meth, c, Q, nL⟩ := P
  subst hst
  intro ls H locs hl hw hS
  refine va_calli (vx_runSW (As := as) (rest := rest) ⟨C.1, C.2.1, C.2.2.1, C.2.2.2.1, C.2.2.2.2.1⟩ hM (vx_cwSW n C.2.2.2.2.1 hG rfl rfl rfl hd hR) ⟨WL_fb, fun U hU hW => ⟨rfl, Wd_of (Z := Z.wl ad m) hw C.2.2.2.2.2.1 C.2.2.2.2.2.2.1 C.2.2.2.2.2.2.2.2 hS hU hW.alike, StrA.warm hW hW9.1, StrL.warm hW hW9.2.1, by rw [hU]; exact (hW9.2.2.kept hS.2.1).warm hW⟩⟩ rfl hn hl.2.1 rfl (lv_room hr) hdg hf) hS (fun _ _ h => h) (fun _ h => h) (fun r u t H1 locs1 ht hvm hp hB hz1 hk1 hS1 => ?_)
  refine kk r u.1 u.2.1 u.2.2 hp ls H1 locs1 hl ?_ hS1
  rw [← ht]; exact hB.1
end LAW
/-- blocks have come -/
theorem Sim_bl {s s' m m' : MG} (hI : IvM s) (hR : SimR s m) (hs : ∀ k, k ≠ 6 → s' k = s k) (hB : Bk (10 * nfO s) m m' 0 (s' 6)) : SimR s' m' := by
  have hf5 := (IvM_nf hI).1
  have hp6 := (IvM_np hI).1
  have h1 : nfO s' = nfO s := by unfold nfO; rw [hs 0 (by decide)]
  have h2 : npO s' = npO s := by unfold npO; rw [hs 0 (by decide)]
  refine hR.c h1 h2 hp6 hf5 (fun p hp => (IvM_nl hI hp).2) (fun k hk => hs k (by omega)) (fun p _ h => by rw [← hs 15 (by decide)]; exact h) (fun k k1 k2 k3 _ => hB.1 k (by omega)) ?_ ?_ ?_
  · unfold SmS
    rw [hB.1 600 (by omega), hs 0 (by decide)]
    exact hR.1
  · intro f k hf hk
    rw [h1] at hf
    obtain ⟨a1, a2, a3, a4⟩ := hR.2.2.1 f k hf hk
    have e : m' (620 + 10 * f + k) 0 = s' 6 (10 * f + k) := by
      have := hB.2.2 (10 * f + k) (by omega)
      rw [← Nat.add_assoc] at this
      exact this
    refine ⟨⟨(hB.2.1 _ _ (by decide)).trans a1.1, (hB.2.1 _ _ (by decide)).trans a1.2⟩, e, ?_, ?_⟩
    · rw [hB.2.1 _ _ (by decide), hs 7 (by decide)]; exact a3
    · rw [hB.2.1 _ _ (by decide), hs 8 (by decide)]; exact a4
  · intro p hp
    unfold PsF
    rw [hB.1 (700 + 20 * p) (by omega), hs 12 (by decide), hs 13 (by decide), hs 15 (by decide), hs 16 (by decide)]
    exact (hR.L hp).1
theorem Sim_oth {s m : MG} {k : Nat} {o : Int32} (hI : IvM s) (hR : SimR s m) (hk : k < 10) : SimR (wr s 9 k o) (wr m 603 k o) := by
  have hf5 := (IvM_nf hI).1
  have hp6 := (IvM_np hI).1
  have hs : ∀ q, q ≠ 9 → wr s 9 k o q = s q := fun q hq => wr_row _ _ _ _ hq
  have hm : ∀ q, q ≠ 603 → wr m 603 k o q = m q := fun q hq => wr_row _ _ _ _ hq
  have e9 : ∀ j, wr m 603 k o 603 j = if j = k then o else m 603 j := fun j => by rw [wr_own]; rfl
  have s9 : ∀ j, wr s 9 k o 9 j = if j = k then o else s 9 j := fun j => by rw [wr_own]; rfl
  generalize wr s 9 k o = s' at *
  generalize wr m 603 k o = m' at *
  have h1 : nfO s' = nfO s := by unfold nfO; rw [hs 0 (by decide)]
  have h2 : npO s' = npO s := by unfold npO; rw [hs 0 (by decide)]
  obtain ⟨a1, a2, a3, a4, a5, a6, a7⟩ := hR
  refine ⟨?_, a2.c h1 hf5 (hs 5 (by decide)) (fun q hq => hm q (by omega)), fun f c hf hc => ?_, ⟨?_, fun j hj => ?_⟩, a5.c (hs 10 (by decide)) (hs 11 (by decide)) (fun q hq => hm q (by omega)), ⟨?_, fun p hp => ?_⟩, fun p hp => ?_⟩
  · unfold SmS; rw [hm 600 (by decide), hs 0 (by decide)]; exact a1
  · rw [h1] at hf
    unfold isA
    rw [hm (620 + 10 * f + c) (by omega), hs 6 (by decide), hs 7 (by decide), hs 8 (by decide)]
    exact a3 f c hf hc
  · unfold isA
    rw [e9, e9, if_neg (by omega), if_neg (by omega)]
    exact a4.1
  · rw [e9, s9, a4.2 j hj]
  · unfold isQ; rw [hm 605 (by decide), h2]; exact a6.1
  · rw [hm 605 (by decide)]; rw [h2] at hp; exact a6.2 p hp
  · rw [h2] at hp
    obtain ⟨g1, g2, g3⟩ := a7 p hp
    refine ⟨?_, g2.c (hs 14 (by decide)) (hs 17 (by decide)) (IvM_nl hI (by omega)).2 (fun q hq => hm q (by omega)), g3.c (fun h => by rw [← hs 15 (by decide)]; exact h) (fun q hq => hs q (by omega)) (IvM_nl hI (by omega)).2 (fun q hq => hm q (by omega))⟩
    unfold PsF
    rw [hm (700 + 20 * p) (by omega), hs 12 (by decide), hs 13 (by decide), hs 15 (by decide), hs 16 (by decide)]
    exact g1
/-- a poster that no one has touched -/
theorem CnP_c {s s' m m1 : MG} {σ : Nat → Nat} {p : Nat} (hI : IvM s) (hR : SimR s m) (hp : p < npO s) (hσ : ∀ k, 700 + 20 * p ≤ k → k < 720 + 20 * p → σ k = k) (hm : ∀ k, 700 + 20 * p ≤ k → k < 720 + 20 * p → m1 k = m k) (hs : s' 12 p = s 12 p ∧ s' 13 p = s 13 p ∧ s' 14 p = s 14 p ∧ s' 15 p = s 15 p ∧ s' 16 p = s 16 p) (hj : ∀ q, q < nlO s p → s' 17 (4 * p + q) = s 17 (4 * p + q) ∧ s' 18 (4 * p + q) = s 18 (4 * p + q) ∧ s' 19 (4 * p + q) = s 19 (4 * p + q) ∧ s' 20 (4 * p + q) = s 20 (4 * p + q)) : CnP s' m1 σ p := by
  have hp6 := (IvM_np hI).1
  have h4 := (IvM_nl hI (show p < 6 by omega)).2
  obtain ⟨g1, g2, ⟨n1, n12, n13⟩, ⟨n2, n22, n23, n24⟩, -, g4⟩ := hR.L hp
  have enl : nlO s' p = nlO s p := by unfold nlO; rw [hs.2.2.1]
  have k : ∀ q, q < 20 → σ (700 + 20 * p + q) = 700 + 20 * p + q ∧ m1 (700 + 20 * p + q) = m (700 + 20 * p + q) := fun q hq => ⟨hσ _ (by omega) (by omega), hm _ (by omega) (by omega)⟩
  have k0 := hσ (700 + 20 * p) (by omega) (by omega)
  have m0 := hm (700 + 20 * p) (by omega) (by omega)
  have k1 := hσ (701 + 20 * p) (by omega) (by omega)
  have m1' := hm (701 + 20 * p) (by omega) (by omega)
  have k2 := hσ (702 + 20 * p) (by omega) (by omega)
  have m2' := hm (702 + 20 * p) (by omega) (by omega)
  have k3 := hσ (703 + 20 * p) (by omega) (by omega)
  have m3' := hm (703 + 20 * p) (by omega) (by omega)
  have k4 := hσ (704 + 20 * p) (by omega) (by omega)
  have m4' := hm (704 + 20 * p) (by omega) (by omega)
  have ew : ∀ q, q < nlO s p → wdO s' (4 * p + q) = wdO s (4 * p + q) := fun q hq => congrArg iz (hj q hq).1
  have et : ∀ q, q < nlO s p → tkO s' (4 * p + q) = tkO s (4 * p + q) := fun q hq => congrArg iz (hj q hq).2.2.2
  refine ⟨?_, ⟨?_, fun q hq => ?_⟩, ⟨n1, n12, ?_⟩, ⟨n2, n22, ?_, ?_⟩, fun h15 => ?_⟩
  · rw [k0, k1, k2, k3, k4, m0, hs.1, hs.2.1, hs.2.2.2.1, hs.2.2.2.2]; exact g1
  · unfold isQ; rw [k1, m1', enl]; exact g2.1
  · rw [enl] at hq
    have k5 := hσ (705 + 20 * p + q) (by omega) (by omega)
    have m5 := hm (705 + 20 * p + q) (by omega) (by omega)
    unfold LtR isA
    rw [k1, m1', k5, m5, ew q hq]
    exact g2.2 q hq
  · unfold isA; rw [k2, m2']; exact n13
  · unfold isA; rw [k3, m3']; exact n23
  · rw [hs.2.2.2.1, enl]; exact n24
  · rw [hs.2.2.2.1] at h15
    obtain ⟨x1, x2, x3⟩ := g4 h15
    refine ⟨?_, ?_, fun q hq => ?_⟩
    · unfold isA; rw [k2, m2', enl]; exact x1
    · unfold isQ; rw [k4, m4', enl]; exact x2
    · rw [enl] at hq
      have k5 := hσ (710 + 20 * p + q) (by omega) (by omega)
      have m5 := hm (710 + 20 * p + q) (by omega) (by omega)
      unfold LtR isA
      rw [k2, m2', k3, m3', k4, m4', k5, m5, ew q hq, et q hq, (hj q hq).2.1, (hj q hq).2.2.1]
      exact x3 q hq
/-- the shop where founts, blocks and other letters are as they were -/
theorem Cn_mk {s s' m m1 : MG} {σ : Nat → Nat} (hI : IvM s) (hR : SimR s m) (hσ : ∀ k, k < 700 → k ≠ 605 → ¬ (606 ≤ k ∧ k < 610) → σ k = k) (hm : ∀ k, 600 < k → k < 700 → k ≠ 604 → k ≠ 605 → ¬ (606 ≤ k ∧ k < 610) → m1 k = m k) (h1 : s' 0 1 = s 0 1) (hs : ∀ k, 5 ≤ k → k ≤ 9 → s' k = s k)
    (h600 : m1 600 100000 = 6 ∧ m1 600 0 = s' 0 3 ∧ m1 600 1 = s' 0 4 ∧ m1 600 2 = nI 601 ∧ m1 600 3 = nI 602 ∧ m1 600 4 = nI 603 ∧ m1 600 5 = nI 604 ∧ m1 600 6 = nI (σ 605))
    (hT : isQ m1 2 604 4 ∧ ∀ t, t < 4 → m1 604 t = nI (σ (606 + t)) ∧ isA m1 (σ (606 + t)) 2 ∧ m1 (σ (606 + t)) 0 = s' 10 t ∧ m1 (σ (606 + t)) 1 = s' 11 t)
    (hQ : isQ m1 4 (σ 605) (npO s') ∧ ∀ p, p < npO s' → m1 (σ 605) p = nI (σ (700 + 20 * p))) (hP : ∀ p, p < npO s' → CnP s' m1 σ p) : Cn s' m1 σ := by
  have hf5 := (IvM_nf hI).1
  have enf : nfO s' = nfO s := by unfold nfO; rw [h1]
  obtain ⟨-, ⟨b1, b2, b3⟩, c1, d1, -, -, -⟩ := hR
  have k0 := hσ 600 (by decide) (by decide) (by decide)
  have k1 := hσ 601 (by decide) (by decide) (by decide)
  have k2 := hσ 602 (by decide) (by decide) (by decide)
  have k3 := hσ 603 (by decide) (by decide) (by decide)
  have k4 := hσ 604 (by decide) (by decide) (by decide)
  refine ⟨by rw [k0, k1, k2, k3, k4]; exact h600, ⟨?_, ⟨?_, fun f hf => ?_⟩, fun f hf => ?_⟩, fun f k hf hk => ?_, ?_, by rw [k4]; exact hT, hQ, hP⟩
  · unfold isA; rw [k1, hm 601 (by decide) (by decide) (by decide) (by decide) (by decide), enf, hs 5 (by decide) (by decide)]; exact b1
  · unfold isQ; rw [k2, hm 602 (by decide) (by decide) (by decide) (by decide) (by decide), enf]; exact b2.1
  · rw [enf] at hf
    rw [k2, hm 602 (by decide) (by decide) (by decide) (by decide) (by decide), hσ (610 + f) (by omega) (by omega) (by omega)]
    exact b2.2 f hf
  · rw [enf] at hf
    unfold isQ
    rw [hσ (610 + f) (by omega) (by omega) (by omega), hm (610 + f) (by omega) (by omega) (by omega) (by omega) (by omega)]
    refine ⟨(b3 f hf).1, fun k hk => ?_⟩
    rw [hσ (620 + 10 * f + k) (by omega) (by omega) (by omega)]
    exact (b3 f hf).2 k hk
  · rw [enf] at hf
    unfold isA
    rw [hσ (620 + 10 * f + k) (by omega) (by omega) (by omega), hm (620 + 10 * f + k) (by omega) (by omega) (by omega) (by omega) (by omega), hs 6 (by decide) (by decide), hs 7 (by decide) (by decide), hs 8 (by decide) (by decide)]
    exact c1 f k hf hk
  · unfold isA; rw [k3, hm 603 (by decide) (by decide) (by decide) (by decide) (by decide), hs 9 (by decide) (by decide)]; exact d1
