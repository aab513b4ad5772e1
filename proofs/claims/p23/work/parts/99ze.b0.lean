/-! THE LAW'S build: its contract (with the script); the shop at first, and with a poster more -/
def LMqs (l : Launch) (y : MethodName) (cc : ByteArray) (maxL : Nat) (ret : Option FieldType) (rm : Room) (Z : Zc) (S : Sc) (as : List Value) (ad : Nat → Nat) (m g : MG) (post : Option Nat → (Nat → Nat) → MG → MG → Prop) : Prop := Met l y (wz y cc maxL ret) rm (va_Pc as (fun U => WL Z ad m g U ∧ ScP S Z.z U)) (va_Qq (fun r (u : LU) => post r u.1 u.2.1 u.2.2) (fun u t => Wd (Z.wl u.1 u.2.1) u.2.2 t) (A0 Z.z)) rm.cells rm.slots (A0 Z.z)
theorem WLs_fb {Z : Zc} {S : Sc} {as : List Value} {ad : Nat → Nat} {m g : MG} : FrameBlind (va_Pc as (fun U => WL Z ad m g U ∧ ScP S Z.z U)) := fun a U g' mk h => ⟨h.1, (WL_fb (Z := Z) (as := as) (ad := ad) (m := m) (g := g) a U g' mk ⟨h.1, h.2.1⟩).2, ScP.same (u := U) rfl rfl h.2.2⟩
theorem ent_lqs {l : Launch} {y : MethodName} {cc : ByteArray} {maxL : Nat} {rm : Room} {Z : Zc} {S : Sc} {as : List Value} {ad : Nat → Nat} {m g : MG} {post : Option Nat → (Nat → Nat) → MG → MG → Prop} {own : String} {lo : Lo} {rt : FieldType} (hrt : (∃ n, rt = .object n) ∨ ∃ t, rt = .array t) (hy : plainName y.cls = true) (ho : y.cls = own) (hlen : (lg_sl as).length ≤ maxL) (hlo : loA (lv_args 0 as) maxL = lo)
    (body : ∀ P : Pm, P.2.1 = l → Cx P Z cc own → CxW P Z → CxP P S Z.z → (∀ (pc : Nat) (lo' : Lo) (v : Option Nat) (ad' : Nat → Nat) (m' g' : MG), decode cc pc = .ok (.areturn, 1) → post v ad' m' g' → V P rm (Z.wl ad' m') lo' pc [va_rf v] g' rm.cells rm.slots) → V P rm (Z.wl ad m) lo 0 [] g 0 0) : LMqs l y cc maxL (some rt) rm Z S as ad m g post := by
  refine Met.ofW (cc := cc) (maxL := maxL) (ret := some rt) hy rfl ?_
  intro p e s mm args below meth c s₁ B hml hv
  obtain ⟨rfl, ⟨⟨hw, hK, hz, hst⟩, hW9⟩, hS9⟩ := hv
  have hts : ∀ w ∈ wsG, w.before as.toArray s = true := fun w h => atoms_spec (ws := wz y cc maxL (some rt)) B.pre w (List.mem_cons_of_mem _ h)
  have hown : s.vm.findClass own = some mm.cls := ho ▸ findClass_of_methodNamed B.named
  have hl := lv_entry as hlen
  rw [lg_entry_eq]
  generalize (lg_sl as ++ List.replicate (maxL - (lg_sl as).length) Slot.unset).toArray = ls at hl ⊢
  refine body (p, l, e, s, mm, as.toArray, below, meth, c, _, maxL) rfl ⟨B.exec, B.bytes, hml, hown, hts, hK, hz, B.notSynchronized, hst⟩ hW9 hS9 ?_ ls s.heap [] (hlo ▸ Lv_of hl) hw va_S.rf
  intro pc lo' v ad' m' g' hdg hp ls H locs hl hw' hS
  exact W.aret B.exec B.bytes B.returns hrt (va_rf_or v) (fun t ht hW => ⟨⟨v, (ad', m', g'), rfl, hp, Wd_of (Z := Z.wl ad' m') hw' hK hz hst hS ht hW.alike⟩, hS.F ht⟩) hS.2.2 hdg
section LAW
variable {P : Pm} {R : Room} {Z : Zc} {cc : ByteArray} {own : String} {lo : Lo} {pc : Nat} {rest st : List Value} {g : MG} {cs sl : Nat} {ad : Nat → Nat} {m : MG} {S : Sc}
theorem l_callSqs (C : Cx P Z cc own) (hW9 : CxW P Z) (hC : CxP P S Z.z) {y : MethodName} {cc' : ByteArray} {maxL idx n : Nat} {ret : Option FieldType} {rm' : Room} {as : List Value} {post : Option Nat → (Nat → Nat) → MG → MG → Prop} (hM : LMqs P.2.1 y cc' maxL ret rm' Z S as ad m g post) (hG : GoodIn wsG (va_wsS own idx y (wz y cc' maxL ret)))
    (hd : y.cls ≠ "java/lang/invoke/MethodHandle" ∧ y.cls ≠ "java/lang/invoke/VarHandle" ∧ (parseMethodDescriptor y.desc).map (fun d => d.parameters.length) = some n) (hR : rm'.frames + 1 ≤ R.frames ∧ 8 + (maxL + 11) + rm'.locals ≤ R.locals) (hn : as.length = n) (hst : st = as.reverse ++ rest) (hr : (rest.map fun v => v.category).sum ≤ 8) (hdg : decode cc pc = .ok (.invokestatic idx, 3)) (hf : cs + rm'.cells ≤ R.cells ∧ sl + rm'.slots ≤ R.slots)
    (kk : ∀ (r : Option Nat) (ad' : Nat → Nat) (m' g' : MG), post r ad' m' g' → V P R (Z.wl ad' m') lo (pc + 3) (va_rf r :: rest) g' (cs + rm'.cells) (sl + rm'.slots)) : V P R (Z.wl ad m) lo pc st g cs sl := by
  obtain ⟨p, l, e, s, mm, args, below, meth, c, Q, nL⟩ := P
  subst hst
  intro ls H locs hl hw hS
  refine va_callq (va_runS (As := as) (rest := rest) ⟨C.1, C.2.1, C.2.2.1, C.2.2.2.1, C.2.2.2.2.1⟩ hM (va_cwS n C.2.2.2.2.1 hG rfl rfl rfl hd hR) ⟨WLs_fb, fun U hU hW => ⟨rfl, ⟨Wd_of (Z := Z.wl ad m) hw C.2.2.2.2.2.1 C.2.2.2.2.2.2.1 C.2.2.2.2.2.2.2.2 hS hU hW.alike, StrA.warm hW hW9.1, StrL.warm hW hW9.2.1, by rw [hU]; exact (hW9.2.2.kept hS.2.1).warm hW⟩, ?_⟩⟩ rfl hn hl.2.1 rfl (lv_room hr) hdg hf) hS (fun _ _ h => h) (fun _ h => h) (fun r u t H1 locs1 ht hvm hp hB hz1 hk1 hS1 => ?_)
  · have hC : ScP S Z.z s := hC
    refine ⟨?_, hC.2⟩
    rw [hU]
    exact (hC.1.kept hS.2.1).moved hW.alike
  · refine kk r u.1 u.2.1 u.2.2 hp ls H1 locs1 hl ?_ hS1
    rw [← ht]; exact hB.1
end LAW
abbrev RB : Room := rmz 10 330 600 6000
/-- what build leaves: N calls were made -/
def BuiP (ad : Nat → Nat) (ad' : Nat → Nat) (m' g' : MG) : Prop := (∀ k, k < 36 → ad' k = ad k) ∧ ∃ (N : Nat) (t : MG), N ≤ 28 ∧ LE N t ∧ SimR t m' ∧ Fr m' 900 ∧ Rl t g' ∧ 1 ≤ nfO t ∧ 1 ≤ npO t
def RetB (P : Pm) (Z : Zc) (ad : Nat → Nat) : Prop := ∀ (pc : Nat) (lo' : Lo) (ad' : Nat → Nat) (m' g' : MG), decode cL_build pc = .ok (.areturn, 1) → BuiP ad ad' m' g' → V P RB (Z.wl ad' m') lo' pc [.ref (ad' 600)] g' RB.cells RB.slots
/-- the shop with n founts, of which t has only the first ones -/
theorem IvM_wn {t : MG} {n : Nat} (h : IvM t) (hn : n ≤ 5) : IvM (wr t 0 1 (nI n)) := by
  have e0 : wr t 0 1 (nI n) 0 2 = t 0 2 := wr_ne _ _ _ _ (Or.inr (by decide))
  have e1 : wr t 0 1 (nI n) 0 1 = nI n := wr_same _ _ _ _
  have es : ∀ k, k ≠ 0 → wr t 0 1 (nI n) k = t k := fun k hk => wr_row _ _ _ _ hk
  generalize wr t 0 1 (nI n) = s at *
  obtain ⟨a1, a2, a3, a4, a5, a6, a7, a8⟩ := h
  refine ⟨⟨n, hn, e1⟩, by rw [e0]; exact a2, by rw [es 9 (by decide)]; exact a3, by rw [es 14 (by decide)]; exact a4, by rw [es 12 (by decide)]; exact a5, by rw [es 15 (by decide)]; exact a6, by rw [es 17 (by decide)]; exact a7, fun p k hp h1 hk => ?_⟩
  unfold nlO at hk
  rw [es 14 (by decide)] at hk
  rw [es 15 (by decide)] at h1
  rw [es 18 (by decide), es 20 (by decide)]
  exact a8 p k hp h1 hk
def sgN (n : Nat) : Nat → Nat := fun q => if q = 601 then 610 else if q = 602 then 611 else if q = 605 then 609 else if 606 ≤ q ∧ q < 610 then q - 1 else if 610 ≤ q ∧ q < 610 + n then q + 2 else if 610 ≤ q ∧ q < 620 then q + 400 else if 620 ≤ q ∧ q < 620 + 10 * n then q + n - 8 else q
theorem sgN_r {n : Nat} (hn : n ≤ 4) (q : Nat) (h6 : 600 ≤ q) (h9 : q < 900) : 600 ≤ sgN n q ∧ sgN n q < 1200 := by
  unfold sgN
  repeat' split
  all_goals omega
theorem sgN_inj {n : Nat} (hn : n ≤ 4) (a b : Nat) (a6 : 600 ≤ a) (a9 : a < 900) (b6 : 600 ≤ b) (b9 : b < 900) (h : sgN n a = sgN n b) : a = b := by
  unfold sgN at h
  repeat' split at h
  all_goals omega
theorem Cn_new {t m m1 m0 : MG} {n : Nat} (hn : n ≤ 4) (hZ : IvZ t) (h0 : nfO t = 0) (hp0 : npO t = 0) (t34 : t 0 3 = 0 ∧ t 0 4 = 0) (t5 : ∀ f, f < 5 → t 5 f = 0) (t9 : ∀ k, k < 10 → t 9 k = -1) (t10 : ∀ u, u < 4 → t 10 u = 3 ∧ t 11 u = 5) (hS : sinM m0 m1) (h00 : m0 600 0 = 0 ∧ m0 600 1 = 0)
    (w0 : ∀ q, 600 < q → q < 610 → m q = m1 q) (w6 : (∀ j, j ≠ 2 → j ≠ 3 → m 600 j = m1 600 j) ∧ m 600 2 = nI 610 ∧ m 600 3 = nI 611) (wh : m 610 = rN 1 n) (w11 : m 611 = rfN n (fun j => 612 + j) (rN 3 n)) (w12 : ∀ f, f < n → m (612 + f) = rfN 10 (fun j => 612 + n + 10 * f + j) (rN 2 10)) (w13 : ∀ x, x < 10 * n → m (612 + n + x) = rN 1 3) : Cn (wr t 0 1 (nI n)) m (sgN n) := by
  have e0 : ∀ j, j ≠ 1 → wr t 0 1 (nI n) 0 j = t 0 j := fun j hj => wr_ne _ _ _ _ (Or.inr hj)
  have e1 : nfO (wr t 0 1 (nI n)) = n := by show iz (wr t 0 1 (nI n) 0 1) = n; rw [wr_same]; exact iz_nI (by omega)
  have es : ∀ k, k ≠ 0 → wr t 0 1 (nI n) k = t k := fun k hk => wr_row _ _ _ _ hk
  generalize wr t 0 1 (nI n) = s at *
  have e2 : npO s = 0 := by unfold npO; rw [e0 2 (by decide)]; exact hp0
  have c0 : sgN n 600 = 600 := by unfold sgN; rw [if_neg (by omega), if_neg (by omega), if_neg (by omega), if_neg (by omega), if_neg (by omega), if_neg (by omega), if_neg (by omega)]
  have c1 : sgN n 601 = 610 := by unfold sgN; rw [if_pos rfl]
  have c2 : sgN n 602 = 611 := by unfold sgN; rw [if_neg (by decide), if_pos rfl]
  have c3 : sgN n 603 = 603 := by unfold sgN; rw [if_neg (by omega), if_neg (by omega), if_neg (by omega), if_neg (by omega), if_neg (by omega), if_neg (by omega), if_neg (by omega)]
  have c4 : sgN n 604 = 604 := by unfold sgN; rw [if_neg (by omega), if_neg (by omega), if_neg (by omega), if_neg (by omega), if_neg (by omega), if_neg (by omega), if_neg (by omega)]
  have c5 : sgN n 605 = 609 := by unfold sgN; rw [if_neg (by decide), if_neg (by decide), if_pos rfl]
  have c6 : ∀ u, u < 4 → sgN n (606 + u) = 605 + u := fun u hu => by unfold sgN; rw [if_neg (by omega), if_neg (by omega), if_neg (by omega), if_pos (by omega)]; omega
  have c10 : ∀ f, f < n → sgN n (610 + f) = 612 + f := fun f hf => by unfold sgN; rw [if_neg (by omega), if_neg (by omega), if_neg (by omega), if_neg (by omega), if_pos (by omega)]; omega
  have c20 : ∀ x, x < 10 * n → sgN n (620 + x) = 612 + n + x := fun x hx => by unfold sgN; rw [if_neg (by omega), if_neg (by omega), if_neg (by omega), if_neg (by omega), if_neg (by omega), if_neg (by omega), if_pos (by omega)]; omega
  obtain ⟨⟨a1, a2, a3, a4, a5, a6, a7, a8⟩, b1, b2, b3, b4, b5⟩ := hS
  refine ⟨?_, ⟨⟨?_, fun f hf => ?_⟩, ⟨?_, fun f hf => ?_⟩, fun f hf => ⟨?_, fun k hk => ?_⟩⟩, fun f k hf hk => ?_, ⟨?_, fun j hj => ?_⟩, ⟨?_, fun u hu => ?_⟩, ⟨?_, fun p hp => ?_⟩, fun p hp => ?_⟩
  · rw [c0, c1, c2, c3, c4, c5, w6.2.1, w6.2.2, w6.1 _ (by decide) (by decide), w6.1 _ (by decide) (by decide), w6.1 _ (by decide) (by decide), w6.1 _ (by decide) (by decide), w6.1 _ (by decide) (by decide), w6.1 _ (by decide) (by decide), e0 3 (by decide), e0 4 (by decide), t34.1, t34.2]
    exact ⟨a1, a2.trans h00.1, a3.trans h00.2, rfl, rfl, a6, a7, a8⟩
  · rw [c1, e1]; unfold isA; rw [wh]; exact ⟨rfl, rfl⟩
  · rw [e1] at hf
    rw [c1, wh, es 5 (by decide), t5 f (by omega)]
    unfold rN; rw [if_neg (by omega), if_neg (by omega)]
  · rw [c2, e1]; unfold isQ; rw [w11]; exact ⟨rfl, rfl⟩
  · rw [e1] at hf
    rw [c2, w11, c10 f hf]
    unfold rfN; rw [if_neg (by omega), if_neg (by omega), if_pos hf]
  · rw [e1] at hf; rw [c10 f hf]; unfold isQ; rw [w12 f hf]; exact ⟨rfl, rfl⟩
  · rw [e1] at hf
    rw [c10 f hf, w12 f hf, Nat.add_assoc 620, c20 _ (by omega)]
    unfold rfN; rw [if_neg (by omega), if_neg (by omega), if_pos hk]; exact congrArg nI (Nat.add_assoc _ _ _)
  · rw [e1] at hf
    obtain ⟨z6, z7, z8⟩ := hZ (10 * f + k) (by rw [h0]; omega) (by omega)
    rw [Nat.add_assoc 620, c20 _ (by omega), es 6 (by decide), es 7 (by decide), es 8 (by decide), z6, z7, z8]
    unfold isA; rw [w13 _ (by omega)]
    exact ⟨⟨rfl, rfl⟩, rfl, rfl, rfl⟩
  · rw [c3]; unfold isA; rw [w0 603 (by decide) (by decide)]; exact b3.1
  · rw [c3, w0 603 (by decide) (by decide), es 9 (by decide), t9 j hj]; exact b3.2 j hj
  · rw [c4]; unfold isQ; rw [w0 604 (by decide) (by decide)]; exact b4.1
  · obtain ⟨d1, d2, d3, d4⟩ := b4.2 u hu
    rw [c4, c6 u hu, w0 604 (by decide) (by decide), es 10 (by decide), es 11 (by decide), (t10 u hu).1, (t10 u hu).2]
    unfold isA; rw [w0 (605 + u) (by omega) (by omega)]
    exact ⟨d1, d2, d3, d4⟩
  · rw [c5, e2]; unfold isQ; rw [w0 609 (by decide) (by decide)]; exact b5
  · rw [e2] at hp; exact absurd hp (Nat.not_lt_zero _)
  · rw [e2] at hp; exact absurd hp (Nat.not_lt_zero _)
theorem Sim_hgt {s m : MG} {k : Nat} {o : Int32} (hI : IvM s) (hR : SimR s m) (hk : k < nfO s) : SimR (wr s 5 k o) (wr m 601 k o) := by
  have hf5 := (IvM_nf hI).1
  have hp6 := (IvM_np hI).1
  have hs : ∀ q, q ≠ 5 → wr s 5 k o q = s q := fun q hq => wr_row _ _ _ _ hq
  have hm : ∀ q, q ≠ 601 → wr m 601 k o q = m q := fun q hq => wr_row _ _ _ _ hq
  have e9 : ∀ j, wr m 601 k o 601 j = if j = k then o else m 601 j := fun j => by rw [wr_own]; rfl
  have s9 : ∀ j, wr s 5 k o 5 j = if j = k then o else s 5 j := fun j => by rw [wr_own]; rfl
  generalize wr s 5 k o = s' at *
  generalize wr m 601 k o = m' at *
  have h1 : nfO s' = nfO s := by unfold nfO; rw [hs 0 (by decide)]
  have h2 : npO s' = npO s := by unfold npO; rw [hs 0 (by decide)]
  obtain ⟨a1, a2, a3, a4, a5, a6, a7⟩ := hR
  refine ⟨?_, ⟨⟨?_, fun f hf => ?_⟩, ⟨?_, fun f hf => ?_⟩, fun f hf => ?_⟩, fun f c hf hc => ?_, ⟨?_, fun j hj => ?_⟩, a5.c (hs 10 (by decide)) (hs 11 (by decide)) (fun q hq => hm q (by omega)), ⟨?_, fun p hp => ?_⟩, fun p hp => ?_⟩
  · unfold SmS; rw [hm 600 (by decide), hs 0 (by decide)]; exact a1
  · unfold isA; rw [e9, e9, if_neg (by omega), if_neg (by omega), h1]; exact a2.1.1
  · rw [h1] at hf; rw [e9, s9, a2.1.2 f hf]
  · unfold isQ; rw [hm 602 (by decide), h1]; exact a2.2.1.1
  · rw [h1] at hf; rw [hm 602 (by decide)]; exact a2.2.1.2 f hf
  · rw [h1] at hf
    unfold isQ
    rw [hm (610 + f) (by omega)]
    exact a2.2.2 f hf
  · rw [h1] at hf
    unfold isA
    rw [hm (620 + 10 * f + c) (by omega), hs 6 (by decide), hs 7 (by decide), hs 8 (by decide)]
    exact a3 f c hf hc
  · unfold isA; rw [hm 603 (by decide)]; exact a4.1
  · rw [hm 603 (by decide), hs 9 (by decide)]; exact a4.2 j hj
  · unfold isQ; rw [hm 605 (by decide), h2]; exact a6.1
  · rw [hm 605 (by decide)]; rw [h2] at hp; exact a6.2 p hp
  · rw [h2] at hp
    obtain ⟨g1, g2, g3⟩ := a7 p hp
    refine ⟨?_, g2.c (hs 14 (by decide)) (hs 17 (by decide)) (IvM_nl hI (by omega)).2 (fun q hq => hm q (by omega)), g3.c (fun h => by rw [← hs 15 (by decide)]; exact h) (fun q hq => hs q (by omega)) (IvM_nl hI (by omega)).2 (fun q hq => hm q (by omega))⟩
    unfold PsF
    rw [hm (700 + 20 * p) (by omega), hs 12 (by decide), hs 13 (by decide), hs 15 (by decide), hs 16 (by decide)]
    exact g1
def sgB (n z : Nat) : Nat → Nat := fun q => if q = 605 then 906 + z else if q = 701 + 20 * n then 905 else if 700 + 20 * n ≤ q ∧ q < 705 + 20 * n then 900 + (q - (700 + 20 * n)) else if 705 + 20 * n ≤ q ∧ q < 705 + 20 * n + z then 906 + (q - (705 + 20 * n)) else q
theorem sgB_r {n z : Nat} (hn : n < 6) (hz : z ≤ 4) (q : Nat) (h6 : 600 ≤ q) (h9 : q < 900) : 600 ≤ sgB n z q ∧ sgB n z q < 1200 := by
  unfold sgB
  repeat' split
  all_goals omega
theorem sgB_inj {n z : Nat} (hn : n < 6) (a b : Nat) (a9 : a < 900) (b9 : b < 900) (h : sgB n z a = sgB n z b) : a = b := by
  unfold sgB at h
  repeat' split at h
  all_goals omega
theorem Cn_add {s s' m m1 : MG} {z : Nat} (hI : IvM s) (hR : SimR s m) (hnp : npO s < 6) (es : ∀ k, k ≠ 0 → k ≠ 12 → k ≠ 13 → k ≠ 14 → k ≠ 17 → s' k = s k) (e0 : ∀ j, j ≠ 2 → s' 0 j = s 0 j) (e2 : npO s' = npO s + 1) (e12 : ∀ q, q < npO s → s' 12 q = s 12 q ∧ s' 13 q = s 13 q ∧ s' 14 q = s 14 q) (e17 : ∀ j, j < 4 * npO s → s' 17 j = s 17 j) (y : s 15 (npO s) = 0 ∧ s 16 (npO s) = 0) (enl : nlO s' (npO s) = z)
    (w0 : ∀ q, 600 < q → q < 900 → m1 q = m q) (w6 : (∀ j, j ≠ 6 → m1 600 j = m 600 j) ∧ m1 600 6 = nI (906 + z))
    (w9 : m1 900 100000 = 5 ∧ m1 900 0 = s' 12 (npO s) ∧ m1 900 1 = s' 13 (npO s) ∧ m1 900 2 = nI 905 ∧ m1 900 3 = 0 ∧ m1 900 4 = 0 ∧ m1 900 5 = nI 902 ∧ m1 900 6 = nI 903 ∧ m1 900 7 = nI 904) (wl : isQ m1 2 905 z ∧ ∀ q, q < z → m1 905 q = nI (906 + q) ∧ LtR m1 (906 + q) (szw (wdO s' (4 * npO s + q))) (wdO s' (4 * npO s + q))) (wf : isA m1 902 0) (wa : isA m1 903 0)
    (wq : isQ m1 4 (906 + z) (npO s + 1) ∧ (∀ i, i < npO s → m1 (906 + z) i = m 605 i) ∧ m1 (906 + z) (npO s) = nI 900) : Cn s' m1 (sgB (npO s) z) := by
  have hσ : ∀ q, q ≠ 605 → ¬ (700 + 20 * npO s ≤ q ∧ q < 705 + 20 * npO s + z) → sgB (npO s) z q = q := fun q q1 q2 => by unfold sgB; rw [if_neg q1, if_neg (by omega), if_neg (by omega), if_neg (by omega)]
  have h605 : sgB (npO s) z 605 = 906 + z := if_pos rfl
  have hz4 : ∀ q, q < npO s → nlO s q ≤ 4 := fun q hq => (IvM_nl hI (by omega)).2
  refine Cn_mk hI hR (fun q q1 q2 q3 => hσ q q2 (by omega)) (fun q q1 q2 _ _ _ => w0 q q1 (by omega)) (e0 1 (by decide)) (fun q q1 q2 => es q (by omega) (by omega) (by omega) (by omega) (by omega)) ?_ ⟨?_, fun u hu => ?_⟩ ⟨?_, fun q hq => ?_⟩ (fun q hq => ?_)
  · obtain ⟨a1, a2, a3, a4, a5, a6, a7, a8⟩ := hR.1
    rw [w6.1 _ (by decide), w6.1 _ (by decide), w6.1 _ (by decide), w6.1 _ (by decide), w6.1 _ (by decide), w6.1 _ (by decide), w6.1 _ (by decide), w6.2, h605, e0 3 (by decide), e0 4 (by decide)]
    exact ⟨a1, a2, a3, a4, a5, a6, a7, rfl⟩
  · unfold isQ; rw [w0 604 (by decide) (by decide)]; exact hR.2.2.2.2.1.1
  · rw [hσ (606 + u) (by omega) (by omega)]
    unfold isA
    rw [w0 604 (by decide) (by decide), w0 (606 + u) (by omega) (by omega), es 10 (by decide) (by decide) (by decide) (by decide) (by decide), es 11 (by decide) (by decide) (by decide) (by decide) (by decide)]
    exact hR.2.2.2.2.1.2 u hu
  · rw [h605, e2]; exact wq.1
  · rw [e2] at hq
    rw [h605]
    by_cases hqn : q = npO s
    · rw [hqn, wq.2.2]
      unfold sgB
      rw [if_neg (by omega), if_neg (by omega), if_pos (by omega), Nat.sub_self]
    · rw [wq.2.1 q (by omega), hσ (700 + 20 * q) (by omega) (by omega)]
      exact hR.2.2.2.2.2.1.2 q (by omega)
  · rw [e2] at hq
    by_cases hqn : q = npO s
    · subst hqn
      have k0 : sgB (npO s) z (700 + 20 * npO s) = 900 := by unfold sgB; rw [if_neg (by omega), if_neg (by omega), if_pos (by omega), Nat.sub_self]
      have k1 : sgB (npO s) z (701 + 20 * npO s) = 905 := by unfold sgB; rw [if_neg (by omega), if_pos rfl]
      have k2 : sgB (npO s) z (702 + 20 * npO s) = 902 := by unfold sgB; rw [if_neg (by omega), if_neg (by omega), if_pos (by omega)]; omega
      have k3 : sgB (npO s) z (703 + 20 * npO s) = 903 := by unfold sgB; rw [if_neg (by omega), if_neg (by omega), if_pos (by omega)]; omega
      have k4 : sgB (npO s) z (704 + 20 * npO s) = 904 := by unfold sgB; rw [if_neg (by omega), if_neg (by omega), if_pos (by omega)]; omega
      have e15 : s' 15 (npO s) = 0 := by rw [es 15 (by decide) (by decide) (by decide) (by decide) (by decide)]; exact y.1
      refine ⟨?_, ⟨?_, fun c hc => ?_⟩, ⟨0, by decide, ?_⟩, ⟨0, by decide, ?_, fun h => ?_⟩, fun h => ?_⟩
      · rw [k0, k1, k2, k3, k4, e15, es 16 (by decide) (by decide) (by decide) (by decide) (by decide), y.2]
        exact w9
      · rw [k1, enl]; exact wl.1
      · rw [enl] at hc
        have k5 : sgB (npO s) z (705 + 20 * npO s + c) = 906 + c := by unfold sgB; rw [if_neg (by omega), if_neg (by omega), if_neg (by omega), if_pos (by omega)]; omega
        rw [k1, k5]
        exact wl.2 c hc
      · rw [k2]; exact wf
      · rw [k3]; exact wa
      · rw [e15] at h; exact absurd h (by decide)
      · rw [e15] at h; exact absurd h (by decide)
    · have hq' : q < npO s := by omega
      have h4 := hz4 q hq'
      exact CnP_c hI hR hq' (fun c z1 z2 => hσ c (by omega) (by omega)) (fun c z1 z2 => w0 c (by omega) (by omega)) ⟨(e12 q hq').1, (e12 q hq').2.1, (e12 q hq').2.2, by rw [es 15 (by decide) (by decide) (by decide) (by decide) (by decide)], by rw [es 16 (by decide) (by decide) (by decide) (by decide) (by decide)]⟩ (fun c hc => ⟨e17 _ (by omega), by rw [es 18 (by decide) (by decide) (by decide) (by decide) (by decide)], by rw [es 19 (by decide) (by decide) (by decide) (by decide) (by decide)], by rw [es 20 (by decide) (by decide) (by decide) (by decide) (by decide)]⟩)
