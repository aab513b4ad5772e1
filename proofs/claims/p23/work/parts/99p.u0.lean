/-! THE LAW'S SHOP against the class: what is counted; doubles; calls that do not throw -/
section VD2
variable {P : Pm} {R : Room} {Z : Zc} {cc : ByteArray} {own : String} {lo : Lo} {pc : Nat} {rest st : List Value} {g : MG} {cs sl : Nat}
theorem v_lcmp (C : Cx P Z cc own) {x y : Int64} (hdg : decode cc pc = .ok (.lcmp, 1)) (kk : V P R Z lo (pc + 1) (.int (lg_cmp x y) :: rest) g cs sl) : V P R Z lo pc (.long y :: .long x :: rest) g cs sl := by
  obtain ⟨p, l, e, s, m, args, below, meth, c, Q, nL⟩ := P
  exact fun ls H locs hl hw hS => W.lcmp C.1 C.2.1 hdg (kk ls H locs hl hw hS)
theorem v_dload (C : Cx P Z cc own) {i : Nat} {x : UInt64} (hdg : decode cc pc = .ok (.dload i, 2)) (hl0 : lo[i]? = some (some (.double x))) (kk : V P R Z lo (pc + 2) (.double x :: rest) g cs sl) : V P R Z lo pc rest g cs sl := by
  obtain ⟨p, l, e, s, m, args, below, meth, c, Q, nL⟩ := P
  exact fun ls H locs hl hw hS => lv_dload C.1 C.2.1 hdg (hl.at hl0) (kk ls H locs hl hw hS)
theorem v_dstore (C : Cx P Z cc own) {i : Nat} {x : UInt64} {lo' : Lo} (hdg : decode cc pc = .ok (.dstore i, 2)) (hlt : i + 1 < lo.length) (hck : ck1 lo i = true) (he : (lo.set i (some (.double x))).set (i + 1) none = lo') (kk : V P R Z lo' (pc + 2) rest g cs sl) : V P R Z lo pc (.double x :: rest) g cs sl := by
  obtain ⟨p, l, e, s, m, args, below, meth, c, Q, nL⟩ := P
  subst he
  exact fun ls H locs hl hw hS => lv_dstore C.1 C.2.1 hdg hl.2 (Nat.lt_of_lt_of_le hlt hl.1) rfl (fun ls' h' => kk ls' H locs (Lv.st2 hl.1 hlt hck h') hw hS)
theorem v_dcmp (C : Cx P Z cc own) {x y : UInt64} {op : CmpOp} (hdg : decode cc pc = .ok (.dcmp op, 1)) (kk : V P R Z lo (pc + 1) (.int (cmpValue (FP.dcmp x y) op) :: rest) g cs sl) : V P R Z lo pc (.double y :: .double x :: rest) g cs sl := by
  obtain ⟨p, l, e, s, m, args, below, meth, c, Q, nL⟩ := P
  exact fun ls H locs hl hw hS => lv_dcmp C.1 C.2.1 hdg (kk ls H locs hl hw hS)
theorem v_callVd (C : Cx P Z cc own) {y : MethodName} {cc' : ByteArray} {maxL idx n k ci N : Nat} {rm' : Room} {as : List Value} {post : UInt64 → MG → Prop} {Cn : String} {T : u_T} {fs : List Value} (hM : MDb P.2.1 y cc' maxL rm' Z (.ref (Z.ad k) :: as) g post) (hG : GoodIn wsG (wsV own idx Cn y (wz y cc' maxL (some .double))))
    (hd : y.cls = Cn ∧ y.cls ≠ "java/lang/invoke/MethodHandle" ∧ y.cls ≠ "java/lang/invoke/VarHandle" ∧ (parseMethodDescriptor y.desc).map (fun d => d.parameters.length) = some n) (hR : rm'.frames + 1 ≤ R.frames ∧ 8 + (maxL + 11) + rm'.locals ≤ R.locals) (hc : vwCl[ci]? = some (Cn, T, N)) (hk : cx Z.Y Z.ad Z.df g k = some (.inr (ci, fs))) (hn : as.length = n) (hst : st = as.reverse ++ .ref (Z.ad k) :: rest) (hr : (rest.map fun v => v.category).sum ≤ 8) (hdg : decode cc pc = .ok (.invokevirtual idx, 3)) (hf : cs + rm'.cells ≤ R.cells ∧ sl + rm'.slots ≤ R.slots)
    (kk : ∀ (r : UInt64) (g' : MG), post r g' → V P R Z lo (pc + 3) (.double r :: rest) g' (cs + rm'.cells) (sl + rm'.slots)) : V P R Z lo pc st g cs sl := by
  obtain ⟨p, l, e, s, m, args, below, meth, c, Q, nL⟩ := P
  subst hst
  intro ls H locs hl hw hS
  have hP : va_P Z.D vwCl [(Z.ad k, .inr (ci, fs))] H := by
    intro i q hq
    rcases List.mem_singleton.mp (List.mem_of_getElem? hq) with rfl
    exact (hw.1 k _ hk).1
  refine va_calld (va_runV (As := as) (rest := rest) ⟨C.1, C.2.1, C.2.2.1, C.2.2.2.1, C.2.2.2.2.1⟩ hM (cwV n C.2.2.2.2.1 hG rfl rfl rfl hd hR) ⟨Wd_fb, va_recv C.2.2.2.2.2.1 hP hc (q0 := 0) rfl, fun U hU hW => ⟨rfl, Wd_of hw C.2.2.2.2.2.1 C.2.2.2.2.2.2.1 C.2.2.2.2.2.2.2.2 hS hU hW.alike⟩⟩ rfl hn hl.2.1 rfl (lv_room hr) hdg hf) hS (fun _ _ h => h) (fun _ h => h) (fun r u t H1 locs1 ht hvm hp hB hz1 hk1 hS1 => ?_)
  refine kk r u hp ls H1 locs1 hl ?_ hS1
  rw [← ht]; exact hB.1
end VD2
theorem cdB_0 {s : MG} (hI : IvM s) {f k v : Nat} (hf : f < nfO s) (hk : k < 10) (hv : v < 3) : cdBlock s (nI f) (nI k) (nI v) = 0 := by
  have hf5 := (IvM_nf hI).1
  unfold cdBlock isFL
  rw [isN_of hf (by omega), isN_of hk (by decide), (show inB (nI v) 0 2 = true from inB_of (n := 2) (by omega) (by decide))]
  rfl
theorem cdT_0 {s : MG} (hI : IvM s) {p v : Nat} (hp : p < npO s) (hv : v < 8) : cdTold s (nI p) (nI v) = 0 := by
  have hp6 := (IvM_np hI).1
  unfold cdTold
  rw [isN_of hp (by omega), (show inB (nI v) 0 7 = true from inB_of (n := 7) (by omega) (by decide))]
  rfl
theorem cdA_0 {s : MG} (hI : IvM s) {p k v : Nat} (hp : p < npO s) (hk : k < nlO s p) (hv : v < 4) : cdAbout s (nI p) (nI k) (nI v) = 0 := by
  have hp6 := (IvM_np hI).1
  have h4 := (IvM_nl hI (show p < 6 by omega)).2
  unfold cdAbout
  rw [iz_nI (by omega), isN_of hp (by omega), isN_of hk (by omega), (show inB (nI v) 0 3 = true from inB_of (n := 3) (by omega) (by decide))]
  rfl
theorem cdC_0 {v : Nat} (hv : v < 7) : cdCount (nI v) = 0 := by
  unfold cdCount
  rw [(show inB (nI v) 0 6 = true from inB_of (n := 6) (by omega) (by decide))]
  rfl
theorem at_n {f k : Nat} (hf : f < 5) (hk : k < 10) : atO (nI f) (nI k) = 10 * f + k := by unfold atO; rw [iz_nI (by omega), iz_nI (by omega)]
/-- what the law counts: of x blocks, of p posters -/
def cT (s : MG) (x p : Nat) : Nat → Int32 := fun j => match j with
  | 0 => nI (nfO s)
  | 1 => nI (npO s)
  | 2 => sumI (s 15) p
  | 3 => s 0 3
  | 4 => s 0 4
  | 5 => sumI (s 6) x
  | _ => sumI (s 7) x
/-- a row of n numbers at 900, all else as in m -/
def CtI (m m1 : MG) (n : Nat) (c : Nat → Int32) : Prop := (∀ q, q ≠ 900 → m1 q = m q) ∧ isA m1 900 n ∧ ∀ j, j < n → m1 900 j = c j
theorem CtI.w {m m1 : MG} {n : Nat} {c c' : Nat → Int32} (h : CtI m m1 n c) (hn : n < 1000) {a : Nat} {x : Int32} (ha : c' a = x) (hc : ∀ j, j < n → j ≠ a → c' j = c j) (h9 : a < n) : CtI m (wr m1 900 a x) n c' := by
  refine ⟨fun q hq => by rw [wr_row _ _ _ _ hq]; exact h.1 q hq, ⟨by rw [wr_ne _ _ _ _ (Or.inr (by omega))]; exact h.2.1.1, by rw [wr_ne _ _ _ _ (Or.inr (by omega))]; exact h.2.1.2⟩, fun j hj => ?_⟩
  by_cases hja : j = a
  · rw [hja, wr_same, ha]
  · rw [wr_ne _ _ _ _ (Or.inr hja), hc j hj hja]; exact h.2.2 j hj
theorem CtI.Fr {m m1 : MG} {n : Nat} {c : Nat → Int32} (h : CtI m m1 n c) (hF : Fr m 900) : Fr m1 901 := by
  obtain ⟨h1, h2, h3⟩ := hF
  refine ⟨⟨by omega, by omega⟩, fun k hk => by rw [h.1 k (by omega)]; exact h2 k (by omega), fun k k1 k2 => ?_⟩
  by_cases hk : k = 900
  · rw [hk]
    intro j hj
    rw [h.2.1.1] at hj
    exact absurd hj (by simp [isrf])
  · rw [h.1 k hk]; exact (h3 k k1 (by omega)).le (by omega)
theorem CtI.bl {s m m1 : MG} {x p : Nat} (h : CtI m m1 7 (cT s x p)) : CtI m (wr (wr m1 900 5 (sumI (s 6) (x + 1))) 900 6 (sumI (s 7) (x + 1))) 7 (cT s (x + 1) p) := by
  have h1 : CtI m (wr m1 900 5 (sumI (s 6) (x + 1))) 7 (upd (cT s x p) 5 (sumI (s 6) (x + 1))) := h.w (by decide) (if_pos rfl) (fun j _ hj => if_neg hj) (by decide)
  refine h1.w (by decide) rfl (fun j hj hj6 => ?_) (by decide)
  unfold upd
  by_cases h5 : j = 5
  · rw [if_pos h5, h5]; rfl
  · rw [if_neg h5]
    rcases j with _ | _ | _ | _ | _ | _ | _ | j
    · rfl
    · rfl
    · rfl
    · rfl
    · rfl
    · exact absurd rfl h5
    · exact absurd rfl hj6
    · omega
