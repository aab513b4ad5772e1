/-! ===== BEGIN new T[n][m]: the outer array a place, the inner ones among the pooled ===== -/
/-- f, but v at every address of l -/
def vr_up {α : Type} (f : Nat → α) (l : List Nat) (v : α) : Nat → α := fun a => if a ∈ l then v else f a
theorem vr_up_in {α : Type} {f : Nat → α} {l : List Nat} {v : α} {a : Nat} (h : a ∈ l) : vr_up f l v a = v := if_pos h
theorem vr_up_ne {α : Type} {f : Nat → α} {l : List Nat} {v : α} {a : Nat} (h : a ∉ l) : vr_up f l v a = f a := if_neg h
theorem vr_rows {L l : List Nat} {f : Nat → va_E} {e : va_E} (h : ∀ a, a ∈ l → a ∉ L) : va_pl L f ++ l.map (fun a => (a, e)) = va_pl (L ++ l) (vr_up f l e) := by
  unfold va_pl
  rw [List.map_append]
  congr 1
  · apply List.map_congr_left
    intro a ha
    rw [vr_up_ne (fun q => h a q ha)]
  · apply List.map_congr_left
    intro a ha
    rw [vr_up_in ha]
theorem vr_lay {X rows : va_W} {x : Nat × va_E} {pl : va_W} {D : va_G} {cl : List vw_C} {H : Heap} (hP : va_P D cl (((X ++ pl) ++ [x]) ++ rows) H) : va_P D cl ((X ++ [x]) ++ (pl ++ rows)) H := by
  rw [List.append_assoc (X ++ pl)] at hP
  have h := va_P.swap hP
  rw [← List.append_assoc X] at h
  have h2 := va_P.swap h
  rw [List.append_assoc (X ++ [x])] at h2
  exact h2
theorem vr_layD {X rows : va_W} {x : Nat × va_E} {pl : va_W} {A : Nat → Prop} (hD : va_D A (((X ++ pl) ++ [x]) ++ rows)) : va_D A ((X ++ [x]) ++ (pl ++ rows)) := by
  rw [List.append_assoc (X ++ pl)] at hD
  have h := va_D.swap hD
  rw [← List.append_assoc X] at h
  have h2 := va_D.swap h
  rw [List.append_assoc (X ++ [x])] at h2
  exact h2
theorem vr_outer (c : ClassId) (N h0 : Nat) : ∀ i : Nat, Jvm.Free.Multi.outerC c N h0 i = arrV c N (fun j => va_rf (if j < i then some (h0 + 1 + j) else none))
  | 0 => by
    show ({ cls := c, slots := Array.replicate N .null, vm := .none } : Cell) = _
    rw [arrV_new]
    refine congrArg (arrV c N) (funext fun j => ?_)
    simp [va_rf]
  | i + 1 => by
    show (Jvm.Free.Multi.outerC c N h0 i).setSlot i (.ref (h0 + 1 + i)) = _
    rw [vr_outer c N h0 i, arrV_store]
    refine congrArg (arrV c N) (funext fun j => ?_)
    by_cases e : j = i
    · subst e
      simp [updV, va_rf]
    · by_cases h : j < i
      · simp [updV, e, h, Nat.lt_succ_of_lt h]
      · simp [updV, e, h, show ¬ j < i + 1 by omega]
section VGM
variable {p : Program} {l : Launch} {e : Env} {R : Room} {s : State} {m : MethodId} {args : Array Value} {below : List Frame} {meth : Method} {c : Code} {H : Heap} {locs : List Loc} {cells slots : Nat} {Q : State → Prop}
variable {cc : ByteArray} {pc : Nat} {ls : Array Slot} {rest : List Value} {D : va_G} {cl : List vw_C} {A : Nat → Prop} {a : Nat} {tys : List (ClassId × FieldType)} {ws : va_W} {H0 : Heap}
theorem va_mna {X : va_W} {L : List Nat} {f : Nat → va_E} {cc : ByteArray} (hexec : p.tables.exec = Jvm.exec) (hb : c.code = cc) {own : String} {index : Nat} {ty : FieldType} {cy : ClassId} (hown : s.vm.findClass own = some m.cls) (hclink : (Cond.classLink own index ("[" ++ (FieldType.array ty).toString)).before args s = true) (hover : va_AOA ty s) (harr : (Cond.arrayClass ty).before args s = true) (hcy : s.vm.findClass (FieldType.array ty).toString = some cy)
    (hK : va_K D cl tys s) (hP : va_P D cl (X ++ va_pl L f) H) (hD : va_D A (X ++ va_pl L f)) (hS : va_S A H0 H locs) (hA : ∀ q, H0.size ≤ q → A q) {n k : Int32} {N' K' : Nat} {z : vp_A} (hn : ¬ n < 0) (hk : ¬ k < 0) (hN : n.toNatClampNeg = N') (hM : k.toNatClampNeg = K')
    (hb1 : N' * 4 ≤ 536870912) (hb2 : K' * componentBytes ty ≤ 536870912) (hb3 : K' ≤ 536870912) (hdf : fits ty (defaultValue ty) = true) (hdd : (defaultValue ty).isDefault = true) (hcells : cells + (1 + N') ≤ R.cells) (hslots : slots + (N' + N' * K') ≤ R.slots) (hz : ∀ c : ClassId, Jvm.Free.Multi.innerC c K' (defaultValue ty) = vp_cell c z) (hdg : decode cc pc = .ok (.multianewarray index 2, 4))
    (kk : ∀ (q : Nat) (r : Nat → Nat) (cA : ClassId) (H1 : Heap), (∀ i j : Nat, i < N' → j < N' → r i = r j → i = j) → (∀ i : Nat, i < N' → r i ∉ L) → va_K D cl (tys ++ [(cA, .array ty)]) s →
      va_P D cl ((X ++ [(q, .inl (cA, N', .inr (.inr (.inr (.inr (fun i => if i < N' then some (r i) else none))))))]) ++ va_pl (L ++ (List.range N').map r) (vr_up f ((List.range N').map r) (.inl (cy, z)))) H1 → va_D A ((X ++ [(q, .inl (cA, N', .inr (.inr (.inr (.inr (fun i => if i < N' then some (r i) else none))))))]) ++ va_pl (L ++ (List.range N').map r) (vr_up f ((List.range N').map r) (.inl (cy, z)))) → va_S A H0 H1 locs →
      W p l e R s m args below meth c H1 locs (cells + 1 + N') (slots + N' + N' * K') Q (F0 m (pc + 4) ls (.ref q :: rest))) : W p l e R s m args below meth c H locs cells slots Q (F0 m pc ls (.int k :: .int n :: rest)) := by
  subst hN
  subst hM
  intro T hT Xs
  obtain ⟨vm₁, cA, comp, -, fA, fC, hO, -, X', step⟩ := Xs.multianewarray2F hexec hown hclink (va_AOA.use hover) harr (g := F0 m pc ls (.int k :: .int n :: rest)) rfl (by rw [hb]; exact hdg) rfl hn hk hb1 hb2 hb3 hdf hdd hcells hslots
  have ec : some cy = some comp := hcy.symm.trans fC
  cases ec
  generalize hF : Jvm.Free.Multi.fill (T.setVm vm₁) cA cy n.toNatClampNeg k.toNatClampNeg (defaultValue ty) n.toNatClampNeg = F at X' step
  have hTh : (T.setVm vm₁).heap = H := hT
  obtain ⟨f1, f2, -, -⟩ := Jvm.Free.Multi.fill_facts (T.setVm vm₁) cA cy n.toNatClampNeg k.toNatClampNeg (defaultValue ty) n.toNatClampNeg
  rw [hF, hTh] at f1 f2
  have hold : ∀ x : Nat, x < H.size → F.heap[x]? = H[x]? := fun x hx => by
    have := Jvm.Free.Multi.fill_old (T.setVm vm₁) cA cy n.toNatClampNeg k.toNatClampNeg (defaultValue ty) (a := x) (by rw [hTh]; exact hx) n.toNatClampNeg
    rw [hF, hTh] at this
    exact this
  have hrow : ∀ j : Nat, j < n.toNatClampNeg → F.heap[H.size + 1 + j]? = some (vp_cell cy z) := fun j hj => by
    have := Jvm.Free.Multi.fill_inner (T.setVm vm₁) cA cy n.toNatClampNeg k.toNatClampNeg (defaultValue ty) n.toNatClampNeg j hj
    rw [hF, hTh, hz] at this
    exact this
  have hout : Jvm.Free.Multi.outerC cA n.toNatClampNeg H.size n.toNatClampNeg = vp_cell cA (n.toNatClampNeg, .inr (.inr (.inr (.inr (fun i => if i < n.toNatClampNeg then some (H.size + 1 + i) else none))))) := by
    rw [vp_cell_q]
    exact vr_outer cA n.toNatClampNeg H.size n.toNatClampNeg
  rw [hout] at f2
  have hlt : ∀ a, a ∈ L → a < H.size := fun a ha => by
    obtain ⟨k9, hk9⟩ := va_pl_get (X := X) (f := f) ha
    exact (hP k9 _ hk9).lt
  have hnl : ∀ i : Nat, i < n.toNatClampNeg → H.size + 1 + i ∉ L := fun i _ h => by
    have := hlt _ h
    omega
  have hnm : ∀ a, a ∈ (List.range n.toNatClampNeg).map (fun i => H.size + 1 + i) → a ∉ L := fun a ha h => by
    obtain ⟨i, -, rfl⟩ := List.mem_map.mp ha
    have := hlt _ h
    omega
  have hP0 : va_P D cl (X ++ va_pl L f) F.heap := hP.kept (fun k9 x hx => hold x.1 ((hP k9 x hx).lt))
  have hP1 : va_P D cl ((X ++ va_pl L f) ++ [(H.size, .inl (cA, n.toNatClampNeg, .inr (.inr (.inr (.inr (fun i => if i < n.toNatClampNeg then some (H.size + 1 + i) else none))))))]) F.heap := hP0.app (fun k9 x hx => by
    have h0 : k9 < 1 := (List.getElem?_eq_some_iff.mp hx).1
    rw [show k9 = 0 by omega] at hx
    cases hx
    exact f2)
  have hP2 : va_P D cl (((X ++ va_pl L f) ++ [(H.size, .inl (cA, n.toNatClampNeg, .inr (.inr (.inr (.inr (fun i => if i < n.toNatClampNeg then some (H.size + 1 + i) else none))))))]) ++ ((List.range n.toNatClampNeg).map (fun i => H.size + 1 + i)).map (fun a => (a, .inl (cy, z)))) F.heap := hP1.app (fun k9 x hx => by
    obtain ⟨a, ha, rfl⟩ := List.mem_map.mp (List.mem_of_getElem? hx)
    obtain ⟨i, hi, rfl⟩ := List.mem_map.mp ha
    exact hrow i (List.mem_range.mp hi))
  have hD2 : va_D A (((X ++ va_pl L f) ++ [(H.size, .inl (cA, n.toNatClampNeg, .inr (.inr (.inr (.inr (fun i => if i < n.toNatClampNeg then some (H.size + 1 + i) else none))))))]) ++ ((List.range n.toNatClampNeg).map (fun i => H.size + 1 + i)).map (fun a => (a, .inl (cy, z)))) := by
    have hD1 := hD.push (e := .inl (cA, n.toNatClampNeg, .inr (.inr (.inr (.inr (fun i => if i < n.toNatClampNeg then some (H.size + 1 + i) else none)))))) hP rfl (hA _ hS.1)
    generalize hW1 : (X ++ va_pl L f) ++ [(H.size, .inl (cA, n.toNatClampNeg, .inr (.inr (.inr (.inr (fun i => if i < n.toNatClampNeg then some (H.size + 1 + i) else none))))))] = W1 at hD1 hP1 ⊢
    have hle : ∀ (k9 : Nat) (x : Nat × va_E), W1[k9]? = some x → x.1 ≤ H.size := fun k9 x hx => by
      rw [← hW1] at hx
      by_cases hl : k9 < (X ++ va_pl L f).length
      · rw [List.getElem?_append_left hl] at hx
        exact Nat.le_of_lt ((hP k9 x hx).lt)
      · rw [List.getElem?_append_right (by omega)] at hx
        have h0 : k9 - (X ++ va_pl L f).length < 1 := (List.getElem?_eq_some_iff.mp hx).1
        rw [show k9 - (X ++ va_pl L f).length = 0 by omega] at hx
        cases hx
        exact Nat.le_refl _
    have hr : ∀ (k9 : Nat) (x : Nat × va_E), (((List.range n.toNatClampNeg).map (fun i => H.size + 1 + i)).map (fun a => ((a, .inl (cy, z)) : Nat × va_E)))[k9]? = some x → x.1 = H.size + 1 + k9 := fun k9 x hx => by
      rw [List.getElem?_map, List.getElem?_map] at hx
      by_cases h9 : k9 < n.toNatClampNeg
      · rw [List.getElem?_range h9] at hx
        cases hx
        rfl
      · have hn0 : (List.range n.toNatClampNeg)[k9]? = none := List.getElem?_eq_none (by rw [List.length_range]; omega)
        rw [hn0] at hx
        cases hx
    refine ⟨fun i j x y hi hj hxy => ?_, fun k9 x hx => ?_⟩
    · by_cases h1 : i < W1.length <;> by_cases h2 : j < W1.length
      · rw [List.getElem?_append_left h1] at hi
        rw [List.getElem?_append_left h2] at hj
        exact hD1.1 i j x y hi hj hxy
      · rw [List.getElem?_append_left h1] at hi
        rw [List.getElem?_append_right (by omega)] at hj
        have := hle _ _ hi
        have := hr _ _ hj
        omega
      · rw [List.getElem?_append_right (by omega)] at hi
        rw [List.getElem?_append_left h2] at hj
        have := hle _ _ hj
        have := hr _ _ hi
        omega
      · rw [List.getElem?_append_right (by omega)] at hi hj
        have := hr _ _ hi
        have := hr _ _ hj
        omega
    · by_cases h1 : k9 < W1.length
      · rw [List.getElem?_append_left h1] at hx
        exact hD1.2 k9 x hx
      · rw [List.getElem?_append_right (by omega)] at hx
        have := hr _ _ hx
        exact hA _ (by have := hS.1; omega)
  have hAr : ArrOfT s cA (.array ty) := fun N9 z9 => by
    obtain ⟨-, k9, hk9, cm9, hkk9⟩ := (hO 0 0 0).1
    exact ⟨(fun q hq => by cases hq), k9, hk9, cm9, hkk9⟩
  have hK2 : va_K D cl (tys ++ [(cA, .array ty)]) s := ⟨hK.1, fun k9 x hx => by
    by_cases hl : k9 < tys.length
    · rw [List.getElem?_append_left hl] at hx
      exact hK.2 k9 x hx
    · rw [List.getElem?_append_right (by omega)] at hx
      have h0 : k9 - tys.length < 1 := (List.getElem?_eq_some_iff.mp hx).1
      rw [show k9 - tys.length = 0 by omega] at hx
      cases hx
      exact ⟨hAr, fA⟩⟩
  obtain ⟨t, a1, b1⟩ := kk H.size (fun i => H.size + 1 + i) cA F.heap (fun i j _ _ h => by have h9 : H.size + 1 + i = H.size + 1 + j := h; omega) hnl hK2 (by rw [← vr_rows hnm]; exact vr_lay hP2) (by rw [← vr_rows hnm]; exact vr_layD hD2) ⟨by rw [f1]; have := hS.1; omega, fun x h1 h2 => (hold x (Nat.lt_of_lt_of_le h1 hS.1)).trans (hS.2.1 x h1 h2), hS.2.2⟩ F rfl X'
  refine ⟨t, step t ?_, b1⟩
  have e : T.heap.size = H.size := by rw [hT]
  rw [e]
  exact a1
end VGM
/-! ===== END ===== -/
/-! THE LAW'S CELLS: rows of rows come anew -/
def adM (ad r : Nat → Nat) (T n : Nat) : Nat → Nat := fun k => if T ≤ k ∧ k < T + n then r (k - T) else ad k
def mM (m : MG) (T n : Nat) (row : Nat → Int32) : MG := fun k => if T ≤ k ∧ k < T + n then row else m k
def rO (T N : Nat) : Nat → Int32 := fun j => if j = 100000 then 2 else if j = 100001 then nI N else if j < N then nI (T + j) else 0
def m2M (m : MG) (T N K : Nat) : MG := rwr (mM m T N (rN 1 K)) (T + N) (rO T N)
theorem Fr_mM {m : MG} {T n K : Nat} (h : Fr m T) (hT : T + n ≤ 1200) : Fr (mM m T n (rN 1 K)) (T + n) := by
  obtain ⟨⟨h1, h2⟩, h3, h4⟩ := h
  refine ⟨⟨by omega, hT⟩, fun k hk => by unfold mM; rw [if_neg (by omega)]; exact h3 k (by omega), fun k k1 k2 => ?_⟩
  unfold mM
  by_cases hk : T ≤ k ∧ k < T + n
  · rw [if_pos hk]; intro j hj; exact absurd hj (by rw [rN_k]; simp [isrf])
  · rw [if_neg hk]; exact (h4 k k1 (by omega)).le (by omega)
theorem rO_R {T N : Nat} (hN : N < 600) (hT : 600 ≤ T ∧ T + N ≤ 1200) : RfR (rO T N) (T + N + 1) := by
  intro j _
  unfold rO
  by_cases h1 : j = 100000
  · rw [if_pos h1]; have : iz (2 : Int32) = 2 := rfl; omega
  · rw [if_neg h1]
    by_cases h2 : j = 100001
    · rw [if_pos h2, iz_nI (by omega)]; omega
    · rw [if_neg h2]
      by_cases h3 : j < N
      · rw [if_pos h3, iz_nI (by omega)]; omega
      · rw [if_neg h3]; have : iz (0 : Int32) = 0 := rfl; omega
theorem Fr_m2M {m : MG} {T N K : Nat} (h : Fr m T) (hN : N < 600) (hT : T + N + 1 ≤ 1200) : Fr (m2M m T N K) (T + N + 1) := (Fr_mM h (by omega)).new (by omega) (rO_R hN ⟨h.1.1, by omega⟩)
theorem cx_low {Z : Zc} {g : MG} {ad ad' : Nat → Nat} {m m' : MG} {T k : Nat} (hwf : Wf g) (hF : Fr m T) (hA : ∀ q, q < T → ad' q = ad q) (hm : ∀ q, 600 ≤ q → q < T → m' q = m q) (hk : k < T) : cx (Z.wl ad' m').Y ad' Z.df g k = cx (Z.wl ad m).Y ad Z.df g k := by
  have h6 := hF.1
  by_cases h1 : k < 600
  · exact ((cx_Y (Y := Z.Y) h1).trans (cx_ad hwf (fun q hq => hA q (by omega)) h1)).trans (cx_Y (Y := Z.Y) h1).symm
  · rw [cx_law ⟨by omega, by omega⟩, cx_law ⟨by omega, by omega⟩]
    show cW (Z.Y.w m') ad' (m' k) = cW (Z.Y.w m) ad (m k)
    rw [hm k (by omega) hk]
    exact cW_rf (hF.2.2 k (by omega) hk) (fun q _ hq => hA q hq)
theorem Hw_rows {Z : Zc} {g : MG} {H1 : Heap} {ad r : Nat → Nat} {m : MG} {T N K : Nat} (hw : HwZ (Z.wl ad m) g H1) (hF : Fr m T) (hT : T + N ≤ 1200) (hK : K < 1000) (hz : ∀ i, i < N → Z.z ≤ r i) (hat : ∀ i, i < N → va_at Z.D vwCl (r i, .inl (Z.Y.1, K, .inl (rN 1 K))) H1) (hinj : ∀ i j, i < N → j < N → r i = r j → i = j) (hne : ∀ i, i < N → ∀ k, cx (Z.wl ad m).Y ad Z.df g k ≠ none → ad k ≠ r i) : ∀ n, n ≤ N → HwZ (Z.wl (adM ad r T n) (mM m T n (rN 1 K))) g H1 := by
  intro n
  induction n with
  | zero =>
    intro _
    have e1 : adM ad r T 0 = ad := by funext k; unfold adM; rw [if_neg (by omega)]
    have e2 : mM m T 0 (rN 1 K) = m := by funext k; unfold mM; rw [if_neg (by omega)]
    rw [e1, e2]; exact hw
  | succ n ih =>
    intro hn
    have hwn := ih (by omega)
    have e1 : adM ad r T (n + 1) = upN (adM ad r T n) (T + n) (r n) := by
      funext k
      unfold adM upN
      by_cases h : k = T + n
      · rw [if_pos (by omega), if_pos h, h, Nat.add_sub_cancel_left]
      · rw [if_neg h]
        by_cases h2 : T ≤ k ∧ k < T + n
        · rw [if_pos (by omega)]; exact (if_pos h2).symm
        · rw [if_neg (by omega)]; exact (if_neg h2).symm
    have e2 : mM m T (n + 1) (rN 1 K) = rwr (mM m T n (rN 1 K)) (T + n) (rN 1 K) := by
      funext k
      unfold mM rwr
      by_cases h : k = T + n
      · rw [if_pos (by omega), if_pos h]
      · rw [if_neg h]
        by_cases h2 : T ≤ k ∧ k < T + n
        · rw [if_pos (by omega)]; exact (if_pos h2).symm
        · rw [if_neg (by omega)]; exact (if_neg h2).symm
    rw [e1, e2]
    refine Hw_grow0 (Z := Z.wl (adM ad r T n) (mM m T n (rN 1 K))) hwn (Fr_mM hF (by omega)) (by omega) (hz n (by omega)) (hat n (by omega)) (fun k hk hka => ?_) (fun k e0 h0 => (hwn.1 k e0 h0).1) (cW_1 (rN_k _ _) (rN_l _ _) (by omega))
    have hka : adM ad r T n k = r n := hka
    by_cases h1 : T ≤ k ∧ k < T + n
    · have h2 : adM ad r T n k = r (k - T) := if_pos h1
      rw [h2] at hka
      have := hinj (k - T) n (by omega) (by omega) hka
      omega
    · have h2 : adM ad r T n k = ad k := if_neg h1
      rw [h2] at hka
      by_cases h3 : k < T
      · have h4 : cx (Z.wl (adM ad r T n) (mM m T n (rN 1 K))).Y (adM ad r T n) Z.df g k = cx (Z.wl ad m).Y ad Z.df g k := cx_low (Z := Z) hw.2.2 hF (fun q hq => if_neg (by omega)) (fun q _ hq => if_neg (by omega)) h3
        exact hne n (by omega) k (by rw [← h4]; exact hk) hka
      · by_cases h5 : k < 1200
        · have h6 : cx (Z.wl (adM ad r T n) (mM m T n (rN 1 K))).Y (adM ad r T n) Z.df g k = none := (cx_law ⟨by have := hF.1.1; omega, h5⟩).trans (cW_0 (by show mM m T n (rN 1 K) k 100000 = 0; unfold mM; rw [if_neg h1]; exact hF.2.1 k (by omega)))
          exact hk h6
        · exact hk (cx_top _ _ _ _ (by omega))
section LM2
variable {P : Pm} {R : Room} {Z : Zc} {cc : ByteArray} {own : String} {lo : Lo} {pc : Nat} {rest st : List Value} {g : MG} {cs sl : Nat} {ad : Nat → Nat} {m : MG} {T : Nat}
theorem l_multi2 (C : Cx P Z cc own) (hL : CxL P) (hF : Fr m T) {N K idx : Nat} (hT : T + N + 1 ≤ 1200) (hK : K < 1000) (hlink : Cond.classLink own idx "[[I" ∈ wsG) (hcells : cs + (1 + N) ≤ R.cells) (hslots : sl + (N + N * K) ≤ R.slots) (hdg : decode cc pc = .ok (.multianewarray idx 2, 4))
    (kk : ∀ ad' : Nat → Nat, (∀ k, k < T → ad' k = ad k) → V P R (Z.wl ad' (m2M m T N K)) lo (pc + 4) (.ref (ad' (T + N)) :: rest) g (cs + 1 + N) (sl + N + N * K)) : V P R (Z.wl ad m) lo pc (.int (nI K) :: .int (nI N) :: rest) g cs sl := by
  have h6 := hF.1.1
  obtain ⟨p, l, e, s, mm, args, below, meth, c, Q, nL⟩ := P
  intro ls H locs hl hw hS
  obtain ⟨hPw, hDw⟩ := Hw_P hw
  have e0 : ("[" ++ (FieldType.array FieldType.int).toString) = "[[I" := by decide +kernel
  have hcy : s.vm.findClass (FieldType.array FieldType.int).toString = some Z.Y.1 := (C.2.2.2.2.2.1.2 0 _ rfl).2
  have ew : ∀ f : Nat → va_E, wL (Z.wl ad m).Y (Z.wl ad m).ad (Z.wl ad m).df g ++ va_pl [] f = wL (Z.wl ad m).Y (Z.wl ad m).ad (Z.wl ad m).df g := fun f => List.append_nil _
  refine va_mna (D := Z.D) (A := A0 Z.z) (ty := .int) (X := wL (Z.wl ad m).Y (Z.wl ad m).ad (Z.wl ad m).df g) (L := []) (f := fun _ => .inr (0, [])) (z := (K, .inl (rN 1 K))) C.1 C.2.1 C.2.2.2.1 (by rw [e0]; exact C.2.2.2.2.1 _ hlink) hL.2.2.1 (C.2.2.2.2.1 _ (tg1 88 rfl rfl)) hcy C.2.2.2.2.2.1 (by rw [ew]; exact hPw) (by rw [ew]; exact hDw) hS (fun q hq => Nat.le_trans C.2.2.2.2.2.2.1 hq) (nI_pos (by omega)) (nI_pos (by omega)) (nI_clamp (by omega)) (nI_clamp (by omega)) (by omega) (by show K * 4 ≤ 536870912; omega) (by omega) rfl rfl hcells hslots (fun c9 => ?_) hdg (fun q r cA H1 hinj _ hK1 hP1 hD1 hS1 => ?_)
  · rw [vp_cell_i, arrV_c c9 K (f' := fun _ => .int 0) (fun j hj => by rw [rN_0 _ _ (by omega)]), ← arrV_new]
    rfl
  · have hcA : cA = Z.Y.2.2.1 := by
      have h1 : s.vm.findClass ("[" ++ (FieldType.array .int).toString) = some cA := (hK1.2 6 _ rfl).2
      have h2 : s.vm.findClass ("[" ++ (FieldType.array .int).toString) = some Z.Y.2.2.1 := (C.2.2.2.2.2.1.2 2 _ rfl).2
      exact Option.some.inj (h1.symm.trans h2)
    subst hcA
    have hW : ∀ k e9, cx (Z.wl ad m).Y ad Z.df g k = some e9 → ∃ i, i < (wL (Z.wl ad m).Y ad Z.df g).length ∧ (wL (Z.wl ad m).Y ad Z.df g)[i]? = some (ad k, e9) := fun k e9 h9 => by
      obtain ⟨i, hi⟩ := List.getElem?_of_mem (wL_mem.mpr ⟨k, h9, rfl⟩ : ((ad k, e9) : Nat × va_E) ∈ wL (Z.wl ad m).Y ad Z.df g)
      exact ⟨i, (List.getElem?_eq_some_iff.mp hi).1, hi⟩
    have ewd : wL (Z.wl ad m).Y (Z.wl ad m).ad (Z.wl ad m).df g = wL (Z.wl ad m).Y ad Z.df g := rfl
    rw [ewd] at hP1 hD1
    generalize hwl : wL (Z.wl ad m).Y ad Z.df g = w at hP1 hD1 hW
    have hq9 : ((w ++ [(q, .inl (Z.Y.2.2.1, N, .inr (.inr (.inr (.inr (fun i => if i < N then some (r i) else none))))))]) ++ va_pl ([] ++ (List.range N).map r) (vr_up (fun _ => (.inr (0, []) : va_E)) ((List.range N).map r) (.inl (Z.Y.1, (K, .inl (rN 1 K))))))[w.length]? = some (q, .inl (Z.Y.2.2.1, N, .inr (.inr (.inr (.inr (fun i => if i < N then some (r i) else none)))))) := by
      rw [List.getElem?_append_left (by simp), List.getElem?_append_right (Nat.le_refl _), Nat.sub_self]; rfl
    have hr9 : ∀ i, i < N → ((w ++ [(q, .inl (Z.Y.2.2.1, N, .inr (.inr (.inr (.inr (fun i => if i < N then some (r i) else none))))))]) ++ va_pl ([] ++ (List.range N).map r) (vr_up (fun _ => (.inr (0, []) : va_E)) ((List.range N).map r) (.inl (Z.Y.1, (K, .inl (rN 1 K))))))[w.length + 1 + i]? = some (r i, .inl (Z.Y.1, K, .inl (rN 1 K))) := fun i hi => by
      rw [List.getElem?_append_right (by simp)]
      have : w.length + 1 + i - (w ++ [(q, (.inl (Z.Y.2.2.1, N, .inr (.inr (.inr (.inr (fun i => if i < N then some (r i) else none))))) : va_E))]).length = i := by simp
      rw [this]
      unfold va_pl
      rw [List.nil_append, List.getElem?_map, List.getElem?_map, List.getElem?_range hi]
      show some (r i, vr_up _ _ _ (r i)) = _
      rw [vr_up_in (List.mem_map.mpr ⟨i, List.mem_range.mpr hi, rfl⟩)]
    have ho9 : ∀ k e9, cx (Z.wl ad m).Y ad Z.df g k = some e9 → ∃ i, i < w.length ∧ ((w ++ [(q, .inl (Z.Y.2.2.1, N, .inr (.inr (.inr (.inr (fun i => if i < N then some (r i) else none))))))]) ++ va_pl ([] ++ (List.range N).map r) (vr_up (fun _ => (.inr (0, []) : va_E)) ((List.range N).map r) (.inl (Z.Y.1, (K, .inl (rN 1 K))))))[i]? = some (ad k, e9) := fun k e9 h9 => by
      obtain ⟨i, hi, h1⟩ := hW k e9 h9
      exact ⟨i, hi, by rw [List.getElem?_append_left (by simp; omega), List.getElem?_append_left hi]; exact h1⟩
    generalize hbig : (w ++ [(q, (.inl (Z.Y.2.2.1, N, .inr (.inr (.inr (.inr (fun i => if i < N then some (r i) else none))))) : va_E))]) ++ va_pl ([] ++ (List.range N).map r) (vr_up (fun _ => (.inr (0, []) : va_E)) ((List.range N).map r) (.inl (Z.Y.1, (K, .inl (rN 1 K))))) = big at hP1 hD1 hq9 hr9 ho9
    have hw1 : HwZ (Z.wl ad m) g H1 := ⟨fun k e9 h9 => ⟨by obtain ⟨i, -, h1⟩ := ho9 k e9 h9; exact hP1 i _ h1, (hw.1 k e9 h9).2⟩, hw.2⟩
    have hne : ∀ k, cx (Z.wl ad m).Y ad Z.df g k ≠ none → ad k ≠ q ∧ ∀ i, i < N → ad k ≠ r i := fun k hk => by
      obtain ⟨e9, h9⟩ := Option.ne_none_iff_exists'.mp hk
      obtain ⟨i, hi, h1⟩ := ho9 k e9 h9
      refine ⟨fun z => ?_, fun j hj z => ?_⟩
      · have := hD1.1 i _ _ _ h1 hq9 z
        omega
      · have := hD1.1 i _ _ _ h1 (hr9 j hj) z
        omega
    have hw2 := Hw_rows (K := K) hw1 hF (by omega : T + N ≤ 1200) hK (fun i hi => hD1.2 _ _ (hr9 i hi)) (fun i hi => hP1 _ _ (hr9 i hi)) hinj (fun i hi k hk => (hne k hk).2 i hi) N (Nat.le_refl _)
    have hF2 := Fr_mM (K := K) hF (by omega : T + N ≤ 1200)
    have h1 := kk (upN (adM ad r T N) (T + N) q) (fun k hk => by rw [upN_o _ (by omega)]; exact if_neg (by omega))
    rw [upN_s] at h1
    have e2 : ∀ j, rO T N j = rO T N j := fun _ => rfl
    refine h1 ls H1 locs hl (Hw_grow0 (Z := Z.wl (adM ad r T N) (mM m T N (rN 1 K))) hw2 hF2 (by omega) (hD1.2 _ _ hq9) (e := .inl (Z.Y.2.2.1, N, .inr (.inr (.inr (.inr (fun j => fW (upN (adM ad r T N) (T + N) q) (rO T N j))))))) ?_ (fun k hk hka => ?_) (fun k e9 h9 => (hw2.1 k e9 h9).1) (cW_2 rfl rfl (by omega))) hS1
    · have h2 := hP1 _ _ hq9
      have h2 : H1[q]? = some (vp_cell Z.Y.2.2.1 (N, .inr (.inr (.inr (.inr (fun i => if i < N then some (r i) else none)))))) := h2
      show H1[q]? = some (vp_cell _ _)
      rw [h2, vp_cell_q, vp_cell_q]
      refine congrArg some (arrV_c _ _ (fun j hj => ?_))
      have e3 : rO T N j = nI (T + j) := by unfold rO; rw [if_neg (by omega), if_neg (by omega), if_pos hj]
      have e4 : adM ad r T N (T + j) = r j := by unfold adM; rw [if_pos (by omega), Nat.add_sub_cancel_left]
      show va_rf (if j < N then some (r j) else none) = va_rf (fW _ (rO T N j))
      rw [if_pos hj, e3, fW_nI ⟨by omega, by omega⟩, upN_o _ (by omega), e4]
    · have hka : adM ad r T N k = q := hka
      by_cases h1 : T ≤ k ∧ k < T + N
      · have h2 : adM ad r T N k = r (k - T) := if_pos h1
        rw [h2] at hka
        have := hD1.1 _ _ _ _ (hr9 (k - T) (by omega)) hq9 hka
        omega
      · have h2 : adM ad r T N k = ad k := if_neg h1
        rw [h2] at hka
        by_cases h3 : k < T
        · have h4 : cx (Z.wl (adM ad r T N) (mM m T N (rN 1 K))).Y (adM ad r T N) Z.df g k = cx (Z.wl ad m).Y ad Z.df g k := cx_low (Z := Z) hw.2.2 hF (fun q hq => if_neg (by omega)) (fun q _ hq => if_neg (by omega)) h3
          exact (hne k (by rw [← h4]; exact hk)).1 hka
        · by_cases h5 : k < 1200
          · have h6 : cx (Z.wl (adM ad r T N) (mM m T N (rN 1 K))).Y (adM ad r T N) Z.df g k = none := (cx_law ⟨by omega, h5⟩).trans (cW_0 (by show mM m T N (rN 1 K) k 100000 = 0; unfold mM; rw [if_neg h1]; exact hF.2.1 k (by omega)))
            exact hk h6
          · exact hk (cx_top _ _ _ _ (by omega))
end LM2
