/-! THE LAW ITSELF: its start -/
section NXL
variable {P : Pm} {R : Room} {Z : Zc} {A : Nat → Prop} {ws : va_W} {cc : ByteArray} {own : String} {lo : Lo} {pc : Nat} {rest : List Value} {cs sl : Nat}
theorem nx_newl (C : Cx P Z cc own) (hA : CxA P Z A) (hdg : decode cc pc = .ok (.newarray .long, 2)) (hcells : cs + 1 ≤ R.cells) (hslots : sl + 1 ≤ R.slots) (kk : ∀ q : Nat, VX P R Z A ((q, .inl (Z.Y.2.2, 1, .inr (.inl (fun _ => (0 : Int32).toInt64)))) :: ws) lo (pc + 2) (.ref q :: rest) (cs + 1) (sl + 1)) : VX P R Z A ws lo pc (.int 1 :: rest) cs sl := by
  obtain ⟨p, l, e, s, m, args, below, meth, c, Q, nL⟩ := P
  intro ls H locs hl hP hD hS
  refine va_newaK (atype := .long) (N := 1) C.1 C.2.1 (C.2.2.2.2.1 _ (tg4 221 rfl rfl)) rfl hdg rfl (by decide) (by decide) (by show 1 * 8 ≤ 536870912; omega) hcells hslots rfl (fun H1 cA e1 z1 o1 hAr hNm => ?_)
  have hcA : cA = Z.Y.2.2 := by
    have h1 : s.vm.findClass ("[" ++ FieldType.long.toString) = some Z.Y.2.2 := (C.2.2.2.2.2.1.2 2 _ rfl).2
    exact Option.some.inj (hNm.symm.trans h1)
  subst hcA
  have hk : ∀ (k : Nat) (x : Nat × va_E), ws[k]? = some x → H1[x.1]? = H[x.1]? := fun k x hx => o1 x.1 ((hP k x hx).lt)
  refine kk H.size ls H1 locs hl (nx_P1 ((hP.kept hk).app (fun k x hx => ?_))) (nx_D1 (hD.push hP rfl (hA.1 _ hS.1))) ⟨Nat.le_trans hS.1 (by omega), fun x h1 h2 => (o1 x (Nat.lt_of_lt_of_le h1 hS.1)).trans (hS.2.1 x h1 h2), hS.2.2⟩
  have hz : k < 1 := (List.getElem?_eq_some_iff.mp hx).1
  rw [show k = 0 by omega] at hx
  cases hx
  show H1[H.size]? = some (vp_cell _ _)
  rw [vp_cell_l]
  exact e1
theorem vx_first {b b' : Nat → Nat} {q0 q30 q5 : Nat} {st : List Value} (kk : V P R (Z.wa (ad00 q0 q30 q5 b b')) lo pc st g00 cs sl) : VX P R Z (A0 Z.z) (w00 Z q0 q30 q5 b b') lo pc st cs sl := by
  obtain ⟨p, l, e, s, m, args, below, meth, c, Q, nL⟩ := P
  exact fun ls H locs hl hP hD hS => kk ls H locs hl (Hw_first hP hD) hS
end NXL
set_option maxRecDepth 100000 in
theorem law_go {P : Pm} {Z0 : Zc} {b L : Nat} {xs : Nat → Int32} (hl9 : P.2.1.stackTraces = false) (C0 : Cx P Z0 cL_law "PosterTypesLaw") (hAx : CxA P Z0 (A0 Z0.z)) (hA : CxS P) (hX : CxX P b L xs) (hz : b < Z0.z) (hL : L ≤ 2048)
    (ret : ∀ (ad : Nat → Nat) (lo : Lo) (g : MG), V P room_1 (Z0.wa ad) lo 1339 [.int 1] g 601024 7293034) : VX P room_1 Z0 (A0 Z0.z) [] [some (.ref b), none, none, none, none, none, none, none, none] 0 [] 0 0 := by
  refine nx_new (ci := 4) (fs := [.null, .null, .null, .null, .null, .int 0, .int 0]) C0 hAx inG3 tyX3 tyX3_ok (tg1 21 rfl rfl) (tg1 22 rfl rfl) (tg1 1 rfl rfl) rfl (by decide) (Nat.le_of_ble_eq_true rfl) (Nat.le_of_ble_eq_true rfl) dL_law_0 (fun q30 => ?_)
  refine nx_dup C0 dL_law_3 rfl ?_
  refine nx_callI (n := 0) (as := []) C0 hAx (k_tinit _ Z0 _ q30 []) (tg1 23 rfl rfl) (tg1 24 rfl rfl) (tg1 1 rfl rfl) (tg1 25 rfl rfl) rfl (by decide +kernel) ⟨(Nat.le_of_ble_eq_true rfl), (Nat.le_of_ble_eq_true rfl)⟩ rfl rfl (Nat.le_of_ble_eq_true rfl) dL_law_4 ⟨(Nat.le_of_ble_eq_true rfl), (Nat.le_of_ble_eq_true rfl)⟩ (fun w1 hp1 => ?_)
  obtain ⟨b1, hb1⟩ := hp1
  subst hb1
  refine nx_astore_n (lo' := [some (.ref b), some (.ref q30), none, none, none, none, none, none, none]) C0 dL_law_7 rfl (Nat.le_of_ble_eq_true rfl) rfl rfl ?_
  refine nx_new (ci := 5) (fs := [.int 0, .int 0, .int 0, .int 0, .int 0, .null, .null, .null, .null, .null, .null, .null, .null, .null, .null, .null, .null, .null, .null, .null, .null, .null, .null, .null, .null, .null, .int 0]) C0 hAx inG4 tyX4 tyX4_ok (tg3 189 rfl rfl) (tg3 190 rfl rfl) (tg1 6 rfl rfl) rfl (by decide) (Nat.le_of_ble_eq_true rfl) (Nat.le_of_ble_eq_true rfl) dL_law_8 (fun q0 => ?_)
  refine nx_dup C0 dL_law_11 rfl ?_
  refine nx_callI (n := 0) (as := []) C0 hAx (k_minit _ Z0 _ q0 ((b1 35, .inl (Z0.Y.1, 4, .inl (flF (fun _ => 0) 5 4))) :: (b1 34, .inl (Z0.Y.1, 4, .inl (flF (fun _ => 0) 3 4))) :: (b1 33, .inl (Z0.Y.1, 10, .inl (flF (fun _ => 0) (-1) 10))) :: (b1 32, .inr (0, [.int 0, .ref Z0.df, .int 0])) :: (b1 31, .inr (0, [.int 0, .ref Z0.df, .int 0])) :: (q30, .inr (4, [.ref (b1 31), .ref (b1 32), .ref (b1 33), .ref (b1 34), .ref (b1 35), .int 0, .int 0])) :: [])) (tg3 191 rfl rfl) (tg3 192 rfl rfl) (tg1 6 rfl rfl) (tg3 193 rfl rfl) rfl (by decide +kernel) ⟨(Nat.le_of_ble_eq_true rfl), (Nat.le_of_ble_eq_true rfl)⟩ rfl rfl (Nat.le_of_ble_eq_true rfl) dL_law_12 ⟨(Nat.le_of_ble_eq_true rfl), (Nat.le_of_ble_eq_true rfl)⟩ (fun w2 hp2 => ?_)
  obtain ⟨b2, hb2⟩ := hp2
  subst hb2
  refine nx_astore_n (lo' := [some (.ref b), some (.ref q30), some (.ref q0), none, none, none, none, none, none]) C0 dL_law_15 rfl (Nat.le_of_ble_eq_true rfl) rfl rfl ?_
  refine nx_iconst (v := 1) C0 dL_law_16 (by decide) ?_
  refine nx_newl C0 hAx dL_law_17 (Nat.le_of_ble_eq_true rfl) (Nat.le_of_ble_eq_true rfl) (fun q5 => ?_)
  refine nx_astore_n (lo' := [some (.ref b), some (.ref q30), some (.ref q0), some (.ref q5), none, none, none, none, none]) C0 dL_law_19 rfl (Nat.le_of_ble_eq_true rfl) rfl rfl ?_
  refine nx_iconst (v := 0) C0 dL_law_20 (by decide) ?_
  refine nx_istore (lo' := [some (.ref b), some (.ref q30), some (.ref q0), some (.ref q5), some (.int 0), none, none, none, none]) C0 dL_law_21 (Nat.le_of_ble_eq_true rfl) rfl rfl ?_
  refine nx_wide (k := 29) (n := 430) (Nat.le_of_ble_eq_true rfl) (Nat.le_of_ble_eq_true rfl) ?_
  refine vx_first (b := b1) (b' := b2) (q0 := q0) (q30 := q30) (q5 := q5) ?_
  exact law_loop (c0 := 29) (s0 := 430) hl9 C0 hA hX hz hL ⟨(Nat.le_of_ble_eq_true rfl), (Nat.le_of_ble_eq_true rfl)⟩ ret (L + 1) 0 (ad00 q0 q30 q5 b1 b2) g00 (by omega) (by omega) LI00 Rl00
