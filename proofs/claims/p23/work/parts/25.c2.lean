/-! THE CLASS: a poster's own methods, a fount's breaking -/
theorem v_inj {P : Pm} {R : Room} {Z : Zc} {lo : Lo} {pc : Nat} {st : List Value} {g : MG} {cs sl : Nat} (h : (∀ k k', cx Z.Y Z.ad Z.df g k ≠ none → cx Z.Y Z.ad Z.df g k' ≠ none → Z.ad k = Z.ad k' → k = k') → V P R Z lo pc st g cs sl) : V P R Z lo pc st g cs sl := by
  obtain ⟨p, l, e, s, m, args, below, meth, c, Q, nL⟩ := P
  exact fun ls H locs hl hw hS => h hw.2.1 ls H locs hl hw hS
theorem v_wf {P : Pm} {R : Room} {Z : Zc} {lo : Lo} {pc : Nat} {st : List Value} {g : MG} {cs sl : Nat} (h : Wf g → V P R Z lo pc st g cs sl) : V P R Z lo pc st g cs sl := by
  obtain ⟨p, l, e, s, m, args, below, meth, c, Q, nL⟩ := P
  exact fun ls H locs hl hw hS => h hw.2.2 ls H locs hl hw hS
theorem LnP.mk {g : MG} {p q m : Nat} (hP : PsP g p) (hm : g (100 + 10 * p + 1) 2 = nI m) (hq : q < m) (h4 : m ≤ 4) : LnP g p q := ⟨hP, m, by rw [show 101 + 10 * p = 100 + 10 * p + 1 by omega]; exact hm, hq, h4⟩
theorem cxE1 {Y : Yc} {ad : Nat → Nat} {df : Nat} {g : MG} {n : Nat} (hn : g 31 2 = nI n) : cx Y ad df g 36 = cEd Y (nI n) (fun j => ad (40 + 10 * j)) := by
  show cEd Y (g 31 2) _ = _
  rw [hn]
theorem cxE2 {Y : Yc} {ad : Nat → Nat} {df : Nat} {g : MG} {n : Nat} (hn : g 32 2 = nI n) : cx Y ad df g 37 = cEd Y (nI n) (fun j => ad (100 + 10 * j)) := by
  show cEd Y (g 32 2) _ = _
  rw [hn]
theorem cxPE' {Y : Yc} {ad : Nat → Nat} {df : Nat} {g : MG} {p m : Nat} (hP : PsP g p) (hm : g (100 + 10 * p + 1) 2 = nI m) : cx Y ad df g (100 + 10 * p + 1 + 1) = cEd Y (nI m) (fun j => ad (200 + 10 * (4 * p + j))) := by
  rw [cxPE hP, hm]
set_option maxRecDepth 100000 in
theorem c_isReady (l : Launch) (Z : Zc) (p : Nat) (g : MG) (hP : PsP g p) : MI l yX2_isReady cX2_isReady 1 (some .boolean) (rmz 1 20 0 0) Z [.ref (Z.ad (100 + 10 * p))] g (fun r g' => r = bI (decide (g (100 + 10 * p) 3 = 0) && !decide (g (100 + 10 * p + 1) 2 = 0)) ∧ g' = g) := by
  refine ent_z (own := RX2) (lo := [some (.ref (Z.ad (100 + 10 * p)))]) (by decide) rfl (by simp [lg_sl, Value.category]) rfl (fun P hl C ret => ?_)
  refine v_aload_n C dX2_isReady_0 rfl rfl ?_
  refine v_get C inG2 rfl 3 (by decide) (tg3 95 rfl rfl) rfl (cxP hP) rfl dX2_isReady_1 ?_
  refine v_if_ne (tgt := 21) C dX2_isReady_4 (by decide) (fun h4 => ?_) (fun h4 => ?_)
  · refine v_iconst (v := 0) C dX2_isReady_21 (by decide) ?_
    exact ret _ _ _ _ dX2_isReady_22 (by decide) ⟨bI_f (by simp [h4]), rfl⟩
  · refine v_aload_n C dX2_isReady_7 rfl rfl ?_
    refine v_get C inG2 rfl 2 (by decide) (tg3 93 rfl rfl) rfl (cxP hP) rfl dX2_isReady_8 ?_
    refine v_callVi (n := 0) (as := []) C (c_lempty _ Z (100 + 10 * p + 1) (100 + 10 * p + 1 + 1) g (cxPL hP)) (gv (tg1 192 rfl rfl) (tg1 193 rfl rfl) (tg1 194 rfl rfl) (tg1 4 rfl rfl) (tg1 195 rfl rfl)) (by decide +kernel) ⟨Nat.le_of_ble_eq_true rfl, Nat.le_of_ble_eq_true rfl⟩ rfl (cxPL hP) rfl rfl (Nat.le_of_ble_eq_true rfl) dX2_isReady_11 ⟨Nat.le_of_ble_eq_true rfl, Nat.le_of_ble_eq_true rfl⟩ (fun r11 g11 hp11 => ?_)
    obtain ⟨rfl, hg11⟩ := hp11
    rw [hg11]
    refine v_if_ne (tgt := 21) C dX2_isReady_14 (by decide) (fun h14 => ?_) (fun h14 => ?_)
    · refine v_iconst (v := 0) C dX2_isReady_21 (by decide) ?_
      exact ret _ _ _ _ dX2_isReady_22 (by decide) ⟨bI_f (by simp [of_decide_eq_true (bI_1.mp h14)]), rfl⟩
    · refine v_iconst (v := 1) C dX2_isReady_17 (by decide) ?_
      refine v_goto (tgt := 22) C dX2_isReady_18 (by decide) ?_
      exact ret _ _ _ _ dX2_isReady_22 (by decide) ⟨bI_t (by rw [h4]; simp [of_decide_eq_false (bI_0.mp h14)]), rfl⟩
set_option maxRecDepth 100000 in
theorem c_cletters (l : Launch) (Z : Zc) (p m : Nat) (g : MG) (hP : PsP g p) (hm : g (100 + 10 * p + 1) 2 = nI m) (h4 : m ≤ 4) : MI l yX2_letters cX2_letters 3 (some .int) (rmz 3 70 0 0) Z [.ref (Z.ad (100 + 10 * p))] g (fun r g' => r = sumI (fun q => g (200 + 10 * (4 * p + q)) 1) m ∧ g' = g) := by
  refine ent_i (own := RX2) (lo := [some (.ref (Z.ad (100 + 10 * p))), none, none]) (by decide) rfl (by simp [lg_sl, Value.category]) rfl (fun P hl C ret => ?_)
  have hp6 := hP.lt
  have loop : ∀ (n : Nat) (q : Nat), m - q < n → q ≤ m → V P (rmz 3 70 0 0) Z [some (.ref (Z.ad (100 + 10 * p))), some (.int (sumI (fun q => g (200 + 10 * (4 * p + q)) 1) q)), some (.int (nI q))] 4 [] g 0 0 := by
    intro n
    induction n with
    | zero => intro q hn hk; exact absurd hn (Nat.not_lt_zero _)
    | succ n ih =>
      intro q hn hk
      refine v_iload_n C dX2_letters_4 rfl rfl ?_
      refine v_aload_n C dX2_letters_5 rfl rfl ?_
      refine v_get C inG2 rfl 2 (by decide) (tg3 93 rfl rfl) rfl (cxP hP) rfl dX2_letters_6 ?_
      refine v_callVi (n := 0) (as := []) C (c_lsize _ Z (100 + 10 * p + 1) (100 + 10 * p + 1 + 1) g (cxPL hP)) (gv (tg2 55 rfl rfl) (tg1 98 rfl rfl) (tg1 99 rfl rfl) (tg1 4 rfl rfl) (tg1 100 rfl rfl)) (by decide +kernel) ⟨Nat.le_of_ble_eq_true rfl, Nat.le_of_ble_eq_true rfl⟩ rfl (cxPL hP) rfl rfl (Nat.le_of_ble_eq_true rfl) dX2_letters_9 ⟨Nat.le_of_ble_eq_true rfl, Nat.le_of_ble_eq_true rfl⟩ (fun r9 g9 hp9 => ?_)
      obtain ⟨rfl, hg9⟩ := hp9
      rw [hg9]
      refine v_topi (y := nI m) hm ?_
      refine v_icmp_ge (tgt := 38) C dX2_letters_12 (by decide) (fun h12 => ?_) (fun h12 => ?_)
      · have hkn : q = m := Nat.le_antisymm hk ((nI_leI (by omega) (by omega)).mp h12)
        subst hkn
        refine v_iload_n C dX2_letters_38 rfl rfl ?_
        exact ret _ _ _ _ dX2_letters_39 ⟨rfl, rfl⟩
      · have hkn : q < m := Nat.lt_of_not_le fun z => h12 ((nI_leI (by omega) (by omega)).mpr z)
        have hL : LnP g p q := LnP.mk hP hm hkn h4
        refine v_iload_n C dX2_letters_15 rfl rfl ?_
        refine v_aload_n C dX2_letters_16 rfl rfl ?_
        refine v_get C inG2 rfl 2 (by decide) (tg3 93 rfl rfl) rfl (cxP hP) rfl dX2_letters_17 ?_
        refine v_iload_n C dX2_letters_20 rfl rfl ?_
        refine v_callVq (n := 1) (as := [.int (nI q)]) C (c_lget _ Z (100 + 10 * p + 1) (100 + 10 * p + 1 + 1) m q g (cxPL hP) hm hkn (by omega) (fun j => Z.ad (200 + 10 * (4 * p + j))) (cxPE' hP hm)) (gv (tg2 56 rfl rfl) (tg1 170 rfl rfl) (tg1 171 rfl rfl) (tg1 4 rfl rfl) (tg1 172 rfl rfl)) (by decide +kernel) ⟨Nat.le_of_ble_eq_true rfl, Nat.le_of_ble_eq_true rfl⟩ rfl (cxPL hP) rfl rfl (Nat.le_of_ble_eq_true rfl) dX2_letters_21 ⟨Nat.le_of_ble_eq_true rfl, Nat.le_of_ble_eq_true rfl⟩ (fun r21 g21 hp21 => ?_)
        obtain ⟨rfl, hg21⟩ := hp21
        rw [hg21]
        refine v_st (st' := [.ref (Z.ad (200 + 10 * (4 * p + q))), .int (sumI (fun q => g (200 + 10 * (4 * p + q)) 1) q)]) rfl ?_
        refine v_cast C rfl (tg2 57 rfl rfl) (cxLn hL) dX2_letters_24 ?_
        refine v_get C inG1 rfl 1 (by decide) (tg4 189 rfl rfl) rfl (cxLn hL) rfl dX2_letters_27 ?_
        refine v_iadd C dX2_letters_30 ?_
        refine v_topi (y := sumI (fun q => g (200 + 10 * (4 * p + q)) 1) (q + 1)) rfl ?_
        refine v_istore_n (lo' := [some (.ref (Z.ad (100 + 10 * p))), some (.int (sumI (fun q => g (200 + 10 * (4 * p + q)) 1) (q + 1))), some (.int (nI q))]) C dX2_letters_31 rfl (Nat.le_of_ble_eq_true rfl) rfl rfl ?_
        refine v_iinc (lo' := [some (.ref (Z.ad (100 + 10 * p))), some (.int (sumI (fun q => g (200 + 10 * (4 * p + q)) 1) (q + 1))), some (.int ((nI q) + 1))]) C dX2_letters_32 rfl rfl rfl rfl ?_
        refine v_lo (lo' := [some (.ref (Z.ad (100 + 10 * p))), some (.int (sumI (fun q => g (200 + 10 * (4 * p + q)) 1) (q + 1))), some (.int (nI (q + 1)))]) (by rw [← nI_1 q]) ?_
        refine v_goto (tgt := 4) C dX2_letters_35 (by decide) ?_
        exact ih (q + 1) (by omega) (by omega)
  refine v_iconst (v := 0) C dX2_letters_0 (by decide) ?_
  refine v_topi (y := sumI (fun q => g (200 + 10 * (4 * p + q)) 1) 0) rfl ?_
  refine v_istore_n (lo' := [some (.ref (Z.ad (100 + 10 * p))), some (.int (sumI (fun q => g (200 + 10 * (4 * p + q)) 1) 0)), none]) C dX2_letters_1 rfl (Nat.le_of_ble_eq_true rfl) rfl rfl ?_
  refine v_iconst (v := 0) C dX2_letters_2 (by decide) ?_
  refine v_topi (y := nI 0) rfl ?_
  refine v_istore_n (lo' := [some (.ref (Z.ad (100 + 10 * p))), some (.int (sumI (fun q => g (200 + 10 * (4 * p + q)) 1) 0)), some (.int (nI 0))]) C dX2_letters_3 rfl (Nat.le_of_ble_eq_true rfl) rfl rfl ?_
  exact loop (m + 1) 0 (by omega) (by omega)
set_option maxRecDepth 100000 in
theorem c_cflaws (l : Launch) (Z : Zc) (p m : Nat) (g : MG) (hP : PsP g p) (hm : g (100 + 10 * p + 1) 2 = nI m) (h4 : m ≤ 4) : MI l yX2_flawsAsLaid cX2_flawsAsLaid 3 (some .int) (rmz 3 70 0 0) Z [.ref (Z.ad (100 + 10 * p))] g (fun r g' => r = sumI (fun q => g (200 + 10 * (4 * p + q)) 4) m ∧ g' = g) := by
  refine ent_i (own := RX2) (lo := [some (.ref (Z.ad (100 + 10 * p))), none, none]) (by decide) rfl (by simp [lg_sl, Value.category]) rfl (fun P hl C ret => ?_)
  have hp6 := hP.lt
  have loop : ∀ (n : Nat) (q : Nat), m - q < n → q ≤ m → V P (rmz 3 70 0 0) Z [some (.ref (Z.ad (100 + 10 * p))), some (.int (sumI (fun q => g (200 + 10 * (4 * p + q)) 4) q)), some (.int (nI q))] 4 [] g 0 0 := by
    intro n
    induction n with
    | zero => intro q hn hk; exact absurd hn (Nat.not_lt_zero _)
    | succ n ih =>
      intro q hn hk
      refine v_iload_n C dX2_flawsAsLaid_4 rfl rfl ?_
      refine v_aload_n C dX2_flawsAsLaid_5 rfl rfl ?_
      refine v_get C inG2 rfl 2 (by decide) (tg3 93 rfl rfl) rfl (cxP hP) rfl dX2_flawsAsLaid_6 ?_
      refine v_callVi (n := 0) (as := []) C (c_lsize _ Z (100 + 10 * p + 1) (100 + 10 * p + 1 + 1) g (cxPL hP)) (gv (tg2 55 rfl rfl) (tg1 98 rfl rfl) (tg1 99 rfl rfl) (tg1 4 rfl rfl) (tg1 100 rfl rfl)) (by decide +kernel) ⟨Nat.le_of_ble_eq_true rfl, Nat.le_of_ble_eq_true rfl⟩ rfl (cxPL hP) rfl rfl (Nat.le_of_ble_eq_true rfl) dX2_flawsAsLaid_9 ⟨Nat.le_of_ble_eq_true rfl, Nat.le_of_ble_eq_true rfl⟩ (fun r9 g9 hp9 => ?_)
      obtain ⟨rfl, hg9⟩ := hp9
      rw [hg9]
      refine v_topi (y := nI m) hm ?_
      refine v_icmp_ge (tgt := 38) C dX2_flawsAsLaid_12 (by decide) (fun h12 => ?_) (fun h12 => ?_)
      · have hkn : q = m := Nat.le_antisymm hk ((nI_leI (by omega) (by omega)).mp h12)
        subst hkn
        refine v_iload_n C dX2_flawsAsLaid_38 rfl rfl ?_
        exact ret _ _ _ _ dX2_flawsAsLaid_39 ⟨rfl, rfl⟩
      · have hkn : q < m := Nat.lt_of_not_le fun z => h12 ((nI_leI (by omega) (by omega)).mpr z)
        have hL : LnP g p q := LnP.mk hP hm hkn h4
        refine v_iload_n C dX2_flawsAsLaid_15 rfl rfl ?_
        refine v_aload_n C dX2_flawsAsLaid_16 rfl rfl ?_
        refine v_get C inG2 rfl 2 (by decide) (tg3 93 rfl rfl) rfl (cxP hP) rfl dX2_flawsAsLaid_17 ?_
        refine v_iload_n C dX2_flawsAsLaid_20 rfl rfl ?_
        refine v_callVq (n := 1) (as := [.int (nI q)]) C (c_lget _ Z (100 + 10 * p + 1) (100 + 10 * p + 1 + 1) m q g (cxPL hP) hm hkn (by omega) (fun j => Z.ad (200 + 10 * (4 * p + j))) (cxPE' hP hm)) (gv (tg2 56 rfl rfl) (tg1 170 rfl rfl) (tg1 171 rfl rfl) (tg1 4 rfl rfl) (tg1 172 rfl rfl)) (by decide +kernel) ⟨Nat.le_of_ble_eq_true rfl, Nat.le_of_ble_eq_true rfl⟩ rfl (cxPL hP) rfl rfl (Nat.le_of_ble_eq_true rfl) dX2_flawsAsLaid_21 ⟨Nat.le_of_ble_eq_true rfl, Nat.le_of_ble_eq_true rfl⟩ (fun r21 g21 hp21 => ?_)
        obtain ⟨rfl, hg21⟩ := hp21
        rw [hg21]
        refine v_st (st' := [.ref (Z.ad (200 + 10 * (4 * p + q))), .int (sumI (fun q => g (200 + 10 * (4 * p + q)) 4) q)]) rfl ?_
        refine v_cast C rfl (tg2 57 rfl rfl) (cxLn hL) dX2_flawsAsLaid_24 ?_
        refine v_get C inG1 rfl 4 (by decide) (tg4 198 rfl rfl) rfl (cxLn hL) rfl dX2_flawsAsLaid_27 ?_
        refine v_iadd C dX2_flawsAsLaid_30 ?_
        refine v_topi (y := sumI (fun q => g (200 + 10 * (4 * p + q)) 4) (q + 1)) rfl ?_
        refine v_istore_n (lo' := [some (.ref (Z.ad (100 + 10 * p))), some (.int (sumI (fun q => g (200 + 10 * (4 * p + q)) 4) (q + 1))), some (.int (nI q))]) C dX2_flawsAsLaid_31 rfl (Nat.le_of_ble_eq_true rfl) rfl rfl ?_
        refine v_iinc (lo' := [some (.ref (Z.ad (100 + 10 * p))), some (.int (sumI (fun q => g (200 + 10 * (4 * p + q)) 4) (q + 1))), some (.int ((nI q) + 1))]) C dX2_flawsAsLaid_32 rfl rfl rfl rfl ?_
        refine v_lo (lo' := [some (.ref (Z.ad (100 + 10 * p))), some (.int (sumI (fun q => g (200 + 10 * (4 * p + q)) 4) (q + 1))), some (.int (nI (q + 1)))]) (by rw [← nI_1 q]) ?_
        refine v_goto (tgt := 4) C dX2_flawsAsLaid_35 (by decide) ?_
        exact ih (q + 1) (by omega) (by omega)
  refine v_iconst (v := 0) C dX2_flawsAsLaid_0 (by decide) ?_
  refine v_topi (y := sumI (fun q => g (200 + 10 * (4 * p + q)) 4) 0) rfl ?_
  refine v_istore_n (lo' := [some (.ref (Z.ad (100 + 10 * p))), some (.int (sumI (fun q => g (200 + 10 * (4 * p + q)) 4) 0)), none]) C dX2_flawsAsLaid_1 rfl (Nat.le_of_ble_eq_true rfl) rfl rfl ?_
  refine v_iconst (v := 0) C dX2_flawsAsLaid_2 (by decide) ?_
  refine v_topi (y := nI 0) rfl ?_
  refine v_istore_n (lo' := [some (.ref (Z.ad (100 + 10 * p))), some (.int (sumI (fun q => g (200 + 10 * (4 * p + q)) 4) 0)), some (.int (nI 0))]) C dX2_flawsAsLaid_3 rfl (Nat.le_of_ble_eq_true rfl) rfl rfl ?_
  exact loop (m + 1) 0 (by omega) (by omega)
set_option maxRecDepth 100000 in
theorem c_csize (l : Launch) (Z : Zc) (p m : Nat) (g : MG) (hP : PsP g p) (hm : g (100 + 10 * p + 1) 2 = nI m) (h4 : m ≤ 4) (hfo : ∀ q, q < m → ∃ i, FnP g i ∧ g (200 + 10 * (4 * p + q)) 3 = nI i) : MI l yX2_sizeAsLaid cX2_sizeAsLaid 3 (some .int) (rmz 3 70 0 0) Z [.ref (Z.ad (100 + 10 * p))] g (fun r g' => r = sumI (fun q => g (40 + 10 * iz (g (200 + 10 * (4 * p + q)) 3)) 1 * g (200 + 10 * (4 * p + q)) 1) m ∧ g' = g) := by
  refine ent_i (own := RX2) (lo := [some (.ref (Z.ad (100 + 10 * p))), none, none]) (by decide) rfl (by simp [lg_sl, Value.category]) rfl (fun P hl C ret => ?_)
  have hp6 := hP.lt
  have loop : ∀ (n : Nat) (q : Nat), m - q < n → q ≤ m → V P (rmz 3 70 0 0) Z [some (.ref (Z.ad (100 + 10 * p))), some (.int (sumI (fun q => g (40 + 10 * iz (g (200 + 10 * (4 * p + q)) 3)) 1 * g (200 + 10 * (4 * p + q)) 1) q)), some (.int (nI q))] 4 [] g 0 0 := by
    intro n
    induction n with
    | zero => intro q hn hk; exact absurd hn (Nat.not_lt_zero _)
    | succ n ih =>
      intro q hn hk
      refine v_iload_n C dX2_sizeAsLaid_4 rfl rfl ?_
      refine v_aload_n C dX2_sizeAsLaid_5 rfl rfl ?_
      refine v_get C inG2 rfl 2 (by decide) (tg3 93 rfl rfl) rfl (cxP hP) rfl dX2_sizeAsLaid_6 ?_
      refine v_callVi (n := 0) (as := []) C (c_lsize _ Z (100 + 10 * p + 1) (100 + 10 * p + 1 + 1) g (cxPL hP)) (gv (tg2 55 rfl rfl) (tg1 98 rfl rfl) (tg1 99 rfl rfl) (tg1 4 rfl rfl) (tg1 100 rfl rfl)) (by decide +kernel) ⟨Nat.le_of_ble_eq_true rfl, Nat.le_of_ble_eq_true rfl⟩ rfl (cxPL hP) rfl rfl (Nat.le_of_ble_eq_true rfl) dX2_sizeAsLaid_9 ⟨Nat.le_of_ble_eq_true rfl, Nat.le_of_ble_eq_true rfl⟩ (fun r9 g9 hp9 => ?_)
      obtain ⟨rfl, hg9⟩ := hp9
      rw [hg9]
      refine v_topi (y := nI m) hm ?_
      refine v_icmp_ge (tgt := 38) C dX2_sizeAsLaid_12 (by decide) (fun h12 => ?_) (fun h12 => ?_)
      · have hkn : q = m := Nat.le_antisymm hk ((nI_leI (by omega) (by omega)).mp h12)
        subst hkn
        refine v_iload_n C dX2_sizeAsLaid_38 rfl rfl ?_
        exact ret _ _ _ _ dX2_sizeAsLaid_39 ⟨rfl, rfl⟩
      · have hkn : q < m := Nat.lt_of_not_le fun z => h12 ((nI_leI (by omega) (by omega)).mpr z)
        have hL : LnP g p q := LnP.mk hP hm hkn h4
        refine v_iload_n C dX2_sizeAsLaid_15 rfl rfl ?_
        refine v_aload_n C dX2_sizeAsLaid_16 rfl rfl ?_
        refine v_get C inG2 rfl 2 (by decide) (tg3 93 rfl rfl) rfl (cxP hP) rfl dX2_sizeAsLaid_17 ?_
        refine v_iload_n C dX2_sizeAsLaid_20 rfl rfl ?_
        refine v_callVq (n := 1) (as := [.int (nI q)]) C (c_lget _ Z (100 + 10 * p + 1) (100 + 10 * p + 1 + 1) m q g (cxPL hP) hm hkn (by omega) (fun j => Z.ad (200 + 10 * (4 * p + j))) (cxPE' hP hm)) (gv (tg2 56 rfl rfl) (tg1 170 rfl rfl) (tg1 171 rfl rfl) (tg1 4 rfl rfl) (tg1 172 rfl rfl)) (by decide +kernel) ⟨Nat.le_of_ble_eq_true rfl, Nat.le_of_ble_eq_true rfl⟩ rfl (cxPL hP) rfl rfl (Nat.le_of_ble_eq_true rfl) dX2_sizeAsLaid_21 ⟨Nat.le_of_ble_eq_true rfl, Nat.le_of_ble_eq_true rfl⟩ (fun r21 g21 hp21 => ?_)
        obtain ⟨rfl, hg21⟩ := hp21
        rw [hg21]
        refine v_st (st' := [.ref (Z.ad (200 + 10 * (4 * p + q))), .int (sumI (fun q => g (40 + 10 * iz (g (200 + 10 * (4 * p + q)) 3)) 1 * g (200 + 10 * (4 * p + q)) 1) q)]) rfl ?_
        refine v_cast C rfl (tg2 57 rfl rfl) (cxLn hL) dX2_sizeAsLaid_24 ?_
        obtain ⟨i, hF, hfi⟩ := hfo q hkn
        refine v_callVi (n := 0) (as := []) C (c_sizeAsLaid _ Z i p q g hF hL hfi) (gv (tg2 70 rfl rfl) (tg2 71 rfl rfl) (tg2 72 rfl rfl) (tg1 28 rfl rfl) (tg2 73 rfl rfl)) (by decide +kernel) ⟨Nat.le_of_ble_eq_true rfl, Nat.le_of_ble_eq_true rfl⟩ rfl (cxLn hL) rfl rfl (Nat.le_of_ble_eq_true rfl) dX2_sizeAsLaid_27 ⟨Nat.le_of_ble_eq_true rfl, Nat.le_of_ble_eq_true rfl⟩ (fun r27 g27 hp27 => ?_)
        obtain ⟨rfl, hg27⟩ := hp27
        rw [hg27]
        refine v_iadd C dX2_sizeAsLaid_30 ?_
        refine v_topi (y := sumI (fun q => g (40 + 10 * iz (g (200 + 10 * (4 * p + q)) 3)) 1 * g (200 + 10 * (4 * p + q)) 1) (q + 1)) (by rw [sumI, hfi, iz_nI (by have := hF.lt; omega)]) ?_
        refine v_istore_n (lo' := [some (.ref (Z.ad (100 + 10 * p))), some (.int (sumI (fun q => g (40 + 10 * iz (g (200 + 10 * (4 * p + q)) 3)) 1 * g (200 + 10 * (4 * p + q)) 1) (q + 1))), some (.int (nI q))]) C dX2_sizeAsLaid_31 rfl (Nat.le_of_ble_eq_true rfl) rfl rfl ?_
        refine v_iinc (lo' := [some (.ref (Z.ad (100 + 10 * p))), some (.int (sumI (fun q => g (40 + 10 * iz (g (200 + 10 * (4 * p + q)) 3)) 1 * g (200 + 10 * (4 * p + q)) 1) (q + 1))), some (.int ((nI q) + 1))]) C dX2_sizeAsLaid_32 rfl rfl rfl rfl ?_
        refine v_lo (lo' := [some (.ref (Z.ad (100 + 10 * p))), some (.int (sumI (fun q => g (40 + 10 * iz (g (200 + 10 * (4 * p + q)) 3)) 1 * g (200 + 10 * (4 * p + q)) 1) (q + 1))), some (.int (nI (q + 1)))]) (by rw [← nI_1 q]) ?_
        refine v_goto (tgt := 4) C dX2_sizeAsLaid_35 (by decide) ?_
        exact ih (q + 1) (by omega) (by omega)
  refine v_iconst (v := 0) C dX2_sizeAsLaid_0 (by decide) ?_
  refine v_topi (y := sumI (fun q => g (40 + 10 * iz (g (200 + 10 * (4 * p + q)) 3)) 1 * g (200 + 10 * (4 * p + q)) 1) 0) rfl ?_
  refine v_istore_n (lo' := [some (.ref (Z.ad (100 + 10 * p))), some (.int (sumI (fun q => g (40 + 10 * iz (g (200 + 10 * (4 * p + q)) 3)) 1 * g (200 + 10 * (4 * p + q)) 1) 0)), none]) C dX2_sizeAsLaid_1 rfl (Nat.le_of_ble_eq_true rfl) rfl rfl ?_
  refine v_iconst (v := 0) C dX2_sizeAsLaid_2 (by decide) ?_
  refine v_topi (y := nI 0) rfl ?_
  refine v_istore_n (lo' := [some (.ref (Z.ad (100 + 10 * p))), some (.int (sumI (fun q => g (40 + 10 * iz (g (200 + 10 * (4 * p + q)) 3)) 1 * g (200 + 10 * (4 * p + q)) 1) 0)), some (.int (nI 0))]) C dX2_sizeAsLaid_3 rfl (Nat.le_of_ble_eq_true rfl) rfl rfl ?_
  exact loop (m + 1) 0 (by omega) (by omega)
set_option maxRecDepth 100000 in
theorem c_blocksLaid (l : Launch) (Z : Zc) (p m i c : Nat) (g : MG) (hP : PsP g p) (hm : g (100 + 10 * p + 1) 2 = nI m) (h4 : m ≤ 4) (hF : FnP g i) (hc : c < 10) (hfo : ∀ q, q < m → ∃ i, FnP g i ∧ g (200 + 10 * (4 * p + q)) 3 = nI i) : MI l yX2_blocksLaid cX2_blocksLaid 6 (some .int) (rmz 3 70 0 0) Z [.ref (Z.ad (100 + 10 * p)), .ref (Z.ad (40 + 10 * i)), .int (nI c)] g (fun r g' => r = sumI (fun q => if g (200 + 10 * (4 * p + q)) 3 = nI i then g (200 + 10 * (4 * p + q) + 2) c else 0) m ∧ g' = g) := by
  refine ent_i (own := RX2) (lo := [some (.ref (Z.ad (100 + 10 * p))), some (.ref (Z.ad (40 + 10 * i))), some (.int (nI c)), none, none, none]) (by decide) rfl (by simp [lg_sl, Value.category]) rfl (fun P hl C ret => ?_)
  have hp6 := hP.lt
  have hi5 := hF.lt
  have loop : ∀ (n : Nat) (q : Nat) (v : Option Value), m - q < n → q ≤ m → V P (rmz 3 70 0 0) Z [some (.ref (Z.ad (100 + 10 * p))), some (.ref (Z.ad (40 + 10 * i))), some (.int (nI c)), some (.int (sumI (fun q => if g (200 + 10 * (4 * p + q)) 3 = nI i then g (200 + 10 * (4 * p + q) + 2) c else 0) q)), some (.int (nI q)), v] 5 [] g 0 0 := by
    intro n
    induction n with
    | zero => intro q v hn hk; exact absurd hn (Nat.not_lt_zero _)
    | succ n ih =>
      intro q v hn hk
      refine v_iload C dX2_blocksLaid_5 rfl ?_
      refine v_aload_n C dX2_blocksLaid_7 rfl rfl ?_
      refine v_get C inG2 rfl 2 (by decide) (tg3 93 rfl rfl) rfl (cxP hP) rfl dX2_blocksLaid_8 ?_
      refine v_callVi (n := 0) (as := []) C (c_lsize _ Z (100 + 10 * p + 1) (100 + 10 * p + 1 + 1) g (cxPL hP)) (gv (tg2 55 rfl rfl) (tg1 98 rfl rfl) (tg1 99 rfl rfl) (tg1 4 rfl rfl) (tg1 100 rfl rfl)) (by decide +kernel) ⟨Nat.le_of_ble_eq_true rfl, Nat.le_of_ble_eq_true rfl⟩ rfl (cxPL hP) rfl rfl (Nat.le_of_ble_eq_true rfl) dX2_blocksLaid_11 ⟨Nat.le_of_ble_eq_true rfl, Nat.le_of_ble_eq_true rfl⟩ (fun r11 g11 hp11 => ?_)
      obtain ⟨rfl, hg11⟩ := hp11
      rw [hg11]
      refine v_topi (y := nI m) hm ?_
      refine v_icmp_ge (tgt := 56) C dX2_blocksLaid_14 (by decide) (fun h14 => ?_) (fun h14 => ?_)
      · have hkn : q = m := Nat.le_antisymm hk ((nI_leI (by omega) (by omega)).mp h14)
        subst hkn
        refine v_iload_n C dX2_blocksLaid_56 rfl rfl ?_
        exact ret _ _ _ _ dX2_blocksLaid_57 ⟨rfl, rfl⟩
      · have hkn : q < m := Nat.lt_of_not_le fun z => h14 ((nI_leI (by omega) (by omega)).mpr z)
        have hL : LnP g p q := LnP.mk hP hm hkn h4
        refine v_aload_n C dX2_blocksLaid_17 rfl rfl ?_
        refine v_get C inG2 rfl 2 (by decide) (tg3 93 rfl rfl) rfl (cxP hP) rfl dX2_blocksLaid_18 ?_
        refine v_iload C dX2_blocksLaid_21 rfl ?_
        refine v_callVq (n := 1) (as := [.int (nI q)]) C (c_lget _ Z (100 + 10 * p + 1) (100 + 10 * p + 1 + 1) m q g (cxPL hP) hm hkn (by omega) (fun j => Z.ad (200 + 10 * (4 * p + j))) (cxPE' hP hm)) (gv (tg2 56 rfl rfl) (tg1 170 rfl rfl) (tg1 171 rfl rfl) (tg1 4 rfl rfl) (tg1 172 rfl rfl)) (by decide +kernel) ⟨Nat.le_of_ble_eq_true rfl, Nat.le_of_ble_eq_true rfl⟩ rfl (cxPL hP) rfl rfl (Nat.le_of_ble_eq_true rfl) dX2_blocksLaid_23 ⟨Nat.le_of_ble_eq_true rfl, Nat.le_of_ble_eq_true rfl⟩ (fun r23 g23 hp23 => ?_)
        obtain ⟨rfl, hg23⟩ := hp23
        rw [hg23]
        refine v_st (st' := [.ref (Z.ad (200 + 10 * (4 * p + q)))]) rfl ?_
        refine v_cast C rfl (tg2 57 rfl rfl) (cxLn hL) dX2_blocksLaid_26 ?_
        refine v_astore (lo' := [some (.ref (Z.ad (100 + 10 * p))), some (.ref (Z.ad (40 + 10 * i))), some (.int (nI c)), some (.int (sumI (fun q => if g (200 + 10 * (4 * p + q)) 3 = nI i then g (200 + 10 * (4 * p + q) + 2) c else 0) q)), some (.int (nI q)), some (.ref (Z.ad (200 + 10 * (4 * p + q))))]) C dX2_blocksLaid_29 (Nat.le_of_ble_eq_true rfl) rfl rfl ?_
        refine v_aload C dX2_blocksLaid_31 rfl ?_
        refine v_get C inG1 rfl 3 (by decide) (tg4 196 rfl rfl) rfl (cxLn hL) rfl dX2_blocksLaid_33 ?_
        refine v_aload_n C dX2_blocksLaid_36 rfl rfl ?_
        obtain ⟨i2, hF2, hfi⟩ := hfo q hkn
        have hi25 := hF2.lt
        refine v_inj fun hinj => ?_
        refine v_st (st' := [va_rf (some (Z.ad (40 + 10 * i))), va_rf (some (Z.ad (40 + 10 * i2)))]) (by rw [hfi, fR_nI (by omega)]; rfl) ?_
        refine v_acmp_ne (tgt := 50) C dX2_blocksLaid_37 (by decide) (fun h37 => ?_) (fun h37 => ?_)
        · have hne : ¬ g (200 + 10 * (4 * p + q)) 3 = nI i := fun z => h37 (by rw [hfi] at z; rw [nI_inj (by omega) (by omega) z])
          refine v_lo (lo' := [some (.ref (Z.ad (100 + 10 * p))), some (.ref (Z.ad (40 + 10 * i))), some (.int (nI c)), some (.int (sumI (fun q => if g (200 + 10 * (4 * p + q)) 3 = nI i then g (200 + 10 * (4 * p + q) + 2) c else 0) (q + 1))), some (.int (nI q)), some (.ref (Z.ad (200 + 10 * (4 * p + q))))]) (by rw [sumI, if_neg hne, Int32.add_zero]) ?_
          refine v_iinc (lo' := [some (.ref (Z.ad (100 + 10 * p))), some (.ref (Z.ad (40 + 10 * i))), some (.int (nI c)), some (.int (sumI (fun q => if g (200 + 10 * (4 * p + q)) 3 = nI i then g (200 + 10 * (4 * p + q) + 2) c else 0) (q + 1))), some (.int ((nI q) + 1)), some (.ref (Z.ad (200 + 10 * (4 * p + q))))]) C dX2_blocksLaid_50 rfl rfl rfl rfl ?_
          refine v_lo (lo' := [some (.ref (Z.ad (100 + 10 * p))), some (.ref (Z.ad (40 + 10 * i))), some (.int (nI c)), some (.int (sumI (fun q => if g (200 + 10 * (4 * p + q)) 3 = nI i then g (200 + 10 * (4 * p + q) + 2) c else 0) (q + 1))), some (.int (nI (q + 1))), some (.ref (Z.ad (200 + 10 * (4 * p + q))))]) (by rw [← nI_1 q]) ?_
          refine v_goto (tgt := 5) C dX2_blocksLaid_53 (by decide) ?_
          exact ih (q + 1) _ (by omega) (by omega)
        · have hii : i = i2 := by have := hinj _ _ (by rw [cxF hF2]; simp) (by rw [cxF hF]; simp) (Option.some.inj h37); omega
          subst hii
          refine v_iload_n C dX2_blocksLaid_40 rfl rfl ?_
          refine v_aload C dX2_blocksLaid_41 rfl ?_
          refine v_get C inG1 rfl 2 (by decide) (tg4 193 rfl rfl) rfl (cxLn hL) rfl dX2_blocksLaid_43 ?_
          refine v_iload_n C dX2_blocksLaid_46 rfl rfl ?_
          refine v_ialdN (a := c) C (cxLt hL) (by omega) dX2_blocksLaid_47 ?_
          refine v_iadd C dX2_blocksLaid_48 ?_
          refine v_istore_n (lo' := [some (.ref (Z.ad (100 + 10 * p))), some (.ref (Z.ad (40 + 10 * i))), some (.int (nI c)), some (.int ((sumI (fun q => if g (200 + 10 * (4 * p + q)) 3 = nI i then g (200 + 10 * (4 * p + q) + 2) c else 0) q) + (g (200 + 10 * (4 * p + q) + 2) c))), some (.int (nI q)), some (.ref (Z.ad (200 + 10 * (4 * p + q))))]) C dX2_blocksLaid_49 rfl (Nat.le_of_ble_eq_true rfl) rfl rfl ?_
          refine v_lo (lo' := [some (.ref (Z.ad (100 + 10 * p))), some (.ref (Z.ad (40 + 10 * i))), some (.int (nI c)), some (.int (sumI (fun q => if g (200 + 10 * (4 * p + q)) 3 = nI i then g (200 + 10 * (4 * p + q) + 2) c else 0) (q + 1))), some (.int (nI q)), some (.ref (Z.ad (200 + 10 * (4 * p + q))))]) (by rw [sumI, if_pos hfi]) ?_
          refine v_iinc (lo' := [some (.ref (Z.ad (100 + 10 * p))), some (.ref (Z.ad (40 + 10 * i))), some (.int (nI c)), some (.int (sumI (fun q => if g (200 + 10 * (4 * p + q)) 3 = nI i then g (200 + 10 * (4 * p + q) + 2) c else 0) (q + 1))), some (.int ((nI q) + 1)), some (.ref (Z.ad (200 + 10 * (4 * p + q))))]) C dX2_blocksLaid_50 rfl rfl rfl rfl ?_
          refine v_lo (lo' := [some (.ref (Z.ad (100 + 10 * p))), some (.ref (Z.ad (40 + 10 * i))), some (.int (nI c)), some (.int (sumI (fun q => if g (200 + 10 * (4 * p + q)) 3 = nI i then g (200 + 10 * (4 * p + q) + 2) c else 0) (q + 1))), some (.int (nI (q + 1))), some (.ref (Z.ad (200 + 10 * (4 * p + q))))]) (by rw [← nI_1 q]) ?_
          refine v_goto (tgt := 5) C dX2_blocksLaid_53 (by decide) ?_
          exact ih (q + 1) _ (by omega) (by omega)
  refine v_iconst (v := 0) C dX2_blocksLaid_0 (by decide) ?_
  refine v_topi (y := sumI (fun q => if g (200 + 10 * (4 * p + q)) 3 = nI i then g (200 + 10 * (4 * p + q) + 2) c else 0) 0) rfl ?_
  refine v_istore_n (lo' := [some (.ref (Z.ad (100 + 10 * p))), some (.ref (Z.ad (40 + 10 * i))), some (.int (nI c)), some (.int (sumI (fun q => if g (200 + 10 * (4 * p + q)) 3 = nI i then g (200 + 10 * (4 * p + q) + 2) c else 0) 0)), none, none]) C dX2_blocksLaid_1 rfl (Nat.le_of_ble_eq_true rfl) rfl rfl ?_
  refine v_iconst (v := 0) C dX2_blocksLaid_2 (by decide) ?_
  refine v_topi (y := nI 0) rfl ?_
  refine v_istore (lo' := [some (.ref (Z.ad (100 + 10 * p))), some (.ref (Z.ad (40 + 10 * i))), some (.int (nI c)), some (.int (sumI (fun q => if g (200 + 10 * (4 * p + q)) 3 = nI i then g (200 + 10 * (4 * p + q) + 2) c else 0) 0)), some (.int (nI 0)), none]) C dX2_blocksLaid_3 (Nat.le_of_ble_eq_true rfl) rfl rfl ?_
  exact loop (m + 1) 0 _ (by omega) (by omega)
def bwG (g : MG) (i : Nat) : MG := fun k => if k = 40 + 10 * i + 1 then (fun j => if j < 10 then g k j - (mn (g (40 + 10 * i + 3) j / 400) (g (40 + 10 * i + 2) j)) else g k j) else if k = 40 + 10 * i + 2 then (fun j => if j < 10 then g k j - (mn (g (40 + 10 * i + 3) j / 400) (g (40 + 10 * i + 2) j)) else g k j) else if k = 40 + 10 * i + 3 then (fun j => if j < 10 then g k j - (mn (g (40 + 10 * i + 3) j / 400) (g (40 + 10 * i + 2) j)) * 400 else g k j) else g k
set_option maxRecDepth 100000 in
theorem c_breakWorn (l : Launch) (Z : Zc) (i : Nat) (g : MG) (hF : FnP g i) : MI l yX0_breakWorn cX0_breakWorn 4 (some .int) (rmz 1 13 0 0) Z [.ref (Z.ad (40 + 10 * i))] g (fun r g' => r = sumI (fun j => (mn (g (40 + 10 * i + 3) j / 400) (g (40 + 10 * i + 2) j))) 10 ∧ g' = bwG g i) := by
  refine ent_i (own := RX0) (lo := [some (.ref (Z.ad (40 + 10 * i))), none, none, none]) (by decide) rfl (by simp [lg_sl, Value.category]) rfl (fun P hl C ret => ?_)
  have hi5 := hF.lt
  have loop : ∀ (n : Nat) (c : Nat) (g1 : MG) (v : Option Value), 10 - c < n → c ≤ 10 → (∀ q, q ≠ 40 + 10 * i + 1 → q ≠ 40 + 10 * i + 2 → q ≠ 40 + 10 * i + 3 → g1 q = g q) → (∀ j, g1 (40 + 10 * i + 1) j = if j < c then g (40 + 10 * i + 1) j - (mn (g (40 + 10 * i + 3) j / 400) (g (40 + 10 * i + 2) j)) else g (40 + 10 * i + 1) j) → (∀ j, g1 (40 + 10 * i + 2) j = if j < c then g (40 + 10 * i + 2) j - (mn (g (40 + 10 * i + 3) j / 400) (g (40 + 10 * i + 2) j)) else g (40 + 10 * i + 2) j) → (∀ j, g1 (40 + 10 * i + 3) j = if j < c then g (40 + 10 * i + 3) j - (mn (g (40 + 10 * i + 3) j / 400) (g (40 + 10 * i + 2) j)) * 400 else g (40 + 10 * i + 3) j) → V P (rmz 1 13 0 0) Z [some (.ref (Z.ad (40 + 10 * i))), some (.int (sumI (fun j => (mn (g (40 + 10 * i + 3) j / 400) (g (40 + 10 * i + 2) j))) c)), some (.int (nI c)), v] 4 [] g1 0 0 := by
    intro n
    induction n with
    | zero => intro c g1 v hn hc hr h1 h2 h3; exact absurd hn (Nat.not_lt_zero _)
    | succ n ih =>
      intro c g1 v hn hc hr h1 h2 h3
      have hF1 : FnP g1 i := hF.e (hr 31 (by omega) (by omega) (by omega))
      refine v_iload_n C dX0_breakWorn_4 rfl rfl ?_
      refine v_bipush (v := 10) C dX0_breakWorn_5 (by decide) ?_
      refine v_icmp_ge (tgt := 74) C dX0_breakWorn_7 (by decide) (fun h7 => ?_) (fun h7 => ?_)
      · have hkn : c = 10 := Nat.le_antisymm hc ((nI_leI (a := 10) (by decide) (by omega)).mp h7)
        subst hkn
        refine v_iload_n C dX0_breakWorn_74 rfl rfl ?_
        exact ret _ _ _ _ dX0_breakWorn_75 ⟨rfl, funext fun z => by unfold bwG; by_cases z1 : z = 40 + 10 * i + 1; (· rw [if_pos z1, z1]; exact funext h1); (· rw [if_neg z1]; by_cases z2 : z = 40 + 10 * i + 2; (· rw [if_pos z2, z2]; exact funext h2); (· rw [if_neg z2]; by_cases z3 : z = 40 + 10 * i + 3; (· rw [if_pos z3, z3]; exact funext h3); (· rw [if_neg z3]; exact hr z z1 z2 z3)))⟩
      · have hkn : c < 10 := Nat.lt_of_not_le fun q => h7 ((nI_leI (a := 10) (by decide) (by omega)).mpr q)
        refine v_aload_n C dX0_breakWorn_10 rfl rfl ?_
        refine v_get C inG0 rfl 4 (by decide) (tg5 52 rfl rfl) rfl (cxF hF1) rfl dX0_breakWorn_11 ?_
        refine v_iload_n C dX0_breakWorn_14 rfl rfl ?_
        refine v_ialdN (a := c) C (cxFa 3 hF1 (by decide)) (by omega) dX0_breakWorn_15 ?_
        refine v_topi (y := g (40 + 10 * i + 3) c) (by rw [h3, if_neg (by omega)]) ?_
        refine v_sipush (v := 400) C dX0_breakWorn_16 (by decide) ?_
        refine v_idiv C dX0_breakWorn_19 (by decide) ?_
        refine v_aload_n C dX0_breakWorn_20 rfl rfl ?_
        refine v_get C inG0 rfl 3 (by decide) (tg5 49 rfl rfl) rfl (cxF hF1) rfl dX0_breakWorn_21 ?_
        refine v_iload_n C dX0_breakWorn_24 rfl rfl ?_
        refine v_ialdN (a := c) C (cxFa 2 hF1 (by decide)) (by omega) dX0_breakWorn_25 ?_
        refine v_topi (y := g (40 + 10 * i + 2) c) (by rw [h2, if_neg (by omega)]) ?_
        refine v_mmin C (tg2 31 rfl rfl) (tg2 32 rfl rfl) (tg1 14 rfl rfl) (tg2 33 rfl rfl) (Nat.le_of_ble_eq_true rfl) (Nat.le_of_ble_eq_true rfl) (Nat.le_of_ble_eq_true rfl) (Nat.le_of_ble_eq_true rfl) dX0_breakWorn_26 ?_
        refine v_topi (y := mn (g (40 + 10 * i + 3) c / 400) (g (40 + 10 * i + 2) c)) rfl ?_
        refine v_istore_n (lo' := [some (.ref (Z.ad (40 + 10 * i))), some (.int (sumI (fun j => (mn (g (40 + 10 * i + 3) j / 400) (g (40 + 10 * i + 2) j))) c)), some (.int (nI c)), some (.int (mn (g (40 + 10 * i + 3) c / 400) (g (40 + 10 * i + 2) c)))]) C dX0_breakWorn_29 rfl (Nat.le_of_ble_eq_true rfl) rfl rfl ?_
        refine v_aload_n C dX0_breakWorn_30 rfl rfl ?_
        refine v_get C inG0 rfl 2 (by decide) (tg5 47 rfl rfl) rfl (cxF hF1) rfl dX0_breakWorn_31 ?_
        refine v_iload_n C dX0_breakWorn_34 rfl rfl ?_
        refine v_dup2 C dX0_breakWorn_35 rfl rfl ?_
        refine v_ialdN (a := c) C (cxFa 1 hF1 (by decide)) (by omega) dX0_breakWorn_36 ?_
        refine v_topi (y := g (40 + 10 * i + 1) c) (by rw [h1, if_neg (by omega)]) ?_
        refine v_iload_n C dX0_breakWorn_37 rfl rfl ?_
        refine v_isub C dX0_breakWorn_38 ?_
        refine v_iastN (a := c) C (fun g9 h9 => cxFa 1 (FnP.e hF1 (h9 31 (by omega))) (by decide)) (lk_n (by omega) (by omega) (by omega)) (by omega) (by omega) dX0_breakWorn_39 ?_
        refine v_aload_n C dX0_breakWorn_40 rfl rfl ?_
        refine v_get C inG0 rfl 3 (by decide) (tg5 49 rfl rfl) rfl (cxF (FnP.w hF1 (lk_n (by omega) (by omega) (by omega)))) rfl dX0_breakWorn_41 ?_
        refine v_iload_n C dX0_breakWorn_44 rfl rfl ?_
        refine v_dup2 C dX0_breakWorn_45 rfl rfl ?_
        refine v_ialdN (a := c) C (cxFa 2 (FnP.w hF1 (lk_n (by omega) (by omega) (by omega))) (by decide)) (by omega) dX0_breakWorn_46 ?_
        refine v_topi (y := g (40 + 10 * i + 2) c) (by rw [wr_row _ _ _ _ (by omega), h2, if_neg (by omega)]) ?_
        refine v_iload_n C dX0_breakWorn_47 rfl rfl ?_
        refine v_isub C dX0_breakWorn_48 ?_
        refine v_iastN (a := c) C (fun g9 h9 => cxFa 2 (FnP.e (FnP.w hF1 (lk_n (by omega) (by omega) (by omega))) (h9 31 (by omega))) (by decide)) (lk_n (by omega) (by omega) (by omega)) (by omega) (by omega) dX0_breakWorn_49 ?_
        refine v_aload_n C dX0_breakWorn_50 rfl rfl ?_
        refine v_get C inG0 rfl 4 (by decide) (tg5 52 rfl rfl) rfl (cxF (FnP.w (FnP.w hF1 (lk_n (by omega) (by omega) (by omega))) (lk_n (by omega) (by omega) (by omega)))) rfl dX0_breakWorn_51 ?_
        refine v_iload_n C dX0_breakWorn_54 rfl rfl ?_
        refine v_dup2 C dX0_breakWorn_55 rfl rfl ?_
        refine v_ialdN (a := c) C (cxFa 3 (FnP.w (FnP.w hF1 (lk_n (by omega) (by omega) (by omega))) (lk_n (by omega) (by omega) (by omega))) (by decide)) (by omega) dX0_breakWorn_56 ?_
        refine v_topi (y := g (40 + 10 * i + 3) c) (by rw [wr_row _ _ _ _ (by omega), wr_row _ _ _ _ (by omega), h3, if_neg (by omega)]) ?_
        refine v_iload_n C dX0_breakWorn_57 rfl rfl ?_
        refine v_sipush (v := 400) C dX0_breakWorn_58 (by decide) ?_
        refine v_imul C dX0_breakWorn_61 ?_
        refine v_isub C dX0_breakWorn_62 ?_
        refine v_iastN (a := c) C (fun g9 h9 => cxFa 3 (FnP.e (FnP.w (FnP.w hF1 (lk_n (by omega) (by omega) (by omega))) (lk_n (by omega) (by omega) (by omega))) (h9 31 (by omega))) (by decide)) (lk_n (by omega) (by omega) (by omega)) (by omega) (by omega) dX0_breakWorn_63 ?_
        refine v_iload_n C dX0_breakWorn_64 rfl rfl ?_
        refine v_iload_n C dX0_breakWorn_65 rfl rfl ?_
        refine v_iadd C dX0_breakWorn_66 ?_
        refine v_topi (y := sumI (fun j => (mn (g (40 + 10 * i + 3) j / 400) (g (40 + 10 * i + 2) j))) (c + 1)) rfl ?_
        refine v_istore_n (lo' := [some (.ref (Z.ad (40 + 10 * i))), some (.int (sumI (fun j => (mn (g (40 + 10 * i + 3) j / 400) (g (40 + 10 * i + 2) j))) (c + 1))), some (.int (nI c)), some (.int (mn (g (40 + 10 * i + 3) c / 400) (g (40 + 10 * i + 2) c)))]) C dX0_breakWorn_67 rfl (Nat.le_of_ble_eq_true rfl) rfl rfl ?_
        refine v_iinc (lo' := [some (.ref (Z.ad (40 + 10 * i))), some (.int (sumI (fun j => (mn (g (40 + 10 * i + 3) j / 400) (g (40 + 10 * i + 2) j))) (c + 1))), some (.int ((nI c) + 1)), some (.int (mn (g (40 + 10 * i + 3) c / 400) (g (40 + 10 * i + 2) c)))]) C dX0_breakWorn_68 rfl rfl rfl rfl ?_
        refine v_lo (lo' := [some (.ref (Z.ad (40 + 10 * i))), some (.int (sumI (fun j => (mn (g (40 + 10 * i + 3) j / 400) (g (40 + 10 * i + 2) j))) (c + 1))), some (.int (nI (c + 1))), some (.int (mn (g (40 + 10 * i + 3) c / 400) (g (40 + 10 * i + 2) c)))]) (by rw [← nI_1 c]) ?_
        refine v_goto (tgt := 4) C dX0_breakWorn_71 (by decide) ?_
        exact ih (c + 1) _ _ (by omega) (by omega) (fun q q1 q2 q3 => by rw [wr_row _ _ _ _ q3, wr_row _ _ _ _ q2, wr_row _ _ _ _ q1]; exact hr q q1 q2 q3) (fun j => by by_cases hj : j = c; (· rw [hj, wr_row _ _ _ _ (by omega), wr_row _ _ _ _ (by omega), wr_same, if_pos (Nat.lt_succ_self c)]); (· rw [wr_row _ _ _ _ (by omega), wr_row _ _ _ _ (by omega), wr_ne _ _ _ _ (Or.inr hj), h1]; by_cases hq : j < c; (· rw [if_pos hq, if_pos (by omega)]); (· rw [if_neg hq, if_neg (by omega)]))) (fun j => by by_cases hj : j = c; (· rw [hj, wr_row _ _ _ _ (by omega), wr_same, if_pos (Nat.lt_succ_self c)]); (· rw [wr_row _ _ _ _ (by omega), wr_ne _ _ _ _ (Or.inr hj), wr_row _ _ _ _ (by omega), h2]; by_cases hq : j < c; (· rw [if_pos hq, if_pos (by omega)]); (· rw [if_neg hq, if_neg (by omega)]))) (fun j => by by_cases hj : j = c; (· rw [hj, wr_same, if_pos (Nat.lt_succ_self c)]); (· rw [wr_ne _ _ _ _ (Or.inr hj), wr_row _ _ _ _ (by omega), wr_row _ _ _ _ (by omega), h3]; by_cases hq : j < c; (· rw [if_pos hq, if_pos (by omega)]); (· rw [if_neg hq, if_neg (by omega)])))
  refine v_iconst (v := 0) C dX0_breakWorn_0 (by decide) ?_
  refine v_topi (y := sumI (fun j => (mn (g (40 + 10 * i + 3) j / 400) (g (40 + 10 * i + 2) j))) 0) rfl ?_
  refine v_istore_n (lo' := [some (.ref (Z.ad (40 + 10 * i))), some (.int (sumI (fun j => (mn (g (40 + 10 * i + 3) j / 400) (g (40 + 10 * i + 2) j))) 0)), none, none]) C dX0_breakWorn_1 rfl (Nat.le_of_ble_eq_true rfl) rfl rfl ?_
  refine v_iconst (v := 0) C dX0_breakWorn_2 (by decide) ?_
  refine v_topi (y := nI 0) rfl ?_
  refine v_istore_n (lo' := [some (.ref (Z.ad (40 + 10 * i))), some (.int (sumI (fun j => (mn (g (40 + 10 * i + 3) j / 400) (g (40 + 10 * i + 2) j))) 0)), some (.int (nI 0)), none]) C dX0_breakWorn_3 rfl (Nat.le_of_ble_eq_true rfl) rfl rfl ?_
  exact loop 11 0 g _ (by omega) (by omega) (fun _ _ _ _ => rfl) (fun j => by rw [if_neg (Nat.not_lt_zero j)]) (fun j => by rw [if_neg (Nat.not_lt_zero j)]) (fun j => by rw [if_neg (Nat.not_lt_zero j)])
