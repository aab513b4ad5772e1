/-! THE LAW'S METHODS that only look: letters, wrong of a poster; word, wrong of rows; proof -/
def dfN (f h : Nat → Int32) : Nat → Nat
  | 0 => 0
  | n + 1 => dfN f h n + (if f n = h n then 0 else 1)
theorem dfN_le (f h : Nat → Int32) : ∀ n, dfN f h n ≤ n := by
  intro n
  induction n with
  | zero => exact Nat.le_refl 0
  | succ n ih => unfold dfN; split <;> omega
/-- a poster's lines: their keys kq, their lengths sz -/
def LnK (m : MG) (K KL nl : Nat) (kq sz : Nat → Nat) : Prop := m K 2 = nI KL ∧ (600 ≤ KL ∧ KL < 1200) ∧ isQ m 2 KL nl ∧ nl ≤ 4 ∧ ∀ q, q < nl → m KL q = nI (kq q) ∧ (600 ≤ kq q ∧ kq q < 1200) ∧ isA m (kq q) (sz q) ∧ sz q ≤ 10
theorem wd_step (t i e : Nat) : t / 10 ^ e % 10 ^ (i + 1) = 10 * (t / 10 ^ (e + 1) % 10 ^ i) + t / 10 ^ e % 10 := by
  rw [Nat.pow_succ 10 e, ← Nat.div_div_eq_div_mul]
  generalize t / 10 ^ e = a
  rw [Nat.pow_succ, Nat.mul_comm (10 ^ i) 10, Nat.mod_mul]
  omega
theorem sumI_s (f : Nat → Int32) (n : Nat) : sumI f n + f n = sumI f (n + 1) := rfl
set_option maxRecDepth 100000 in
theorem l_pletters (l : Launch) (Z : Zc) (ad : Nat → Nat) (m : MG) (K KL nl : Nat) (kq sz : Nat → Nat) (hK : 600 ≤ K ∧ K < 1200) (h5 : m K 100000 = 5) (hL : LnK m K KL nl kq sz) (g : MG) : MI l yX4_letters cX4_letters 6 (some .int) (rmz 0 0 0 0) (Z.wl ad m) [.ref (ad K)] g (fun r g' => r = sumI (fun q => nI (sz q)) nl ∧ g' = g) := by
  have h4 := hL.2.2.2.1
  refine ent_i (own := RX4) (lo := [some (.ref (ad K)), none, none, none, none, none]) (by decide) rfl (by simp [lg_sl, Value.category]) rfl (fun P hl C ret => ?_)
  have C : Cx P Z cX4_letters RX4 := C
  have loop : ∀ (n i : Nat) (v : Option Value), nl - i < n → i ≤ nl → V P (rmz 0 0 0 0) (Z.wl ad m) [some (.ref (ad K)), some (.int (sumI (fun q => nI (sz q)) i)), some (.ref (ad KL)), some (.int (nI nl)), some (.int (nI i)), v] 13 [] g 0 0 := by
    intro n
    induction n with
    | zero => intro i v hn; exact absurd hn (Nat.not_lt_zero _)
    | succ n ih =>
      intro i v hn hi
      refine v_iload (C.wl _ _) dX4_letters_13 rfl ?_
      refine v_iload_n (C.wl _ _) dX4_letters_15 rfl rfl ?_
      refine v_icmp_ge (tgt := 37) (C.wl _ _) dX4_letters_16 (by decide) (fun h16 => ?_) (fun h16 => ?_)
      · have hkn : i = nl := Nat.le_antisymm hi ((nI_leI (by omega) (by omega)).mp h16)
        subst hkn
        refine v_iload_n (C.wl _ _) dX4_letters_37 rfl rfl ?_
        exact ret _ _ _ _ dX4_letters_38 ⟨rfl, rfl⟩
      · have hkn : i < nl := Nat.lt_of_not_le fun q => h16 ((nI_leI (by omega) (by omega)).mpr q)
        refine v_aload_n (C.wl _ _) dX4_letters_19 rfl rfl ?_
        refine v_iload (C.wl _ _) dX4_letters_20 rfl ?_
        refine l_aald (k := KL) (n := nl) (a := i) (k2 := kq i) C hL.2.1 (Or.inl hL.2.2.1.1) hL.2.2.1.2 (by omega) (hL.2.2.2.2 i (by omega)).1 (hL.2.2.2.2 i (by omega)).2.1 dX4_letters_22 ?_
        refine v_astore (lo' := [some (.ref (ad K)), some (.int (sumI (fun q => nI (sz q)) i)), some (.ref (ad KL)), some (.int (nI nl)), some (.int (nI i)), some (.ref (ad (kq i)))]) (C.wl _ _) dX4_letters_23 (Nat.le_of_ble_eq_true rfl) rfl rfl ?_
        refine v_iload_n (C.wl _ _) dX4_letters_25 rfl rfl ?_
        refine v_aload (C.wl _ _) dX4_letters_26 rfl ?_
        refine l_len (k := kq i) (n := sz i) C (hL.2.2.2.2 i (by omega)).2.1 (Or.inl (hL.2.2.2.2 i (by omega)).2.2.1.1) (hL.2.2.2.2 i (by omega)).2.2.1.2 (by have := (hL.2.2.2.2 i (by omega)).2.2.2; omega) dX4_letters_28 ?_
        refine v_iadd (C.wl _ _) dX4_letters_29 ?_
        refine v_topi (y := sumI (fun q => nI (sz q)) (i + 1)) (sumI_s _ _) ?_
        refine v_istore_n (lo' := [some (.ref (ad K)), some (.int (sumI (fun q => nI (sz q)) (i + 1))), some (.ref (ad KL)), some (.int (nI nl)), some (.int (nI i)), some (.ref (ad (kq i)))]) (C.wl _ _) dX4_letters_30 rfl (Nat.le_of_ble_eq_true rfl) rfl rfl ?_
        refine v_iinc (lo' := [some (.ref (ad K)), some (.int (sumI (fun q => nI (sz q)) (i + 1))), some (.ref (ad KL)), some (.int (nI nl)), some (.int ((nI i) + 1)), some (.ref (ad (kq i)))]) (C.wl _ _) dX4_letters_31 rfl rfl rfl rfl ?_
        refine v_goto (tgt := 13) (C.wl _ _) dX4_letters_34 (by decide) ?_
        refine v_lo (lo' := [some (.ref (ad K)), some (.int (sumI (fun q => nI (sz q)) (i + 1))), some (.ref (ad KL)), some (.int (nI nl)), some (.int (nI (i + 1))), some (.ref (ad (kq i)))]) (by rw [nI_succ]) ?_
        exact ih (i + 1) _ (by omega) (by omega)
  refine v_iconst (v := 0) (C.wl _ _) dX4_letters_0 (by decide) ?_
  refine v_istore_n (lo' := [some (.ref (ad K)), some (.int 0), none, none, none, none]) (C.wl _ _) dX4_letters_1 rfl (Nat.le_of_ble_eq_true rfl) rfl rfl ?_
  refine v_aload_n (C.wl _ _) dX4_letters_2 rfl rfl ?_
  refine l_get (k := K) C inG4 (ci := 5) rfl 2 (by decide) (tg2 181 rfl rfl) rfl hK (cW_5 h5) (ps_r (by decide) hL.1 hL.2.1) dX4_letters_3 ?_
  refine v_astore_n (lo' := [some (.ref (ad K)), some (.int 0), some (.ref (ad KL)), none, none, none]) (C.wl _ _) dX4_letters_6 rfl (Nat.le_of_ble_eq_true rfl) rfl rfl ?_
  refine v_aload_n (C.wl _ _) dX4_letters_7 rfl rfl ?_
  refine l_len (k := KL) (n := nl) C hL.2.1 (Or.inr (Or.inl hL.2.2.1.1)) hL.2.2.1.2 (by have := hL.2.2.2.1; omega) dX4_letters_8 ?_
  refine v_istore_n (lo' := [some (.ref (ad K)), some (.int 0), some (.ref (ad KL)), some (.int (nI nl)), none, none]) (C.wl _ _) dX4_letters_9 rfl (Nat.le_of_ble_eq_true rfl) rfl rfl ?_
  refine v_iconst (v := 0) (C.wl _ _) dX4_letters_10 (by decide) ?_
  refine v_istore (lo' := [some (.ref (ad K)), some (.int 0), some (.ref (ad KL)), some (.int (nI nl)), some (.int 0), none]) (C.wl _ _) dX4_letters_11 (Nat.le_of_ble_eq_true rfl) rfl rfl ?_
  exact loop _ 0 _ (Nat.lt_succ_self _) (Nat.zero_le _)
set_option maxRecDepth 100000 in
theorem l_pwrong (l : Launch) (Z : Zc) (ad : Nat → Nat) (m : MG) (K KF nF : Nat) (hK : 600 ≤ K ∧ K < 1200) (h5 : m K 100000 = 5) (hF : m K 6 = nI KF) (hFr : 600 ≤ KF ∧ KF < 1200) (hFa : isA m KF nF) (h4 : nF ≤ 4) (g : MG) : MI l yX4_wrong cX4_wrong 6 (some .int) (rmz 0 0 0 0) (Z.wl ad m) [.ref (ad K)] g (fun r g' => r = (if m K 3 = 0 then 0 else sumI (m KF) nF) ∧ g' = g) := by
  refine ent_i (own := RX4) (lo := [some (.ref (ad K)), none, none, none, none, none]) (by decide) rfl (by simp [lg_sl, Value.category]) rfl (fun P hl C ret => ?_)
  have C : Cx P Z cX4_wrong RX4 := C
  have loop : ∀ (n i : Nat) (v : Option Value), nF - i < n → i ≤ nF → V P (rmz 0 0 0 0) (Z.wl ad m) [some (.ref (ad K)), some (.int (sumI (m KF) i)), some (.ref (ad KF)), some (.int (nI nF)), some (.int (nI i)), v] 13 [] g 0 0 := by
    intro n
    induction n with
    | zero => intro i v hn; exact absurd hn (Nat.not_lt_zero _)
    | succ n ih =>
      intro i v hn hi
      refine v_iload (C.wl _ _) dX4_wrong_13 rfl ?_
      refine v_iload_n (C.wl _ _) dX4_wrong_15 rfl rfl ?_
      refine v_icmp_ge (tgt := 36) (C.wl _ _) dX4_wrong_16 (by decide) (fun h16 => ?_) (fun h16 => ?_)
      · have hkn : i = nF := Nat.le_antisymm hi ((nI_leI (by omega) (by omega)).mp h16)
        subst hkn
        refine v_aload_n (C.wl _ _) dX4_wrong_36 rfl rfl ?_
        refine l_get (k := K) C inG4 (ci := 5) rfl 3 (by decide) (tg2 184 rfl rfl) rfl hK (cW_5 h5) rfl dX4_wrong_37 ?_
        refine v_if_eq (tgt := 47) (C.wl _ _) dX4_wrong_40 (by decide) (fun h40 => ?_) (fun h40 => ?_)
        · refine v_iconst (v := 0) (C.wl _ _) dX4_wrong_47 (by decide) ?_
          exact ret _ _ _ _ dX4_wrong_48 ⟨by rw [if_pos h40], rfl⟩
        · refine v_iload_n (C.wl _ _) dX4_wrong_43 rfl rfl ?_
          refine v_goto (tgt := 48) (C.wl _ _) dX4_wrong_44 (by decide) ?_
          exact ret _ _ _ _ dX4_wrong_48 ⟨by rw [if_neg h40], rfl⟩
      · have hkn : i < nF := Nat.lt_of_not_le fun q => h16 ((nI_leI (by omega) (by omega)).mpr q)
        refine v_aload_n (C.wl _ _) dX4_wrong_19 rfl rfl ?_
        refine v_iload (C.wl _ _) dX4_wrong_20 rfl ?_
        refine l_iald (k := KF) (n := nF) (a := i) C hFr hFa.1 hFa.2 (by omega) dX4_wrong_22 ?_
        refine v_istore (lo' := [some (.ref (ad K)), some (.int (sumI (m KF) i)), some (.ref (ad KF)), some (.int (nI nF)), some (.int (nI i)), some (.int (m KF i))]) (C.wl _ _) dX4_wrong_23 (Nat.le_of_ble_eq_true rfl) rfl rfl ?_
        refine v_iload_n (C.wl _ _) dX4_wrong_25 rfl rfl ?_
        refine v_iload (C.wl _ _) dX4_wrong_26 rfl ?_
        refine v_iadd (C.wl _ _) dX4_wrong_28 ?_
        refine v_topi (y := sumI (m KF) (i + 1)) (sumI_s _ _) ?_
        refine v_istore_n (lo' := [some (.ref (ad K)), some (.int (sumI (m KF) (i + 1))), some (.ref (ad KF)), some (.int (nI nF)), some (.int (nI i)), some (.int (m KF i))]) (C.wl _ _) dX4_wrong_29 rfl (Nat.le_of_ble_eq_true rfl) rfl rfl ?_
        refine v_iinc (lo' := [some (.ref (ad K)), some (.int (sumI (m KF) (i + 1))), some (.ref (ad KF)), some (.int (nI nF)), some (.int ((nI i) + 1)), some (.int (m KF i))]) (C.wl _ _) dX4_wrong_30 rfl rfl rfl rfl ?_
        refine v_goto (tgt := 13) (C.wl _ _) dX4_wrong_33 (by decide) ?_
        refine v_lo (lo' := [some (.ref (ad K)), some (.int (sumI (m KF) (i + 1))), some (.ref (ad KF)), some (.int (nI nF)), some (.int (nI (i + 1))), some (.int (m KF i))]) (by rw [nI_succ]) ?_
        exact ih (i + 1) _ (by omega) (by omega)
  refine v_iconst (v := 0) (C.wl _ _) dX4_wrong_0 (by decide) ?_
  refine v_istore_n (lo' := [some (.ref (ad K)), some (.int 0), none, none, none, none]) (C.wl _ _) dX4_wrong_1 rfl (Nat.le_of_ble_eq_true rfl) rfl rfl ?_
  refine v_aload_n (C.wl _ _) dX4_wrong_2 rfl rfl ?_
  refine l_get (k := K) C inG4 (ci := 5) rfl 6 (by decide) (tg2 191 rfl rfl) rfl hK (cW_5 h5) (ps_r (by decide) hF hFr) dX4_wrong_3 ?_
  refine v_astore_n (lo' := [some (.ref (ad K)), some (.int 0), some (.ref (ad KF)), none, none, none]) (C.wl _ _) dX4_wrong_6 rfl (Nat.le_of_ble_eq_true rfl) rfl rfl ?_
  refine v_aload_n (C.wl _ _) dX4_wrong_7 rfl rfl ?_
  refine l_len (k := KF) (n := nF) C hFr (Or.inl hFa.1) hFa.2 (by omega) dX4_wrong_8 ?_
  refine v_istore_n (lo' := [some (.ref (ad K)), some (.int 0), some (.ref (ad KF)), some (.int (nI nF)), none, none]) (C.wl _ _) dX4_wrong_9 rfl (Nat.le_of_ble_eq_true rfl) rfl rfl ?_
  refine v_iconst (v := 0) (C.wl _ _) dX4_wrong_10 (by decide) ?_
  refine v_istore (lo' := [some (.ref (ad K)), some (.int 0), some (.ref (ad KF)), some (.int (nI nF)), some (.int 0), none]) (C.wl _ _) dX4_wrong_11 (Nat.le_of_ble_eq_true rfl) rfl rfl ?_
  exact loop _ 0 _ (Nat.lt_succ_self _) (Nat.zero_le _)
set_option maxRecDepth 100000 in
theorem l_sword (l : Launch) (Z : Zc) (ad : Nat → Nat) (m : MG) (A n t : Nat) (hAr : 600 ≤ A ∧ A < 1200) (hA : isA m A n) (hn8 : n ≤ 8) (hd : ∀ c, c < n → m A c = nI (t / 10 ^ (n - 1 - c) % 10)) (g : MG) : MI l yX5_word cX5_word 6 (some .int) (rmz 0 0 0 0) (Z.wl ad m) [.ref (ad A)] g (fun r g' => r = nI (t % 10 ^ n) ∧ g' = g) := by
  refine ent_i (own := RX5) (lo := [some (.ref (ad A)), none, none, none, none, none]) (by decide) rfl (by simp [lg_sl, Value.category]) rfl (fun P hl C ret => ?_)
  have C : Cx P Z cX5_word RX5 := C
  have loop : ∀ (d i : Nat) (v : Option Value), n - i < d → i ≤ n → V P (rmz 0 0 0 0) (Z.wl ad m) [some (.ref (ad A)), some (.int (nI (t / 10 ^ (n - i) % 10 ^ i))), some (.ref (ad A)), some (.int (nI n)), some (.int (nI i)), v] 10 [] g 0 0 := by
    intro d
    induction d with
    | zero => intro i v hn; exact absurd hn (Nat.not_lt_zero _)
    | succ d ih =>
      intro i v hn hi
      refine v_iload (C.wl _ _) dX5_word_10 rfl ?_
      refine v_iload_n (C.wl _ _) dX5_word_12 rfl rfl ?_
      refine v_icmp_ge (tgt := 36) (C.wl _ _) dX5_word_13 (by decide) (fun h13 => ?_) (fun h13 => ?_)
      · have hkn : i = n := Nat.le_antisymm hi ((nI_leI (by omega) (by omega)).mp h13)
        subst hkn
        refine v_iload_n (C.wl _ _) dX5_word_36 rfl rfl ?_
        exact ret _ _ _ _ dX5_word_37 ⟨by rw [Nat.sub_self, Nat.pow_zero, Nat.div_one], rfl⟩
      · have hkn : i < n := Nat.lt_of_not_le fun q => h13 ((nI_leI (by omega) (by omega)).mpr q)
        refine v_aload_n (C.wl _ _) dX5_word_16 rfl rfl ?_
        refine v_iload (C.wl _ _) dX5_word_17 rfl ?_
        refine l_iald (k := A) (n := n) (a := i) C hAr hA.1 hA.2 (by omega) dX5_word_19 ?_
        refine v_topi (y := nI (t / 10 ^ (n - 1 - i) % 10)) (hd i hkn) ?_
        refine v_istore (lo' := [some (.ref (ad A)), some (.int (nI (t / 10 ^ (n - i) % 10 ^ i))), some (.ref (ad A)), some (.int (nI n)), some (.int (nI i)), some (.int (nI (t / 10 ^ (n - 1 - i) % 10)))]) (C.wl _ _) dX5_word_20 (Nat.le_of_ble_eq_true rfl) rfl rfl ?_
        refine v_bipush (v := 10) (C.wl _ _) dX5_word_22 (by decide) ?_
        refine v_iload_n (C.wl _ _) dX5_word_24 rfl rfl ?_
        refine v_imul (C.wl _ _) dX5_word_25 ?_
        refine v_iload (C.wl _ _) dX5_word_26 rfl ?_
        refine v_iadd (C.wl _ _) dX5_word_28 ?_
        refine v_topi (y := nI (t / 10 ^ (n - (i + 1)) % 10 ^ (i + 1))) (by rw [nI_10, show n - 1 - i = n - (i + 1) by omega, show n - i = n - (i + 1) + 1 by omega, ← wd_step]) ?_
        refine v_istore_n (lo' := [some (.ref (ad A)), some (.int (nI (t / 10 ^ (n - (i + 1)) % 10 ^ (i + 1)))), some (.ref (ad A)), some (.int (nI n)), some (.int (nI i)), some (.int (nI (t / 10 ^ (n - 1 - i) % 10)))]) (C.wl _ _) dX5_word_29 rfl (Nat.le_of_ble_eq_true rfl) rfl rfl ?_
        refine v_iinc (lo' := [some (.ref (ad A)), some (.int (nI (t / 10 ^ (n - (i + 1)) % 10 ^ (i + 1)))), some (.ref (ad A)), some (.int (nI n)), some (.int ((nI i) + 1)), some (.int (nI (t / 10 ^ (n - 1 - i) % 10)))]) (C.wl _ _) dX5_word_30 rfl rfl rfl rfl ?_
        refine v_goto (tgt := 10) (C.wl _ _) dX5_word_33 (by decide) ?_
        refine v_lo (lo' := [some (.ref (ad A)), some (.int (nI (t / 10 ^ (n - (i + 1)) % 10 ^ (i + 1)))), some (.ref (ad A)), some (.int (nI n)), some (.int (nI (i + 1))), some (.int (nI (t / 10 ^ (n - 1 - i) % 10)))]) (by rw [nI_succ]) ?_
        exact ih (i + 1) _ (by omega) (by omega)
  refine v_iconst (v := 0) (C.wl _ _) dX5_word_0 (by decide) ?_
  refine v_istore_n (lo' := [some (.ref (ad A)), some (.int 0), none, none, none, none]) (C.wl _ _) dX5_word_1 rfl (Nat.le_of_ble_eq_true rfl) rfl rfl ?_
  refine v_aload_n (C.wl _ _) dX5_word_2 rfl rfl ?_
  refine v_astore_n (lo' := [some (.ref (ad A)), some (.int 0), some (.ref (ad A)), none, none, none]) (C.wl _ _) dX5_word_3 rfl (Nat.le_of_ble_eq_true rfl) rfl rfl ?_
  refine v_aload_n (C.wl _ _) dX5_word_4 rfl rfl ?_
  refine l_len (k := A) (n := n) C hAr (Or.inl hA.1) hA.2 (by omega) dX5_word_5 ?_
  refine v_istore_n (lo' := [some (.ref (ad A)), some (.int 0), some (.ref (ad A)), some (.int (nI n)), none, none]) (C.wl _ _) dX5_word_6 rfl (Nat.le_of_ble_eq_true rfl) rfl rfl ?_
  refine v_iconst (v := 0) (C.wl _ _) dX5_word_7 (by decide) ?_
  refine v_istore (lo' := [some (.ref (ad A)), some (.int 0), some (.ref (ad A)), some (.int (nI n)), some (.int 0), none]) (C.wl _ _) dX5_word_8 (Nat.le_of_ble_eq_true rfl) rfl rfl ?_
  refine v_lo (lo' := [some (.ref (ad A)), some (.int (nI (t / 10 ^ (n - 0) % 10 ^ 0))), some (.ref (ad A)), some (.int (nI n)), some (.int (nI 0)), none]) (by rw [Nat.pow_zero, Nat.mod_one]; rfl) ?_
  exact loop _ 0 _ (Nat.lt_succ_self _) (Nat.zero_le _)
set_option maxRecDepth 100000 in
theorem l_swrong (l : Launch) (Z : Zc) (ad : Nat → Nat) (m : MG) (A B n : Nat) (hAr : 600 ≤ A ∧ A < 1200) (hA : isA m A n) (hBr : 600 ≤ B ∧ B < 1200) (hB : isA m B n) (hn8 : n ≤ 10) (g : MG) : MI l yX5_wrong cX5_wrong 4 (some .int) (rmz 0 0 0 0) (Z.wl ad m) [.ref (ad A), .ref (ad B)] g (fun r g' => r = nI (dfN (m A) (m B) n) ∧ g' = g) := by
  refine ent_i (own := RX5) (lo := [some (.ref (ad A)), some (.ref (ad B)), none, none]) (by decide) rfl (by simp [lg_sl, Value.category]) rfl (fun P hl C ret => ?_)
  have C : Cx P Z cX5_wrong RX5 := C
  have loop : ∀ (d i : Nat), n - i < d → i ≤ n → V P (rmz 0 0 0 0) (Z.wl ad m) [some (.ref (ad A)), some (.ref (ad B)), some (.int (nI (dfN (m A) (m B) i))), some (.int (nI i))] 4 [] g 0 0 := by
    intro d
    induction d with
    | zero => intro i hn; exact absurd hn (Nat.not_lt_zero _)
    | succ d ih =>
      intro i hn hi
      refine v_iload_n (C.wl _ _) dX5_wrong_4 rfl rfl ?_
      refine v_aload_n (C.wl _ _) dX5_wrong_5 rfl rfl ?_
      refine l_len (k := A) (n := n) C hAr (Or.inl hA.1) hA.2 (by omega) dX5_wrong_6 ?_
      refine v_icmp_ge (tgt := 33) (C.wl _ _) dX5_wrong_7 (by decide) (fun h7 => ?_) (fun h7 => ?_)
      · have hkn : i = n := Nat.le_antisymm hi ((nI_leI (by omega) (by omega)).mp h7)
        subst hkn
        refine v_iload_n (C.wl _ _) dX5_wrong_33 rfl rfl ?_
        exact ret _ _ _ _ dX5_wrong_34 ⟨rfl, rfl⟩
      · have hkn : i < n := Nat.lt_of_not_le fun q => h7 ((nI_leI (by omega) (by omega)).mpr q)
        refine v_iload_n (C.wl _ _) dX5_wrong_10 rfl rfl ?_
        refine v_aload_n (C.wl _ _) dX5_wrong_11 rfl rfl ?_
        refine v_iload_n (C.wl _ _) dX5_wrong_12 rfl rfl ?_
        refine l_iald (k := A) (n := n) (a := i) C hAr hA.1 hA.2 (by omega) dX5_wrong_13 ?_
        refine v_aload_n (C.wl _ _) dX5_wrong_14 rfl rfl ?_
        refine v_iload_n (C.wl _ _) dX5_wrong_15 rfl rfl ?_
        refine l_iald (k := B) (n := n) (a := i) C hBr hB.1 hB.2 (by omega) dX5_wrong_16 ?_
        refine v_icmp_ne (tgt := 24) (C.wl _ _) dX5_wrong_17 (by decide) (fun h17 => ?_) (fun h17 => ?_)
        · refine v_iconst (v := 1) (C.wl _ _) dX5_wrong_24 (by decide) ?_
          refine v_iadd (C.wl _ _) dX5_wrong_25 ?_
          refine v_topi (y := nI (dfN (m A) (m B) (i + 1))) (by rw [dfN, if_neg h17]; exact nI_add _ _) ?_
          refine v_istore_n (lo' := [some (.ref (ad A)), some (.ref (ad B)), some (.int (nI (dfN (m A) (m B) (i + 1)))), some (.int (nI i))]) (C.wl _ _) dX5_wrong_26 rfl (Nat.le_of_ble_eq_true rfl) rfl rfl ?_
          refine v_iinc (lo' := [some (.ref (ad A)), some (.ref (ad B)), some (.int (nI (dfN (m A) (m B) (i + 1)))), some (.int ((nI i) + 1))]) (C.wl _ _) dX5_wrong_27 rfl rfl rfl rfl ?_
          refine v_goto (tgt := 4) (C.wl _ _) dX5_wrong_30 (by decide) ?_
          refine v_lo (lo' := [some (.ref (ad A)), some (.ref (ad B)), some (.int (nI (dfN (m A) (m B) (i + 1)))), some (.int (nI (i + 1)))]) (by rw [nI_succ]) ?_
          exact ih (i + 1) (by omega) (by omega)
        · refine v_iconst (v := 0) (C.wl _ _) dX5_wrong_20 (by decide) ?_
          refine v_goto (tgt := 25) (C.wl _ _) dX5_wrong_21 (by decide) ?_
          refine v_iadd (C.wl _ _) dX5_wrong_25 ?_
          refine v_topi (y := nI (dfN (m A) (m B) (i + 1))) (by rw [dfN, if_pos h17]; exact nI_add _ _) ?_
          refine v_istore_n (lo' := [some (.ref (ad A)), some (.ref (ad B)), some (.int (nI (dfN (m A) (m B) (i + 1)))), some (.int (nI i))]) (C.wl _ _) dX5_wrong_26 rfl (Nat.le_of_ble_eq_true rfl) rfl rfl ?_
          refine v_iinc (lo' := [some (.ref (ad A)), some (.ref (ad B)), some (.int (nI (dfN (m A) (m B) (i + 1)))), some (.int ((nI i) + 1))]) (C.wl _ _) dX5_wrong_27 rfl rfl rfl rfl ?_
          refine v_goto (tgt := 4) (C.wl _ _) dX5_wrong_30 (by decide) ?_
          refine v_lo (lo' := [some (.ref (ad A)), some (.ref (ad B)), some (.int (nI (dfN (m A) (m B) (i + 1)))), some (.int (nI (i + 1)))]) (by rw [nI_succ]) ?_
          exact ih (i + 1) (by omega) (by omega)
  refine v_iconst (v := 0) (C.wl _ _) dX5_wrong_0 (by decide) ?_
  refine v_istore_n (lo' := [some (.ref (ad A)), some (.ref (ad B)), some (.int 0), none]) (C.wl _ _) dX5_wrong_1 rfl (Nat.le_of_ble_eq_true rfl) rfl rfl ?_
  refine v_iconst (v := 0) (C.wl _ _) dX5_wrong_2 (by decide) ?_
  refine v_istore_n (lo' := [some (.ref (ad A)), some (.ref (ad B)), some (.int 0), some (.int 0)]) (C.wl _ _) dX5_wrong_3 rfl (Nat.le_of_ble_eq_true rfl) rfl rfl ?_
  exact loop _ 0 (Nat.lt_succ_self _) (Nat.zero_le _)
set_option maxRecDepth 100000 in
theorem l_proof (l : Launch) (Z : Zc) (ad : Nat → Nat) (m : MG) (K KL KX KF nl nf t : Nat) (kq sz fo : Nat → Nat) (hK : 600 ≤ K ∧ K < 1200) (h5 : m K 100000 = 5) (h01 : m K 3 = 0 ∨ m K 3 = 1) (hS : m 600 100000 = 6 ∧ m 600 2 = nI 601 ∧ m 600 5 = nI 604) (hH : isA m 601 nf) (hnf : nf ≤ 5) (hT : isQ m 2 604 4 ∧ ∀ t, t < 4 → m 604 t = nI (606 + t) ∧ isA m (606 + t) 2) (ht : t < 4) (hKt : m K 0 = nI t) (hF : m K 6 = nI KF) (hFr : 600 ≤ KF ∧ KF < 1200) (nF : Nat) (hFa : isA m KF nF) (hF4 : nF ≤ 4) (hX : m K 5 = nI KX) (hXr : 600 ≤ KX ∧ KX < 1200) (hL : LnK m K KL nl kq sz) (hXa : m K 3 = 1 → isA m KX nl ∧ ∀ i, i < nl → m KX i = nI (fo i) ∧ fo i < nf) (g : MG) : MI l yX5_proof cX5_proof 4 (some .int) (rmz 1 30 0 0) (Z.wl ad m) [.ref (ad 600), .ref (ad K)] g (fun r g' => r = (if m K 3 = 0 then 0 else mx0 (m (606 + t) 0 * sumI (fun q => m 601 (fo q) * nI (sz q)) nl - m (606 + t) 1 * sumI (m KF) nF)) ∧ g' = g) := by
  have h4 := hL.2.2.2.1
  refine ent_i (own := RX5) (lo := [some (.ref (ad 600)), some (.ref (ad K)), none, none]) (by decide) rfl (by simp [lg_sl, Value.category]) rfl (fun P hl C ret => ?_)
  have C : Cx P Z cX5_proof RX5 := C
  have loop : ¬ m K 3 = 0 → ∀ (d i : Nat), nl - i < d → i ≤ nl → V P (rmz 1 30 0 0) (Z.wl ad m) [some (.ref (ad 600)), some (.ref (ad K)), some (.int (sumI (fun q => m 601 (fo q) * nI (sz q)) i)), some (.int (nI i))] 13 [] g 0 0 := by
    intro hk3 d
    have hk1 : m K 3 = 1 := h01.resolve_left hk3
    have hXa2 := (hXa hk1).2
    have hXa := (hXa hk1).1
    induction d with
    | zero => intro i hn; exact absurd hn (Nat.not_lt_zero _)
    | succ d ih =>
      intro i hn hi
      refine v_iload_n (C.wl _ _) dX5_proof_13 rfl rfl ?_
      refine v_aload_n (C.wl _ _) dX5_proof_14 rfl rfl ?_
      refine l_get (k := K) C inG4 (ci := 5) rfl 2 (by decide) (tg2 183 rfl rfl) rfl hK (cW_5 h5) (ps_r (by decide) hL.1 hL.2.1) dX5_proof_15 ?_
      refine l_len (k := KL) (n := nl) C hL.2.1 (Or.inr (Or.inl hL.2.2.1.1)) hL.2.2.1.2 (by have := hL.2.2.2.1; omega) dX5_proof_18 ?_
      refine v_icmp_ge (tgt := 50) (C.wl _ _) dX5_proof_19 (by decide) (fun h19 => ?_) (fun h19 => ?_)
      · have hkn : i = nl := Nat.le_antisymm hi ((nI_leI (by omega) (by omega)).mp h19)
        subst hkn
        refine v_iconst (v := 0) (C.wl _ _) dX5_proof_50 (by decide) ?_
        refine v_aload_n (C.wl _ _) dX5_proof_51 rfl rfl ?_
        refine l_get (k := 600) C inG5 (ci := 6) rfl 5 (by decide) (tg5 11 rfl rfl) rfl ⟨by decide, by decide⟩ (cW_6 hS.1) (sm_r (by decide) hS.2.2 ⟨by decide, by decide⟩) dX5_proof_52 ?_
        refine v_aload_n (C.wl _ _) dX5_proof_55 rfl rfl ?_
        refine l_get (k := K) C inG4 (ci := 5) rfl 0 (by decide) (tg2 177 rfl rfl) rfl hK (cW_5 h5) rfl dX5_proof_56 ?_
        refine v_topi (y := nI t) hKt ?_
        refine l_aald (k := 604) (n := 4) (a := t) (k2 := 606 + t) C ⟨by decide, by decide⟩ (Or.inl hT.1.1) hT.1.2 ⟨ht, by decide⟩ (hT.2 t ht).1 ⟨by omega, by omega⟩ dX5_proof_59 ?_
        refine v_iconst (v := 0) (C.wl _ _) dX5_proof_60 (by decide) ?_
        refine l_iald (k := 606 + t) (n := 2) (a := 0) C ⟨by omega, by omega⟩ (hT.2 t ht).2.1 (hT.2 t ht).2.2 (by omega) dX5_proof_61 ?_
        refine v_iload_n (C.wl _ _) dX5_proof_62 rfl rfl ?_
        refine v_imul (C.wl _ _) dX5_proof_63 ?_
        refine v_aload_n (C.wl _ _) dX5_proof_64 rfl rfl ?_
        refine l_get (k := 600) C inG5 (ci := 6) rfl 5 (by decide) (tg5 11 rfl rfl) rfl ⟨by decide, by decide⟩ (cW_6 hS.1) (sm_r (by decide) hS.2.2 ⟨by decide, by decide⟩) dX5_proof_65 ?_
        refine v_aload_n (C.wl _ _) dX5_proof_68 rfl rfl ?_
        refine l_get (k := K) C inG4 (ci := 5) rfl 0 (by decide) (tg2 177 rfl rfl) rfl hK (cW_5 h5) rfl dX5_proof_69 ?_
        refine v_topi (y := nI t) hKt ?_
        refine l_aald (k := 604) (n := 4) (a := t) (k2 := 606 + t) C ⟨by decide, by decide⟩ (Or.inl hT.1.1) hT.1.2 ⟨ht, by decide⟩ (hT.2 t ht).1 ⟨by omega, by omega⟩ dX5_proof_72 ?_
        refine v_iconst (v := 1) (C.wl _ _) dX5_proof_73 (by decide) ?_
        refine l_iald (k := 606 + t) (n := 2) (a := 1) C ⟨by omega, by omega⟩ (hT.2 t ht).2.1 (hT.2 t ht).2.2 (by omega) dX5_proof_74 ?_
        refine v_aload_n (C.wl _ _) dX5_proof_75 rfl rfl ?_
        refine v_callVi (n := 0) (as := []) (C.wl _ _) (l_pwrong _ Z ad m K KF nF hK h5 hF hFr hFa hF4 g) (gv (tg2 228 rfl rfl) (tg2 229 rfl rfl) (tg2 230 rfl rfl) (tg1 19 rfl rfl) (tg2 231 rfl rfl)) (by decide +kernel) ⟨Nat.le_of_ble_eq_true rfl, Nat.le_of_ble_eq_true rfl⟩ rfl (l_cx hK (cW_5 h5)) rfl rfl (Nat.le_of_ble_eq_true rfl) dX5_proof_76 ⟨Nat.le_of_ble_eq_true rfl, Nat.le_of_ble_eq_true rfl⟩ (fun r76 g76 hp76 => ?_)
        obtain ⟨rfl, hg76⟩ := hp76
        rw [hg76]
        refine v_imul (C.wl _ _) dX5_proof_79 ?_
        refine v_isub (C.wl _ _) dX5_proof_80 ?_
        refine v_mmax (C.wl _ _) (tg3 9 rfl rfl) (tg2 75 rfl rfl) (tg1 14 rfl rfl) (tg2 76 rfl rfl) (Nat.le_of_ble_eq_true rfl) (Nat.le_of_ble_eq_true rfl) (Nat.le_of_ble_eq_true rfl) (Nat.le_of_ble_eq_true rfl) dX5_proof_81 ?_
        exact ret _ _ _ _ dX5_proof_84 ⟨by rw [if_neg hk3, if_neg hk3]; rfl, rfl⟩
      · have hkn : i < nl := Nat.lt_of_not_le fun q => h19 ((nI_leI (by omega) (by omega)).mpr q)
        refine v_iload_n (C.wl _ _) dX5_proof_22 rfl rfl ?_
        refine v_aload_n (C.wl _ _) dX5_proof_23 rfl rfl ?_
        refine l_get (k := 600) C inG5 (ci := 6) rfl 2 (by decide) (tg5 5 rfl rfl) rfl ⟨by decide, by decide⟩ (cW_6 hS.1) (sm_r (by decide) hS.2.1 ⟨by decide, by decide⟩) dX5_proof_24 ?_
        refine v_aload_n (C.wl _ _) dX5_proof_27 rfl rfl ?_
        refine l_get (k := K) C inG4 (ci := 5) rfl 5 (by decide) (tg2 190 rfl rfl) rfl hK (cW_5 h5) (ps_r (by decide) hX hXr) dX5_proof_28 ?_
        refine v_iload_n (C.wl _ _) dX5_proof_31 rfl rfl ?_
        refine l_iald (k := KX) (n := nl) (a := i) C hXr hXa.1 hXa.2 (by omega) dX5_proof_32 ?_
        refine v_topi (y := nI (fo i)) (hXa2 i hkn).1 ?_
        refine l_iald (k := 601) (n := nf) (a := (fo i)) C ⟨by decide, by decide⟩ hH.1 hH.2 ⟨(hXa2 i hkn).2, by omega⟩ dX5_proof_33 ?_
        refine v_aload_n (C.wl _ _) dX5_proof_34 rfl rfl ?_
        refine l_get (k := K) C inG4 (ci := 5) rfl 2 (by decide) (tg2 183 rfl rfl) rfl hK (cW_5 h5) (ps_r (by decide) hL.1 hL.2.1) dX5_proof_35 ?_
        refine v_iload_n (C.wl _ _) dX5_proof_38 rfl rfl ?_
        refine l_aald (k := KL) (n := nl) (a := i) (k2 := kq i) C hL.2.1 (Or.inl hL.2.2.1.1) hL.2.2.1.2 (by omega) (hL.2.2.2.2 i (by omega)).1 (hL.2.2.2.2 i (by omega)).2.1 dX5_proof_39 ?_
        refine l_len (k := kq i) (n := sz i) C (hL.2.2.2.2 i (by omega)).2.1 (Or.inl (hL.2.2.2.2 i (by omega)).2.2.1.1) (hL.2.2.2.2 i (by omega)).2.2.1.2 (by have := (hL.2.2.2.2 i (by omega)).2.2.2; omega) dX5_proof_40 ?_
        refine v_imul (C.wl _ _) dX5_proof_41 ?_
        refine v_iadd (C.wl _ _) dX5_proof_42 ?_
        refine v_topi (y := sumI (fun q => m 601 (fo q) * nI (sz q)) (i + 1)) (sumI_s (fun q => m 601 (fo q) * nI (sz q)) i) ?_
        refine v_istore_n (lo' := [some (.ref (ad 600)), some (.ref (ad K)), some (.int (sumI (fun q => m 601 (fo q) * nI (sz q)) (i + 1))), some (.int (nI i))]) (C.wl _ _) dX5_proof_43 rfl (Nat.le_of_ble_eq_true rfl) rfl rfl ?_
        refine v_iinc (lo' := [some (.ref (ad 600)), some (.ref (ad K)), some (.int (sumI (fun q => m 601 (fo q) * nI (sz q)) (i + 1))), some (.int ((nI i) + 1))]) (C.wl _ _) dX5_proof_44 rfl rfl rfl rfl ?_
        refine v_goto (tgt := 13) (C.wl _ _) dX5_proof_47 (by decide) ?_
        refine v_lo (lo' := [some (.ref (ad 600)), some (.ref (ad K)), some (.int (sumI (fun q => m 601 (fo q) * nI (sz q)) (i + 1))), some (.int (nI (i + 1)))]) (by rw [nI_succ]) ?_
        exact ih (i + 1) (by omega) (by omega)
  refine v_aload_n (C.wl _ _) dX5_proof_0 rfl rfl ?_
  refine l_get (k := K) C inG4 (ci := 5) rfl 3 (by decide) (tg2 186 rfl rfl) rfl hK (cW_5 h5) rfl dX5_proof_1 ?_
  refine v_if_ne (tgt := 9) (C.wl _ _) dX5_proof_4 (by decide) (fun h4 => ?_) (fun h4 => ?_)
  · refine v_iconst (v := 0) (C.wl _ _) dX5_proof_9 (by decide) ?_
    refine v_istore_n (lo' := [some (.ref (ad 600)), some (.ref (ad K)), some (.int 0), none]) (C.wl _ _) dX5_proof_10 rfl (Nat.le_of_ble_eq_true rfl) rfl rfl ?_
    refine v_iconst (v := 0) (C.wl _ _) dX5_proof_11 (by decide) ?_
    refine v_istore_n (lo' := [some (.ref (ad 600)), some (.ref (ad K)), some (.int 0), some (.int 0)]) (C.wl _ _) dX5_proof_12 rfl (Nat.le_of_ble_eq_true rfl) rfl rfl ?_
    exact loop h4 _ 0 (Nat.lt_succ_self _) (Nat.zero_le _)
  · refine v_iconst (v := 0) (C.wl _ _) dX5_proof_7 (by decide) ?_
    exact ret _ _ _ _ dX5_proof_8 ⟨by rw [if_pos h4], rfl⟩
