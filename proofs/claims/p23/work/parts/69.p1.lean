/-! THE LAW'S METHODS: below, word; rows of bits -/
section VB
variable {P : Pm} {R : Room} {Z : Zc} {cc : ByteArray} {own : String} {lo : Lo} {pc : Nat} {rest : List Value} {g : MG} {cs sl : Nat}
theorem v_iand (C : Cx P Z cc own) {x y : Int32} (hdg : decode cc pc = .ok (.iand, 1)) (kk : V P R Z lo (pc + 1) (.int (x &&& y) :: rest) g cs sl) : V P R Z lo pc (.int y :: .int x :: rest) g cs sl := by
  obtain ⟨p, l, e, s, m, args, below, meth, c, Q, nL⟩ := P
  exact fun ls H locs hl hw hS => lv_iand C.1 C.2.1 hdg (kk ls H locs hl hw hS)
theorem v_ishr (C : Cx P Z cc own) {x y : Int32} (hdg : decode cc pc = .ok (.ishr, 1)) (kk : V P R Z lo (pc + 1) (.int (x >>> (y &&& 31)) :: rest) g cs sl) : V P R Z lo pc (.int y :: .int x :: rest) g cs sl := by
  obtain ⟨p, l, e, s, m, args, below, meth, c, Q, nL⟩ := P
  exact fun ls H locs hl hw hS => lv_ishr C.1 C.2.1 hdg (kk ls H locs hl hw hS)
theorem v_ishl (C : Cx P Z cc own) {x y : Int32} (hdg : decode cc pc = .ok (.ishl, 1)) (kk : V P R Z lo (pc + 1) (.int (x <<< (y &&& 31)) :: rest) g cs sl) : V P R Z lo pc (.int y :: .int x :: rest) g cs sl := by
  obtain ⟨p, l, e, s, m, args, below, meth, c, Q, nL⟩ := P
  exact fun ls H locs hl hw hS => lv_ishl C.1 C.2.1 hdg (kk ls H locs hl hw hS)
theorem v_ineg (C : Cx P Z cc own) {x : Int32} (hdg : decode cc pc = .ok (.ineg, 1)) (kk : V P R Z lo (pc + 1) (.int (-x) :: rest) g cs sl) : V P R Z lo pc (.int x :: rest) g cs sl := by
  obtain ⟨p, l, e, s, m, args, below, meth, c, Q, nL⟩ := P
  exact fun ls H locs hl hw hS => lv_ineg C.1 C.2.1 hdg (kk ls H locs hl hw hS)
end VB
theorem nI_dec {k : Nat} (h : 1 ≤ k) : nI k + (-1) = nI (k - 1) := by
  rw [← nI_sub h, Int32.sub_eq_add_neg]
  rfl
/-- v without its sign, by n -/
def bwN (v : Int32) (n : Nat) : Nat := v.toBitVec.toNat % 2 ^ 31 % n
theorem bwN_lt (v : Int32) {n : Nat} (h : 0 < n) : bwN v n < n := Nat.mod_lt _ h
theorem nI_mod {a b : Nat} (ha : a < 2 ^ 31) (hb : 0 < b ∧ b < 2 ^ 31) : nI a - nI a / nI b * nI b = nI (a % b) := by
  rw [nI_div ha hb.2, nI_mul, nI_sub (Nat.div_mul_le_self a b)]
  congr 1
  rw [Nat.mod_eq_sub_div_mul]
set_option maxRecDepth 100000 in
theorem l_below (l : Launch) (Z : Zc) (ad : Nat → Nat) (m : MG) (v : Int32) (n : Nat) (hn : 0 < n ∧ n < 1000) (g : MG) : MI l yL_below cL_below 2 (some .int) (rmz 0 0 0 0) (Z.wl ad m) [.int v, .int (nI n)] g (fun r g' => r = nI (bwN v n) ∧ g' = g) := by
  refine ent_i (own := RL) (lo := [some (.int v), some (.int (nI n))]) (by decide) rfl (by simp [lg_sl, Value.category]) rfl (fun P hl C ret => ?_)
  have C : Cx P Z cL_below RL := C
  refine v_iload_n (C.wl _ _) dL_below_0 rfl rfl ?_
  refine v_ldc (v := 2147483647) (C.wl _ _) (tg3 20 rfl rfl) dL_below_1 ?_
  refine v_iand (C.wl _ _) dL_below_3 ?_
  refine v_iload_n (C.wl _ _) dL_below_4 rfl rfl ?_
  refine v_irem (C.wl _ _) dL_below_5 (fun z => by have := nI_inj (a := n) (b := 0) (by omega) (by decide) z; omega) ?_
  exact ret _ _ _ _ dL_below_6 ⟨by rw [pk_and v 31 (by decide)]; exact nI_mod (Nat.mod_lt _ (by decide)) (by omega), rfl⟩
set_option maxRecDepth 100000 in
theorem l_word (l : Launch) (Z : Zc) (ad : Nat → Nat) (m : MG) (x : Int32) (g : MG) : MI l yL_word cL_word 4 (some .int) (rmz 1 22 0 0) (Z.wl ad m) [.int x] g (fun r g' => (∃ w, w ≤ 99999999 ∧ r = nI w) ∧ g' = g) := by
  refine ent_i (own := RL) (lo := [some (.int x), none, none, none]) (by decide) rfl (by simp [lg_sl, Value.category]) rfl (fun P hl C ret => ?_)
  have C : Cx P Z cL_word RL := C
  have loop : ∀ (n : Nat) (l4 k a : Nat), k < n → (0 < l4 ∧ l4 < 6) → k ≤ 8 → a < 10 ^ (8 - k) → V P (rmz 1 22 0 0) (Z.wl ad m) [some (.int x), some (.int (nI l4)), some (.int (nI a)), some (.int (nI k))] 22 [] g 0 0 := by
    intro n
    induction n with
    | zero => intro l4 k a hn h4 hk ha; exact absurd hn (Nat.not_lt_zero _)
    | succ n ih =>
      intro l4 k a hn h4 hk ha
      refine v_iload_n (C.wl _ _) dL_word_22 rfl rfl ?_
      refine v_if_le (tgt := 62) (C.wl _ _) dL_word_23 (by decide) (fun h23 => ?_) (fun h23 => ?_)
      · refine v_iload_n (C.wl _ _) dL_word_62 rfl rfl ?_
        exact ret _ _ _ _ dL_word_63 ⟨⟨a, by have h9 : (10 : Nat) ^ (8 - k) ≤ 10 ^ 8 := Nat.pow_le_pow_right (by decide) (by omega); have h8 : (10 : Nat) ^ 8 = 100000000 := (by decide); omega, rfl⟩, rfl⟩
      · refine v_bipush (v := 10) (C.wl _ _) dL_word_26 (by decide) ?_
        refine v_iload_n (C.wl _ _) dL_word_28 rfl rfl ?_
        refine v_imul (C.wl _ _) dL_word_29 ?_
        refine v_iload_n (C.wl _ _) dL_word_30 rfl rfl ?_
        refine v_iconst (v := 2) (C.wl _ _) dL_word_31 (by decide) ?_
        refine v_iload_n (C.wl _ _) dL_word_32 rfl rfl ?_
        refine v_imul (C.wl _ _) dL_word_33 ?_
        refine v_ishr (C.wl _ _) dL_word_34 ?_
        refine v_iload_n (C.wl _ _) dL_word_35 rfl rfl ?_
        refine v_iconst (v := 5) (C.wl _ _) dL_word_36 (by decide) ?_
        refine v_ishr (C.wl _ _) dL_word_37 ?_
        refine v_iconst (v := 3) (C.wl _ _) dL_word_38 (by decide) ?_
        refine v_callSi (n := 2) (as := [.int (x >>> (5 &&& 31)), .int (nI 3)]) (C.wl _ _) (l_below _ Z ad m (x >>> (5 &&& 31)) 3 (by omega) g) (gs (tg3 17 rfl rfl) (tg3 18 rfl rfl) (tg1 0 rfl rfl) (tg3 19 rfl rfl)) (by decide +kernel) ⟨Nat.le_of_ble_eq_true rfl, Nat.le_of_ble_eq_true rfl⟩ rfl rfl (Nat.le_of_ble_eq_true rfl) dL_word_39 ⟨Nat.le_of_ble_eq_true rfl, Nat.le_of_ble_eq_true rfl⟩ (fun r39 g39 hp39 => ?_)
        obtain ⟨rfl, hg39⟩ := hp39
        rw [hg39]
        refine v_if_ne (tgt := 50) (C.wl _ _) dL_word_42 (by decide) (fun h42 => ?_) (fun h42 => ?_)
        · refine v_iload_n (C.wl _ _) dL_word_50 rfl rfl ?_
          have hb := bwN_lt (x >>> ((2 * (nI k)) &&& 31)) (n := l4) (by omega)
          refine v_callSi (n := 2) (as := [.int (x >>> ((2 * (nI k)) &&& 31)), .int (nI l4)]) (C.wl _ _) (l_below _ Z ad m (x >>> ((2 * (nI k)) &&& 31)) l4 (by omega) g) (gs (tg3 17 rfl rfl) (tg3 18 rfl rfl) (tg1 0 rfl rfl) (tg3 19 rfl rfl)) (by decide +kernel) ⟨Nat.le_of_ble_eq_true rfl, Nat.le_of_ble_eq_true rfl⟩ rfl rfl (Nat.le_of_ble_eq_true rfl) dL_word_51 ⟨Nat.le_of_ble_eq_true rfl, Nat.le_of_ble_eq_true rfl⟩ (fun r51 g51 hp51 => ?_)
          obtain ⟨rfl, hg51⟩ := hp51
          rw [hg51]
          generalize hbb : bwN (x >>> ((2 * (nI k)) &&& 31)) l4 = b at hb ⊢
          refine v_iadd (C.wl _ _) dL_word_54 ?_
          refine v_topi (y := nI (10 * a + b)) (nI_10 a b) ?_
          refine v_istore_n (lo' := [some (.int x), some (.int (nI l4)), some (.int (nI (10 * a + b))), some (.int (nI k))]) (C.wl _ _) dL_word_55 rfl (Nat.le_of_ble_eq_true rfl) rfl rfl ?_
          refine v_iinc (lo' := [some (.int x), some (.int (nI l4)), some (.int (nI (10 * a + b))), some (.int ((nI k) + (-1)))]) (C.wl _ _) dL_word_56 rfl rfl rfl rfl ?_
          refine v_goto (tgt := 22) (C.wl _ _) dL_word_59 (by decide) ?_
          have hk1 : 1 ≤ k := by rw [i_le, nI_toInt (by omega)] at h23; have z0 : (0 : Int32).toInt = 0 := rfl; omega
          refine v_lo (lo' := [some (.int x), some (.int (nI l4)), some (.int (nI (10 * a + b))), some (.int (nI (k - 1)))]) (by rw [nI_dec hk1]) ?_
          refine ih l4 (k - 1) (10 * a + b) (by omega) h4 (by omega) ?_
          have e8 : 8 - (k - 1) = (8 - k) + 1 := by omega
          rw [e8, Nat.pow_succ]; omega
        · refine v_bipush (v := 10) (C.wl _ _) dL_word_45 (by decide) ?_
          refine v_goto (tgt := 51) (C.wl _ _) dL_word_47 (by decide) ?_
          have hb := bwN_lt (x >>> ((2 * (nI k)) &&& 31)) (n := 10) (by omega)
          refine v_callSi (n := 2) (as := [.int (x >>> ((2 * (nI k)) &&& 31)), .int (nI 10)]) (C.wl _ _) (l_below _ Z ad m (x >>> ((2 * (nI k)) &&& 31)) 10 (by omega) g) (gs (tg3 17 rfl rfl) (tg3 18 rfl rfl) (tg1 0 rfl rfl) (tg3 19 rfl rfl)) (by decide +kernel) ⟨Nat.le_of_ble_eq_true rfl, Nat.le_of_ble_eq_true rfl⟩ rfl rfl (Nat.le_of_ble_eq_true rfl) dL_word_51 ⟨Nat.le_of_ble_eq_true rfl, Nat.le_of_ble_eq_true rfl⟩ (fun r51 g51 hp51 => ?_)
          obtain ⟨rfl, hg51⟩ := hp51
          rw [hg51]
          generalize hbb : bwN (x >>> ((2 * (nI k)) &&& 31)) 10 = b at hb ⊢
          refine v_iadd (C.wl _ _) dL_word_54 ?_
          refine v_topi (y := nI (10 * a + b)) (nI_10 a b) ?_
          refine v_istore_n (lo' := [some (.int x), some (.int (nI l4)), some (.int (nI (10 * a + b))), some (.int (nI k))]) (C.wl _ _) dL_word_55 rfl (Nat.le_of_ble_eq_true rfl) rfl rfl ?_
          refine v_iinc (lo' := [some (.int x), some (.int (nI l4)), some (.int (nI (10 * a + b))), some (.int ((nI k) + (-1)))]) (C.wl _ _) dL_word_56 rfl rfl rfl rfl ?_
          refine v_goto (tgt := 22) (C.wl _ _) dL_word_59 (by decide) ?_
          have hk1 : 1 ≤ k := by rw [i_le, nI_toInt (by omega)] at h23; have z0 : (0 : Int32).toInt = 0 := rfl; omega
          refine v_lo (lo' := [some (.int x), some (.int (nI l4)), some (.int (nI (10 * a + b))), some (.int (nI (k - 1)))]) (by rw [nI_dec hk1]) ?_
          refine ih l4 (k - 1) (10 * a + b) (by omega) h4 (by omega) ?_
          have e8 : 8 - (k - 1) = (8 - k) + 1 := by omega
          rw [e8, Nat.pow_succ]; omega
  refine v_iconst (v := 2) (C.wl _ _) dL_word_0 (by decide) ?_
  refine v_iload_n (C.wl _ _) dL_word_1 rfl rfl ?_
  refine v_bipush (v := 9) (C.wl _ _) dL_word_2 (by decide) ?_
  refine v_ishr (C.wl _ _) dL_word_4 ?_
  refine v_iconst (v := 4) (C.wl _ _) dL_word_5 (by decide) ?_
  refine v_callSi (n := 2) (as := [.int (x >>> (9 &&& 31)), .int (nI 4)]) (C.wl _ _) (l_below _ Z ad m (x >>> (9 &&& 31)) 4 (by omega) g) (gs (tg3 17 rfl rfl) (tg3 18 rfl rfl) (tg1 0 rfl rfl) (tg3 19 rfl rfl)) (by decide +kernel) ⟨Nat.le_of_ble_eq_true rfl, Nat.le_of_ble_eq_true rfl⟩ rfl rfl (Nat.le_of_ble_eq_true rfl) dL_word_6 ⟨Nat.le_of_ble_eq_true rfl, Nat.le_of_ble_eq_true rfl⟩ (fun r6 g6 hp6 => ?_)
  obtain ⟨rfl, hg6⟩ := hp6
  rw [hg6]
  refine v_iadd (C.wl _ _) dL_word_9 ?_
  refine v_topi (y := nI (2 + bwN (x >>> (9 &&& 31)) 4)) (nI_add 2 _) ?_
  refine v_istore_n (lo' := [some (.int x), some (.int (nI (2 + bwN (x >>> (9 &&& 31)) 4))), none, none]) (C.wl _ _) dL_word_10 rfl (Nat.le_of_ble_eq_true rfl) rfl rfl ?_
  refine v_iconst (v := 0) (C.wl _ _) dL_word_11 (by decide) ?_
  refine v_istore_n (lo' := [some (.int x), some (.int (nI (2 + bwN (x >>> (9 &&& 31)) 4))), some (.int 0), none]) (C.wl _ _) dL_word_12 rfl (Nat.le_of_ble_eq_true rfl) rfl rfl ?_
  refine v_iconst (v := 1) (C.wl _ _) dL_word_13 (by decide) ?_
  refine v_iload_n (C.wl _ _) dL_word_14 rfl rfl ?_
  refine v_bipush (v := 8) (C.wl _ _) dL_word_15 (by decide) ?_
  refine v_callSi (n := 2) (as := [.int x, .int (nI 8)]) (C.wl _ _) (l_below _ Z ad m (x) 8 (by omega) g) (gs (tg3 17 rfl rfl) (tg3 18 rfl rfl) (tg1 0 rfl rfl) (tg3 19 rfl rfl)) (by decide +kernel) ⟨Nat.le_of_ble_eq_true rfl, Nat.le_of_ble_eq_true rfl⟩ rfl rfl (Nat.le_of_ble_eq_true rfl) dL_word_17 ⟨Nat.le_of_ble_eq_true rfl, Nat.le_of_ble_eq_true rfl⟩ (fun r17 g17 hp17 => ?_)
  obtain ⟨rfl, hg17⟩ := hp17
  rw [hg17]
  refine v_iadd (C.wl _ _) dL_word_20 ?_
  refine v_topi (y := nI (1 + bwN x 8)) (nI_add 1 _) ?_
  refine v_istore_n (lo' := [some (.int x), some (.int (nI (2 + bwN (x >>> (9 &&& 31)) 4))), some (.int 0), some (.int (nI (1 + bwN x 8)))]) (C.wl _ _) dL_word_21 rfl (Nat.le_of_ble_eq_true rfl) rfl rfl ?_
  have b1 := bwN_lt (x >>> (9 &&& 31)) (n := 4) (by omega)
  have b2 := bwN_lt x (n := 8) (by omega)
  exact loop _ (2 + bwN (x >>> (9 &&& 31)) 4) (1 + bwN x 8) 0 (Nat.lt_succ_self _) (by omega) (by omega) (Nat.pow_pos (by decide))
