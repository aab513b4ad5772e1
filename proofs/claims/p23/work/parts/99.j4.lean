/-! THE JDK'S TEXTS: how many letters a number has -/
theorem dgc_eq : ∀ (f k r : Nat), k ≤ f → r < 10 ^ k → (k = 0 ∨ 10 ^ (k - 1) ≤ r) → dgc f r = k := by
  intro f
  induction f with
  | zero => intro k r hk _ _; unfold dgc; omega
  | succ f ih =>
    intro k r hk hr hl
    unfold dgc
    cases k with
    | zero =>
      rw [Nat.pow_zero] at hr
      rw [if_pos (by omega)]
    | succ k =>
      rw [Nat.pow_succ] at hr
      have hl : 10 ^ k ≤ r := by
        rcases hl with hl | hl
        · omega
        · exact hl
      have hp : 0 < 10 ^ k := Nat.pow_pos (by decide)
      rw [if_neg (by omega), ih k (r / 10) (by omega) (by omega) ?_]
      cases k with
      | zero => exact Or.inl rfl
      | succ k =>
        rw [Nat.pow_succ] at hl
        refine Or.inr ?_
        show 10 ^ k ≤ r / 10
        omega
theorem szw_eq {w i : Nat} (h1 : 1 ≤ i) (h9 : i ≤ 9) (hw : w < 10 ^ i) (hl : i = 1 ∨ 10 ^ (i - 1) ≤ w) : szw w = i := by
  obtain ⟨k, rfl⟩ : ∃ k, i = k + 1 := ⟨i - 1, by omega⟩
  unfold szw
  rw [Nat.pow_succ] at hw
  rw [dgc_eq 9 k (w / 10) (by omega) (by omega) ?_]
  · omega
  · cases k with
    | zero => exact Or.inl rfl
    | succ k =>
      have hl : 10 ^ (k + 1) ≤ w := by
        rcases hl with hl | hl
        · omega
        · exact hl
      rw [Nat.pow_succ] at hl
      refine Or.inr ?_
      show 10 ^ k ≤ w / 10
      omega
theorem ti_ng {a : Nat} (ha : a < 2147483648) : (-(nI a)).toInt = -(a : Int) := by
  rw [← Int32.zero_sub, ti_sub (by rw [nI_toInt ha, Int32.toInt_zero]; omega) (by rw [nI_toInt ha, Int32.toInt_zero]; omega), nI_toInt ha, Int32.toInt_zero]
  omega
theorem ng_le {a b : Nat} (ha : a < 2147483648) (hb : b < 2147483648) : -(nI a) ≤ -(nI b) ↔ b ≤ a := by
  rw [i_le, ti_ng ha, ti_ng hb]
  omega
theorem ng_mul (a : Nat) : (10 : Int32) * -(nI a) = -(nI (10 * a)) := by
  rw [Int32.mul_neg, show (10 : Int32) = nI 10 from rfl, nI_mul]
set_option maxRecDepth 100000 in
theorem l_ssize (l : Launch) (Z : Zc) (w : Nat) (hw : w ≤ 99999999) (g : MG) : MI l yJ6_stringSize_0f7a4 cJ6_stringSize_0f7a4 4 (some .int) (rmz 0 0 0 0) Z [.int (nI w)] g (fun r g' => r = nI (szw w) ∧ g' = g) := by
  refine ent_i (own := RJ6) (lo := [some (.int (nI w)), none, none, none]) (by decide) rfl (by simp [lg_sl, Value.category]) rfl (fun P hl C ret => ?_)
  have loop : ∀ (n i : Nat), 9 - i < n → 1 ≤ i → i ≤ 8 → (i = 1 ∨ 10 ^ (i - 1) ≤ w) → V P (rmz 0 0 0 0) Z [some (.int (-(nI w))), some (.int 0), some (.int (-(nI (10 ^ i)))), some (.int (nI i))] 16 [] g 0 0 := by
    intro n
    induction n with
    | zero => intro i hn; exact absurd hn (Nat.not_lt_zero _)
    | succ n ih =>
      intro i hn h1 h8 hl
      have hp : (10 : Nat) ^ i ≤ 100000000 := Nat.pow_le_pow_right (n := 10) (by decide) h8
      refine v_iload_n C dJ6_stringSize_0f7a4_16 rfl rfl ?_
      refine v_bipush (v := nI 10) C dJ6_stringSize_0f7a4_17 rfl ?_
      refine v_icmp_ge (tgt := 42) C dJ6_stringSize_0f7a4_19 (by decide) (fun h => ?_) (fun h => ?_)
      · exact absurd ((nI_leI (by decide) (by omega)).mp h) (by omega)
      · refine v_iload_n C dJ6_stringSize_0f7a4_22 rfl rfl ?_
        refine v_iload_n C dJ6_stringSize_0f7a4_23 rfl rfl ?_
        refine v_icmp_le (tgt := 31) C dJ6_stringSize_0f7a4_24 (by decide) (fun hx => ?_) (fun hx => ?_)
        · have hx := (ng_le (by omega) (by omega)).mp hx
          have hi8 : i ≠ 8 := fun z => by subst z; have : (10 : Nat) ^ 8 = 100000000 := by decide
                                          omega
          refine v_bipush (v := 10) C dJ6_stringSize_0f7a4_31 rfl ?_
          refine v_iload_n C dJ6_stringSize_0f7a4_33 rfl rfl ?_
          refine v_imul C dJ6_stringSize_0f7a4_34 ?_
          refine v_topi (y := -(nI (10 ^ (i + 1)))) (by rw [ng_mul, Nat.pow_succ, Nat.mul_comm]) ?_
          refine v_istore_n (lo' := [some (.int (-(nI w))), some (.int 0), some (.int (-(nI (10 ^ (i + 1))))), some (.int (nI i))]) C dJ6_stringSize_0f7a4_35 rfl (Nat.le_of_ble_eq_true rfl) rfl rfl ?_
          refine v_iinc (lo' := [some (.int (-(nI w))), some (.int 0), some (.int (-(nI (10 ^ (i + 1))))), some (.int (nI i + 1))]) C dJ6_stringSize_0f7a4_36 rfl rfl rfl rfl ?_
          refine v_goto (tgt := 16) C dJ6_stringSize_0f7a4_39 (by decide) ?_
          refine v_lo (lo' := [some (.int (-(nI w))), some (.int 0), some (.int (-(nI (10 ^ (i + 1))))), some (.int (nI (i + 1)))]) (by rw [nI_succ i]) ?_
          exact ih (i + 1) (by omega) (by omega) (by omega) (Or.inr hx)
        · refine v_iload_n C dJ6_stringSize_0f7a4_27 rfl rfl ?_
          refine v_iload_n C dJ6_stringSize_0f7a4_28 rfl rfl ?_
          refine v_iadd C dJ6_stringSize_0f7a4_29 ?_
          have hlt : w < 10 ^ i := Nat.lt_of_not_le fun q => hx ((ng_le (by omega) (by omega)).mpr q)
          exact ret _ _ _ _ dJ6_stringSize_0f7a4_30 ⟨by rw [Int32.add_zero, szw_eq h1 (by omega) hlt hl], rfl⟩
  refine v_iconst C dJ6_stringSize_0f7a4_0 rfl ?_
  refine v_istore_n (lo' := [some (.int (nI w)), some (.int 1), none, none]) C dJ6_stringSize_0f7a4_1 rfl (Nat.le_of_ble_eq_true rfl) rfl rfl ?_
  refine v_iload_n C dJ6_stringSize_0f7a4_2 rfl rfl ?_
  refine v_if_lt (tgt := 11) C dJ6_stringSize_0f7a4_3 (by decide) (fun h => absurd h (nI_pos (by omega))) (fun h => ?_)
  refine v_iconst C dJ6_stringSize_0f7a4_6 rfl ?_
  refine v_istore_n (lo' := [some (.int (nI w)), some (.int 0), none, none]) C dJ6_stringSize_0f7a4_7 rfl (Nat.le_of_ble_eq_true rfl) rfl rfl ?_
  refine v_iload_n C dJ6_stringSize_0f7a4_8 rfl rfl ?_
  refine v_ineg C dJ6_stringSize_0f7a4_9 ?_
  refine v_istore_n (lo' := [some (.int (-(nI w))), some (.int 0), none, none]) C dJ6_stringSize_0f7a4_10 rfl (Nat.le_of_ble_eq_true rfl) rfl rfl ?_
  refine v_bipush (v := -(nI (10 ^ 1))) C dJ6_stringSize_0f7a4_11 (by decide) ?_
  refine v_istore_n (lo' := [some (.int (-(nI w))), some (.int 0), some (.int (-(nI (10 ^ 1)))), none]) C dJ6_stringSize_0f7a4_13 rfl (Nat.le_of_ble_eq_true rfl) rfl rfl ?_
  refine v_iconst (v := nI 1) C dJ6_stringSize_0f7a4_14 rfl ?_
  refine v_istore_n (lo' := [some (.int (-(nI w))), some (.int 0), some (.int (-(nI (10 ^ 1)))), some (.int (nI 1))]) C dJ6_stringSize_0f7a4_15 rfl (Nat.le_of_ble_eq_true rfl) rfl rfl ?_
  exact loop 10 1 (by decide) (by decide) (by decide) (Or.inl rfl)
