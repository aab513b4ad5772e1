/-! THE REFERENCE's small methods -/
def inB (v lo hi : Int32) : Bool := decide (lo ≤ v) && decide (v ≤ hi)
theorem inB_t {v lo hi : Int32} : inB v lo hi = true ↔ lo.toInt ≤ v.toInt ∧ v.toInt ≤ hi.toInt := by simp [inB, i_le]
theorem inB_f {v lo hi : Int32} : inB v lo hi = false ↔ ¬ (lo.toInt ≤ v.toInt ∧ v.toInt ≤ hi.toInt) := by rw [← inB_t]; cases inB v lo hi <;> simp
set_option maxRecDepth 100000 in
theorem c_isIn (l : Launch) (Z : Zc) (v a b : Int32) (g : MG) : MI l yX4_isIn cX4_isIn 3 (some .boolean) (rmz 0 0 0 0) Z [.int v, .int a, .int b] g (fun r g' => r = bI (inB v a b) ∧ g' = g) := by
  refine ent_z (own := RX4) (lo := [some (.int v), some (.int a), some (.int b)]) (by decide) rfl (by simp [lg_sl, Value.category]) rfl (fun P hl C ret => ?_)
  refine v_iload_n C dX4_isIn_0 rfl rfl ?_
  refine v_iload_n C dX4_isIn_1 rfl rfl ?_
  refine v_icmp_lt (tgt := 14) C dX4_isIn_2 (by decide) (fun h2 => ?_) (fun h2 => ?_)
  · refine v_iconst (v := 0) C dX4_isIn_14 (by decide) ?_
    exact ret _ _ _ _ dX4_isIn_15 (by decide) ⟨bI_f (inB_f.mpr (by simp only [i_lt, i_le, i_eq] at h2 ⊢; omega)), rfl⟩
  · refine v_iload_n C dX4_isIn_5 rfl rfl ?_
    refine v_iload_n C dX4_isIn_6 rfl rfl ?_
    refine v_icmp_gt (tgt := 14) C dX4_isIn_7 (by decide) (fun h7 => ?_) (fun h7 => ?_)
    · refine v_iconst (v := 0) C dX4_isIn_14 (by decide) ?_
      exact ret _ _ _ _ dX4_isIn_15 (by decide) ⟨bI_f (inB_f.mpr (by simp only [i_lt, i_le, i_eq] at h2 h7 ⊢; omega)), rfl⟩
    · refine v_iconst (v := 1) C dX4_isIn_10 (by decide) ?_
      refine v_goto (tgt := 15) C dX4_isIn_11 (by decide) ?_
      exact ret _ _ _ _ dX4_isIn_15 (by decide) ⟨bI_t (inB_t.mpr (by simp only [i_lt, i_le, i_eq] at h2 h7 ⊢; omega)), rfl⟩
set_option maxRecDepth 100000 in
theorem c_no (l : Launch) (Z : Zc) (k : Int32) (g : MG) : MI l yX4_no cX4_no 2 (some .int) (rmz 0 0 0 0) Z [.ref (Z.ad 0), .int k] g (fun r g' => r = 0 ∧ g' = wr g 0 0 k) := by
  refine ent_i (own := RX4) (lo := [some (.ref (Z.ad 0)), some (.int k)]) (by decide) rfl (by simp [lg_sl, Value.category]) rfl (fun P hl C ret => ?_)
  refine v_aload_n C dX4_no_0 rfl rfl ?_
  refine v_iload_n C dX4_no_1 rfl rfl ?_
  refine v_put C inG4 rfl tyX4 tyX4_ok nmX4 0 (by decide) (tg3 195 rfl rfl) rfl rfl (ty := .int) rfl rfl rfl cx_M (Nat.le_of_ble_eq_true rfl) rfl (by omega) cx_M dX4_no_2 ?_
  refine v_iconst (v := 0) C dX4_no_5 (by decide) ?_
  exact ret _ _ _ _ dX4_no_6 ⟨rfl, rfl⟩
set_option maxRecDepth 100000 in
theorem c_thrown (l : Launch) (Z : Zc) (g : MG) : MI l yX4_thrown cX4_thrown 1 (some .int) (rmz 0 0 0 0) Z [.ref (Z.ad 0)] g (fun r g' => r = g 0 0 ∧ g' = g) := by
  refine ent_i (own := RX4) (lo := [some (.ref (Z.ad 0))]) (by decide) rfl (by simp [lg_sl, Value.category]) rfl (fun P hl C ret => ?_)
  refine v_aload_n C dX4_thrown_0 rfl rfl ?_
  refine v_get C inG4 rfl 0 (by decide) (tg3 195 rfl rfl) rfl cx_M rfl dX4_thrown_1 ?_
  exact ret _ _ _ _ dX4_thrown_4 ⟨rfl, rfl⟩
def okM (g : MG) (f k : Nat) (x : Int32) : Bool := decide (0 < g 6 (10 * f + k) - g 7 (10 * f + k) - g 21 (10 * f + k) - x)
set_option maxRecDepth 100000 in
theorem c_isLeft (l : Launch) (Z : Zc) (f k : Nat) (g : MG) (hf : f < 5) (hk : k < 10) : MI l yX4_isLeft cX4_isLeft 4 (some .boolean) (rmz 0 0 0 0) Z [.ref (Z.ad 0), .int (nI f), .int (nI k)] g (fun r g' => r = bI (okM g f k (g 25 k)) ∧ g' = g) := by
  refine ent_z (own := RX4) (lo := [some (.ref (Z.ad 0)), some (.int (nI f)), some (.int (nI k)), none]) (by decide) rfl (by simp [lg_sl, Value.category]) rfl (fun P hl C ret => ?_)
  refine v_bipush (v := 10) C dX4_isLeft_0 (by decide) ?_
  refine v_iload_n C dX4_isLeft_2 rfl rfl ?_
  refine v_imul C dX4_isLeft_3 ?_
  refine v_iload_n C dX4_isLeft_4 rfl rfl ?_
  refine v_iadd C dX4_isLeft_5 ?_
  refine v_topi (y := nI (10 * f + k)) (nI_10 f k) ?_
  refine v_istore_n (lo' := [some (.ref (Z.ad 0)), some (.int (nI f)), some (.int (nI k)), some (.int (nI (10 * f + k)))]) C dX4_isLeft_6 rfl (Nat.le_of_ble_eq_true rfl) rfl rfl ?_
  refine v_aload_n C dX4_isLeft_7 rfl rfl ?_
  refine v_get C inG4 rfl 6 (by decide) (tg3 201 rfl rfl) rfl cx_M rfl dX4_isLeft_8 ?_
  refine v_iload_n C dX4_isLeft_11 rfl rfl ?_
  refine v_ialdN (a := (10 * f + k)) C cxA6 (by omega) dX4_isLeft_12 ?_
  refine v_aload_n C dX4_isLeft_13 rfl rfl ?_
  refine v_get C inG4 rfl 7 (by decide) (tg3 202 rfl rfl) rfl cx_M rfl dX4_isLeft_14 ?_
  refine v_iload_n C dX4_isLeft_17 rfl rfl ?_
  refine v_ialdN (a := (10 * f + k)) C cxA7 (by omega) dX4_isLeft_18 ?_
  refine v_isub C dX4_isLeft_19 ?_
  refine v_aload_n C dX4_isLeft_20 rfl rfl ?_
  refine v_get C inG4 rfl 21 (by decide) (tg3 216 rfl rfl) rfl cx_M rfl dX4_isLeft_21 ?_
  refine v_iload_n C dX4_isLeft_24 rfl rfl ?_
  refine v_ialdN (a := (10 * f + k)) C cxA21 (by omega) dX4_isLeft_25 ?_
  refine v_isub C dX4_isLeft_26 ?_
  refine v_aload_n C dX4_isLeft_27 rfl rfl ?_
  refine v_get C inG4 rfl 25 (by decide) (tg3 220 rfl rfl) rfl cx_M rfl dX4_isLeft_28 ?_
  refine v_iload_n C dX4_isLeft_31 rfl rfl ?_
  refine v_ialdN (a := k) C cxA25 (by omega) dX4_isLeft_32 ?_
  refine v_isub C dX4_isLeft_33 ?_
  refine v_if_le (tgt := 41) C dX4_isLeft_34 (by decide) (fun h34 => ?_) (fun h34 => ?_)
  · refine v_iconst (v := 0) C dX4_isLeft_41 (by decide) ?_
    exact ret _ _ _ _ dX4_isLeft_42 (by decide) ⟨bI_f (by simpa [okM, iz_nI (show 10 * f + k < 2 ^ 31 by omega), iz_nI (show k < 2 ^ 31 by omega)] using h34), rfl⟩
  · refine v_iconst (v := 1) C dX4_isLeft_37 (by decide) ?_
    refine v_goto (tgt := 42) C dX4_isLeft_38 (by decide) ?_
    exact ret _ _ _ _ dX4_isLeft_42 (by decide) ⟨bI_t (by simpa [okM, iz_nI (show 10 * f + k < 2 ^ 31 by omega), iz_nI (show k < 2 ^ 31 by omega)] using h34), rfl⟩
def dgc : Nat → Nat → Nat
  | 0, _ => 0
  | f + 1, r => if r = 0 then 0 else dgc f (r / 10) + 1
def szw (w : Nat) : Nat := 1 + dgc 9 (w / 10)
set_option maxRecDepth 100000 in
theorem c_size (l : Launch) (Z : Zc) (w : Nat) (g : MG) (hw : w < 2 ^ 31) : MI l yX4_size cX4_size 3 (some .int) (rmz 0 0 0 0) Z [.int (nI w)] g (fun r g' => r = nI (szw w) ∧ g' = g) := by
  refine ent_i (own := RX4) (lo := [some (.int (nI w)), none, none]) (by decide) rfl (by simp [lg_sl, Value.category]) rfl (fun P hl C ret => ?_)
  have loop : ∀ (f r m : Nat), r < 10 ^ f → r < 2 ^ 31 → m + dgc f r = szw w → V P (rmz 0 0 0 0) Z [some (.int (nI w)), some (.int (nI m)), some (.int (nI r))] 7 [] g 0 0 := by
    intro f
    induction f with
    | zero =>
      intro r m hr hr2 he
      have hr0 : r = 0 := by omega
      subst hr0
      refine v_iload_n C dX4_size_7 rfl rfl ?_
      refine v_if_le (tgt := 22) C dX4_size_8 (by decide) (fun h8 => ?_) (fun h8 => ?_)
      · refine v_iload_n C dX4_size_22 rfl rfl ?_
        exact ret _ _ _ _ dX4_size_23 ⟨by rw [← he]; rfl, rfl⟩
      · exact absurd (show nI 0 ≤ 0 by decide) h8
    | succ f ih =>
      intro r m hr hr2 he
      refine v_iload_n C dX4_size_7 rfl rfl ?_
      refine v_if_le (tgt := 22) C dX4_size_8 (by decide) (fun h8 => ?_) (fun h8 => ?_)
      · refine v_iload_n C dX4_size_22 rfl rfl ?_
        exact ret _ _ _ _ dX4_size_23 ⟨by rw [← he, nI_z hr2 h8]; rfl, rfl⟩
      · refine v_iinc (lo' := [some (.int (nI w)), some (.int ((nI m) + 1)), some (.int (nI r))]) C dX4_size_11 rfl rfl rfl rfl ?_
        refine v_lo (lo' := [some (.int (nI w)), some (.int (nI (m + 1))), some (.int (nI r))]) (by rw [← nI_1 m]) ?_
        refine v_iload_n C dX4_size_14 rfl rfl ?_
        refine v_bipush (v := 10) C dX4_size_15 (by decide) ?_
        refine v_idiv C dX4_size_17 (by decide) ?_
        refine v_topi (y := nI (r / 10)) (nI_div (b := 10) hr2 (by decide)) ?_
        refine v_istore_n (lo' := [some (.int (nI w)), some (.int (nI (m + 1))), some (.int (nI (r / 10)))]) C dX4_size_18 rfl (Nat.le_of_ble_eq_true rfl) rfl rfl ?_
        refine v_goto (tgt := 7) C dX4_size_19 (by decide) ?_
        exact ih (r / 10) (m + 1) (by rw [Nat.pow_succ] at hr; omega) (by omega) (by rw [← he]; simp only [dgc, Nat.ne_of_gt (nI_p hr2 h8), if_false]; omega)
  refine v_iconst (v := 1) C dX4_size_0 (by decide) ?_
  refine v_istore_n (lo' := [some (.int (nI w)), some (.int 1), none]) C dX4_size_1 rfl (Nat.le_of_ble_eq_true rfl) rfl rfl ?_
  refine v_iload_n C dX4_size_2 rfl rfl ?_
  refine v_bipush (v := 10) C dX4_size_3 (by decide) ?_
  refine v_idiv C dX4_size_5 (by decide) ?_
  refine v_topi (y := nI (w / 10)) (nI_div (b := 10) hw (by decide)) ?_
  refine v_istore_n (lo' := [some (.int (nI w)), some (.int 1), some (.int (nI (w / 10)))]) C dX4_size_6 rfl (Nat.le_of_ble_eq_true rfl) rfl rfl ?_
  exact loop 9 (w / 10) 1 (by omega) (by omega) rfl
