/-! CONSTRUCTORS: lists, founts, lines, posters -/
theorem set_self {α : Type} {l : List α} {i : Nat} {x : α} (h : l[i]? = some x) : l.set i x = l := by
  refine List.ext_getElem? fun j => ?_
  by_cases hj : i = j
  · subst hj
    rw [List.getElem?_set_self (List.getElem?_eq_some_iff.mp h).1, h]
  · rw [List.getElem?_set_ne hj]
set_option maxRecDepth 100000 in
theorem k_acinit (l : Launch) (Z : Zc) (A : Nat → Prop) (a : Nat) (ws0 : va_W) : MX l yJxa1e45_init_da8c8 cJxa1e45_init_da8c8 1 (rmz 1 12 0 0) Z A [.ref a] (ws0) (fun ws' => ws' = ws0) := by
  refine ent_x (own := RJxa1e45) (lo := [some (.ref a)]) (by decide) rfl rfl (by simp [lg_sl, Value.category]) rfl (fun P hl C hA hI9 ret => ?_)
  refine nx_aload_n C dJxa1e45_init_da8c8_0 rfl rfl ?_
  refine nx_obj C (tg1 48 rfl rfl) dJxa1e45_init_da8c8_1 (Nat.le_of_ble_eq_true rfl) (Nat.le_of_ble_eq_true rfl) ?_
  exact ret _ _ _ dJxa1e45_init_da8c8_4 rfl
set_option maxRecDepth 100000 in
theorem k_alinit (l : Launch) (Z : Zc) (A : Nat → Prop) (a : Nat) (ws0 : va_W) : MX l yJxc12de_init_da8c8 cJxc12de_init_da8c8 1 (rmz 2 34 0 0) Z A [.ref a] ((a, .inr (0, [.int 0, .null, .int 0])) :: ws0) (fun ws' => ws' = (a, .inr (0, [.int 0, .null, .int 0])) :: ws0) := by
  refine ent_x (own := RJxc12de) (lo := [some (.ref a)]) (by decide) rfl rfl (by simp [lg_sl, Value.category]) rfl (fun P hl C hA hI9 ret => ?_)
  refine nx_aload_n C dJxc12de_init_da8c8_0 rfl rfl ?_
  refine nx_callI (n := 0) (as := []) C hA (k_acinit _ Z A a ((a, .inr (0, [.int 0, .null, .int 0])) :: ws0)) (tg1 45 rfl rfl) (tg1 46 rfl rfl) (tg1 2 rfl rfl) (tg1 47 rfl rfl) rfl (by decide +kernel) ⟨Nat.le_of_ble_eq_true rfl, Nat.le_of_ble_eq_true rfl⟩ rfl rfl (Nat.le_of_ble_eq_true rfl) dJxc12de_init_da8c8_1 ⟨Nat.le_of_ble_eq_true rfl, Nat.le_of_ble_eq_true rfl⟩ (fun w1 hp1 => ?_)
  obtain rfl := hp1
  refine nx_aload_n C dJxc12de_init_da8c8_4 rfl rfl ?_
  refine nx_iconst (v := 0) C dJxc12de_init_da8c8_5 (by decide) ?_
  refine nx_put C inGL rfl tyJx4a65c tyJx4a65c_ok nmJx4a65c 0 (by decide) (tg1 53 rfl rfl) (Or.inl rfl) rfl (ty := .int) (by decide +kernel) rfl rfl 0 rfl (Nat.le_of_ble_eq_true rfl) (ws' := (a, .inr (0, [.int 0, .null, .int 0])) :: ws0) rfl dJxc12de_init_da8c8_6 ?_
  exact ret _ _ _ dJxc12de_init_da8c8_9 rfl
set_option maxRecDepth 100000 in
theorem k_linit (l : Launch) (Z : Zc) (A : Nat → Prop) (a : Nat) (ws0 : va_W) : MX l yJx4a65c_init_da8c8 cJx4a65c_init_da8c8 1 (rmz 3 56 0 0) Z A [.ref a] ((a, .inr (0, [.int 0, .null, .int 0])) :: ws0) (fun ws' => ws' = (a, .inr (0, [.int 0, .ref Z.df, .int 0])) :: ws0) := by
  refine ent_x (own := RJx4a65c) (lo := [some (.ref a)]) (by decide) rfl rfl (by simp [lg_sl, Value.category]) rfl (fun P hl C hA hI9 ret => ?_)
  refine nx_aload_n C dJx4a65c_init_da8c8_0 rfl rfl ?_
  refine nx_callI (n := 0) (as := []) C hA (k_alinit _ Z A a ws0) (tg1 42 rfl rfl) (tg1 43 rfl rfl) (tg1 3 rfl rfl) (tg1 44 rfl rfl) rfl (by decide +kernel) ⟨Nat.le_of_ble_eq_true rfl, Nat.le_of_ble_eq_true rfl⟩ rfl rfl (Nat.le_of_ble_eq_true rfl) dJx4a65c_init_da8c8_1 ⟨Nat.le_of_ble_eq_true rfl, Nat.le_of_ble_eq_true rfl⟩ (fun w1 hp1 => ?_)
  obtain rfl := hp1
  refine nx_aload_n C dJx4a65c_init_da8c8_4 rfl rfl ?_
  refine nx_gets C hA (tg1 49 rfl rfl) dJx4a65c_init_da8c8_5 ?_
  refine nx_put C inGL rfl tyJx4a65c tyJx4a65c_ok nmJx4a65c 1 (by decide) (tg1 51 rfl rfl) (Or.inl rfl) rfl (ty := (.array (.object "java/lang/Object"))) (by decide +kernel) rfl rfl 0 rfl (Nat.le_of_ble_eq_true rfl) (ws' := (a, .inr (0, [.int 0, .ref Z.df, .int 0])) :: ws0) rfl dJx4a65c_init_da8c8_8 ?_
  exact ret _ _ _ dJx4a65c_init_da8c8_11 rfl
set_option maxRecDepth 100000 in
theorem k_finit (l : Launch) (Z : Zc) (A : Nat → Prop) (a : Nat) (n h : Int32) (ws0 : va_W) : MX l yX0_init cX0_init 3 (rmz 1 20 4 40) Z A [.ref a, .int n, .int h] ((a, .inr (1, [.int 0, .int 0, .null, .null, .null, .null])) :: ws0) (fun ws' => ∃ a1 a2 a3 a4 : Nat, ws' = (a4, .inl (Z.Y.1, 10, .inl (fun _ => 0))) :: (a3, .inl (Z.Y.1, 10, .inl (fun _ => 0))) :: (a2, .inl (Z.Y.1, 10, .inl (fun _ => 0))) :: (a1, .inl (Z.Y.1, 10, .inl (fun _ => 0))) :: (a, .inr (1, [.int n, .int h, .ref a1, .ref a2, .ref a3, .ref a4])) :: ws0) := by
  refine ent_x (own := RX0) (lo := [some (.ref a), some (.int n), some (.int h)]) (by decide) rfl rfl (by simp [lg_sl, Value.category]) rfl (fun P hl C hA hI9 ret => ?_)
  refine nx_aload_n C dX0_init_0 rfl rfl ?_
  refine nx_obj C (tg5 41 rfl rfl) dX0_init_1 (Nat.le_of_ble_eq_true rfl) (Nat.le_of_ble_eq_true rfl) ?_
  refine nx_aload_n C dX0_init_4 rfl rfl ?_
  refine nx_bipush (v := 10) C dX0_init_5 (by decide) ?_
  refine nx_newi (N := 10) C hA (by decide) dX0_init_7 (Nat.le_of_ble_eq_true rfl) (Nat.le_of_ble_eq_true rfl) (fun q7 => ?_)
  refine nx_putF C hI9 inG0 rfl tyX0 tyX0_ok nmX0 2 (by decide) (tg5 47 rfl rfl) rfl rfl rfl (ty := (.array .int)) (by decide +kernel) rfl rfl 1 rfl (Nat.le_of_ble_eq_true rfl) (ws' := (q7, .inl (Z.Y.1, 10, .inl (fun _ => 0))) :: (a, .inr (1, [.int 0, .int 0, .ref q7, .null, .null, .null])) :: ws0) rfl dX0_init_9 ?_
  refine nx_aload_n C dX0_init_12 rfl rfl ?_
  refine nx_bipush (v := 10) C dX0_init_13 (by decide) ?_
  refine nx_newi (N := 10) C hA (by decide) dX0_init_15 (Nat.le_of_ble_eq_true rfl) (Nat.le_of_ble_eq_true rfl) (fun q15 => ?_)
  refine nx_putF C hI9 inG0 rfl tyX0 tyX0_ok nmX0 3 (by decide) (tg5 49 rfl rfl) rfl rfl rfl (ty := (.array .int)) (by decide +kernel) rfl rfl 2 rfl (Nat.le_of_ble_eq_true rfl) (ws' := (q15, .inl (Z.Y.1, 10, .inl (fun _ => 0))) :: (q7, .inl (Z.Y.1, 10, .inl (fun _ => 0))) :: (a, .inr (1, [.int 0, .int 0, .ref q7, .ref q15, .null, .null])) :: ws0) rfl dX0_init_17 ?_
  refine nx_aload_n C dX0_init_20 rfl rfl ?_
  refine nx_bipush (v := 10) C dX0_init_21 (by decide) ?_
  refine nx_newi (N := 10) C hA (by decide) dX0_init_23 (Nat.le_of_ble_eq_true rfl) (Nat.le_of_ble_eq_true rfl) (fun q23 => ?_)
  refine nx_putF C hI9 inG0 rfl tyX0 tyX0_ok nmX0 4 (by decide) (tg5 52 rfl rfl) rfl rfl rfl (ty := (.array .int)) (by decide +kernel) rfl rfl 3 rfl (Nat.le_of_ble_eq_true rfl) (ws' := (q23, .inl (Z.Y.1, 10, .inl (fun _ => 0))) :: (q15, .inl (Z.Y.1, 10, .inl (fun _ => 0))) :: (q7, .inl (Z.Y.1, 10, .inl (fun _ => 0))) :: (a, .inr (1, [.int 0, .int 0, .ref q7, .ref q15, .ref q23, .null])) :: ws0) rfl dX0_init_25 ?_
  refine nx_aload_n C dX0_init_28 rfl rfl ?_
  refine nx_bipush (v := 10) C dX0_init_29 (by decide) ?_
  refine nx_newi (N := 10) C hA (by decide) dX0_init_31 (Nat.le_of_ble_eq_true rfl) (Nat.le_of_ble_eq_true rfl) (fun q31 => ?_)
  refine nx_putF C hI9 inG0 rfl tyX0 tyX0_ok nmX0 5 (by decide) (tg5 55 rfl rfl) rfl rfl rfl (ty := (.array .int)) (by decide +kernel) rfl rfl 4 rfl (Nat.le_of_ble_eq_true rfl) (ws' := (q31, .inl (Z.Y.1, 10, .inl (fun _ => 0))) :: (q23, .inl (Z.Y.1, 10, .inl (fun _ => 0))) :: (q15, .inl (Z.Y.1, 10, .inl (fun _ => 0))) :: (q7, .inl (Z.Y.1, 10, .inl (fun _ => 0))) :: (a, .inr (1, [.int 0, .int 0, .ref q7, .ref q15, .ref q23, .ref q31])) :: ws0) rfl dX0_init_33 ?_
  refine nx_aload_n C dX0_init_36 rfl rfl ?_
  refine nx_iload_n C dX0_init_37 rfl rfl ?_
  refine nx_putF C hI9 inG0 rfl tyX0 tyX0_ok nmX0 0 (by decide) (tg5 42 rfl rfl) rfl rfl rfl (ty := .int) (by decide +kernel) rfl rfl 4 rfl (Nat.le_of_ble_eq_true rfl) (ws' := (q31, .inl (Z.Y.1, 10, .inl (fun _ => 0))) :: (q23, .inl (Z.Y.1, 10, .inl (fun _ => 0))) :: (q15, .inl (Z.Y.1, 10, .inl (fun _ => 0))) :: (q7, .inl (Z.Y.1, 10, .inl (fun _ => 0))) :: (a, .inr (1, [.int n, .int 0, .ref q7, .ref q15, .ref q23, .ref q31])) :: ws0) rfl dX0_init_38 ?_
  refine nx_aload_n C dX0_init_41 rfl rfl ?_
  refine nx_iload_n C dX0_init_42 rfl rfl ?_
  refine nx_putF C hI9 inG0 rfl tyX0 tyX0_ok nmX0 1 (by decide) (tg5 44 rfl rfl) rfl rfl rfl (ty := .int) (by decide +kernel) rfl rfl 4 rfl (Nat.le_of_ble_eq_true rfl) (ws' := (q31, .inl (Z.Y.1, 10, .inl (fun _ => 0))) :: (q23, .inl (Z.Y.1, 10, .inl (fun _ => 0))) :: (q15, .inl (Z.Y.1, 10, .inl (fun _ => 0))) :: (q7, .inl (Z.Y.1, 10, .inl (fun _ => 0))) :: (a, .inr (1, [.int n, .int h, .ref q7, .ref q15, .ref q23, .ref q31])) :: ws0) rfl dX0_init_43 ?_
  exact ret _ _ _ dX0_init_46 ⟨q7, q15, q23, q31, rfl⟩
set_option maxRecDepth 100000 in
theorem k_pinit (l : Launch) (Z : Zc) (A : Nat → Prop) (a : Nat) (t h : Int32) (ws0 : va_W) : MX l yX2_init cX2_init 3 (rmz 4 78 1 3) Z A [.ref a, .int t, .int h] ((a, .inr (3, [.int 0, .int 0, .null, .int 0, .int 0])) :: ws0) (fun ws' => ∃ a1 : Nat, ws' = (a1, .inr (0, [.int 0, .ref Z.df, .int 0])) :: (a, .inr (3, [.int t, .int h, .ref a1, .int 0, .int 0])) :: ws0) := by
  refine ent_x (own := RX2) (lo := [some (.ref a), some (.int t), some (.int h)]) (by decide) rfl rfl (by simp [lg_sl, Value.category]) rfl (fun P hl C hA hI9 ret => ?_)
  refine nx_aload_n C dX2_init_0 rfl rfl ?_
  refine nx_obj C (tg3 86 rfl rfl) dX2_init_1 (Nat.le_of_ble_eq_true rfl) (Nat.le_of_ble_eq_true rfl) ?_
  refine nx_aload_n C dX2_init_4 rfl rfl ?_
  refine nx_new (ci := 0) (fs := [.int 0, .null, .int 0]) C hA inGL tyJx4a65c tyJx4a65c_ok (tg3 87 rfl rfl) (tg1 38 rfl rfl) (tg1 4 rfl rfl) rfl (by decide) (Nat.le_of_ble_eq_true rfl) (Nat.le_of_ble_eq_true rfl) dX2_init_5 (fun q5 => ?_)
  refine nx_dup C dX2_init_8 rfl ?_
  refine nx_callI (n := 0) (as := []) C hA (k_linit _ Z A q5 ((a, .inr (3, [.int 0, .int 0, .null, .int 0, .int 0])) :: ws0)) (tg3 88 rfl rfl) (tg1 40 rfl rfl) (tg1 4 rfl rfl) (tg1 41 rfl rfl) rfl (by decide +kernel) ⟨Nat.le_of_ble_eq_true rfl, Nat.le_of_ble_eq_true rfl⟩ rfl rfl (Nat.le_of_ble_eq_true rfl) dX2_init_9 ⟨Nat.le_of_ble_eq_true rfl, Nat.le_of_ble_eq_true rfl⟩ (fun w9 hp9 => ?_)
  obtain rfl := hp9
  refine nx_putF C hI9 inG2 rfl tyX2 tyX2_ok nmX2 2 (by decide) (tg3 93 rfl rfl) rfl rfl rfl (ty := (.object "java/util/ArrayList")) (by decide +kernel) rfl rfl 1 rfl (Nat.le_of_ble_eq_true rfl) (ws' := (q5, .inr (0, [.int 0, .ref Z.df, .int 0])) :: (a, .inr (3, [.int 0, .int 0, .ref q5, .int 0, .int 0])) :: ws0) rfl dX2_init_12 ?_
  refine nx_aload_n C dX2_init_15 rfl rfl ?_
  refine nx_iload_n C dX2_init_16 rfl rfl ?_
  refine nx_putF C hI9 inG2 rfl tyX2 tyX2_ok nmX2 0 (by decide) (tg3 89 rfl rfl) rfl rfl rfl (ty := .int) (by decide +kernel) rfl rfl 1 rfl (Nat.le_of_ble_eq_true rfl) (ws' := (q5, .inr (0, [.int 0, .ref Z.df, .int 0])) :: (a, .inr (3, [.int t, .int 0, .ref q5, .int 0, .int 0])) :: ws0) rfl dX2_init_17 ?_
  refine nx_aload_n C dX2_init_20 rfl rfl ?_
  refine nx_iload_n C dX2_init_21 rfl rfl ?_
  refine nx_putF C hI9 inG2 rfl tyX2 tyX2_ok nmX2 1 (by decide) (tg3 91 rfl rfl) rfl rfl rfl (ty := .int) (by decide +kernel) rfl rfl 1 rfl (Nat.le_of_ble_eq_true rfl) (ws' := (q5, .inr (0, [.int 0, .ref Z.df, .int 0])) :: (a, .inr (3, [.int t, .int h, .ref q5, .int 0, .int 0])) :: ws0) rfl dX2_init_22 ?_
  exact ret _ _ _ dX2_init_25 ⟨q5, rfl⟩
