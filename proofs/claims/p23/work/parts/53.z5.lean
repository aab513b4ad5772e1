/-! CONSTRUCTORS: the class, the reference -/
set_option maxRecDepth 100000 in
theorem k_tinit (l : Launch) (Z : Zc) (A : Nat → Prop) (a : Nat) (ws0 : va_W) : MX l yX3_init cX3_init 1 (rmz 4 78 5 24) Z A [.ref a] ((a, .inr (4, [.null, .null, .null, .null, .null, .int 0, .int 0])) :: ws0) (fun ws' => ∃ b : Nat → Nat, ws' = (b 35, .inl (Z.Y.1, 4, .inl (flF (fun _ => 0) 5 4))) :: (b 34, .inl (Z.Y.1, 4, .inl (flF (fun _ => 0) 3 4))) :: (b 33, .inl (Z.Y.1, 10, .inl (flF (fun _ => 0) (-1) 10))) :: (b 32, .inr (0, [.int 0, .ref Z.df, .int 0])) :: (b 31, .inr (0, [.int 0, .ref Z.df, .int 0])) :: (a, .inr (4, [.ref (b 31), .ref (b 32), .ref (b 33), .ref (b 34), .ref (b 35), .int 0, .int 0])) :: ws0) := by
  refine ent_x (own := RX3) (lo := [some (.ref a)]) (by decide) rfl rfl (by simp [lg_sl, Value.category]) rfl (fun P hl C hA hI9 ret => ?_)
  refine nx_aload_n C dX3_init_0 rfl rfl ?_
  refine nx_obj C (tg1 34 rfl rfl) dX3_init_1 (Nat.le_of_ble_eq_true rfl) (Nat.le_of_ble_eq_true rfl) ?_
  refine nx_aload_n C dX3_init_4 rfl rfl ?_
  refine nx_new (ci := 0) (fs := [.int 0, .null, .int 0]) C hA inGL tyJx4a65c tyJx4a65c_ok (tg1 37 rfl rfl) (tg1 38 rfl rfl) (tg1 4 rfl rfl) rfl (by decide) (Nat.le_of_ble_eq_true rfl) (Nat.le_of_ble_eq_true rfl) dX3_init_5 (fun q5 => ?_)
  refine nx_dup C dX3_init_8 rfl ?_
  refine nx_callI (n := 0) (as := []) C hA (k_linit _ Z A q5 ((a, .inr (4, [.null, .null, .null, .null, .null, .int 0, .int 0])) :: ws0)) (tg1 39 rfl rfl) (tg1 40 rfl rfl) (tg1 4 rfl rfl) (tg1 41 rfl rfl) rfl (by decide +kernel) ⟨Nat.le_of_ble_eq_true rfl, Nat.le_of_ble_eq_true rfl⟩ rfl rfl (Nat.le_of_ble_eq_true rfl) dX3_init_9 ⟨Nat.le_of_ble_eq_true rfl, Nat.le_of_ble_eq_true rfl⟩ (fun w9 hp9 => ?_)
  obtain rfl := hp9
  refine nx_putF C hI9 inG3 rfl tyX3 tyX3_ok nmX3 0 (by decide) (tg1 66 rfl rfl) rfl rfl rfl (ty := (.object "java/util/ArrayList")) (by decide +kernel) rfl rfl 1 rfl (Nat.le_of_ble_eq_true rfl) (ws' := (q5, .inr (0, [.int 0, .ref Z.df, .int 0])) :: (a, .inr (4, [.ref q5, .null, .null, .null, .null, .int 0, .int 0])) :: ws0) rfl dX3_init_12 ?_
  refine nx_aload_n C dX3_init_15 rfl rfl ?_
  refine nx_new (ci := 0) (fs := [.int 0, .null, .int 0]) C hA inGL tyJx4a65c tyJx4a65c_ok (tg1 37 rfl rfl) (tg1 38 rfl rfl) (tg1 4 rfl rfl) rfl (by decide) (Nat.le_of_ble_eq_true rfl) (Nat.le_of_ble_eq_true rfl) dX3_init_16 (fun q16 => ?_)
  refine nx_dup C dX3_init_19 rfl ?_
  refine nx_callI (n := 0) (as := []) C hA (k_linit _ Z A q16 ((q5, .inr (0, [.int 0, .ref Z.df, .int 0])) :: (a, .inr (4, [.ref q5, .null, .null, .null, .null, .int 0, .int 0])) :: ws0)) (tg1 39 rfl rfl) (tg1 40 rfl rfl) (tg1 4 rfl rfl) (tg1 41 rfl rfl) rfl (by decide +kernel) ⟨Nat.le_of_ble_eq_true rfl, Nat.le_of_ble_eq_true rfl⟩ rfl rfl (Nat.le_of_ble_eq_true rfl) dX3_init_20 ⟨Nat.le_of_ble_eq_true rfl, Nat.le_of_ble_eq_true rfl⟩ (fun w20 hp20 => ?_)
  obtain rfl := hp20
  refine nx_putF C hI9 inG3 rfl tyX3 tyX3_ok nmX3 1 (by decide) (tg1 67 rfl rfl) rfl rfl rfl (ty := (.object "java/util/ArrayList")) (by decide +kernel) rfl rfl 2 rfl (Nat.le_of_ble_eq_true rfl) (ws' := (q16, .inr (0, [.int 0, .ref Z.df, .int 0])) :: (q5, .inr (0, [.int 0, .ref Z.df, .int 0])) :: (a, .inr (4, [.ref q5, .ref q16, .null, .null, .null, .int 0, .int 0])) :: ws0) rfl dX3_init_23 ?_
  refine nx_aload_n C dX3_init_26 rfl rfl ?_
  refine nx_bipush (v := 10) C dX3_init_27 (by decide) ?_
  refine nx_newi (N := 10) C hA (by decide) dX3_init_29 (Nat.le_of_ble_eq_true rfl) (Nat.le_of_ble_eq_true rfl) (fun q29 => ?_)
  refine nx_putF C hI9 inG3 rfl tyX3 tyX3_ok nmX3 2 (by decide) (tg1 68 rfl rfl) rfl rfl rfl (ty := (.array .int)) (by decide +kernel) rfl rfl 3 rfl (Nat.le_of_ble_eq_true rfl) (ws' := (q29, .inl (Z.Y.1, 10, .inl (fun _ => 0))) :: (q16, .inr (0, [.int 0, .ref Z.df, .int 0])) :: (q5, .inr (0, [.int 0, .ref Z.df, .int 0])) :: (a, .inr (4, [.ref q5, .ref q16, .ref q29, .null, .null, .int 0, .int 0])) :: ws0) rfl dX3_init_31 ?_
  refine nx_aload_n C dX3_init_34 rfl rfl ?_
  refine nx_iconst (v := 4) C dX3_init_35 (by decide) ?_
  refine nx_newi (N := 4) C hA (by decide) dX3_init_36 (Nat.le_of_ble_eq_true rfl) (Nat.le_of_ble_eq_true rfl) (fun q36 => ?_)
  refine nx_putF C hI9 inG3 rfl tyX3 tyX3_ok nmX3 3 (by decide) (tg1 69 rfl rfl) rfl rfl rfl (ty := (.array .int)) (by decide +kernel) rfl rfl 4 rfl (Nat.le_of_ble_eq_true rfl) (ws' := (q36, .inl (Z.Y.1, 4, .inl (fun _ => 0))) :: (q29, .inl (Z.Y.1, 10, .inl (fun _ => 0))) :: (q16, .inr (0, [.int 0, .ref Z.df, .int 0])) :: (q5, .inr (0, [.int 0, .ref Z.df, .int 0])) :: (a, .inr (4, [.ref q5, .ref q16, .ref q29, .ref q36, .null, .int 0, .int 0])) :: ws0) rfl dX3_init_38 ?_
  refine nx_aload_n C dX3_init_41 rfl rfl ?_
  refine nx_iconst (v := 4) C dX3_init_42 (by decide) ?_
  refine nx_newi (N := 4) C hA (by decide) dX3_init_43 (Nat.le_of_ble_eq_true rfl) (Nat.le_of_ble_eq_true rfl) (fun q43 => ?_)
  refine nx_putF C hI9 inG3 rfl tyX3 tyX3_ok nmX3 4 (by decide) (tg1 70 rfl rfl) rfl rfl rfl (ty := (.array .int)) (by decide +kernel) rfl rfl 5 rfl (Nat.le_of_ble_eq_true rfl) (ws' := (q43, .inl (Z.Y.1, 4, .inl (fun _ => 0))) :: (q36, .inl (Z.Y.1, 4, .inl (fun _ => 0))) :: (q29, .inl (Z.Y.1, 10, .inl (fun _ => 0))) :: (q16, .inr (0, [.int 0, .ref Z.df, .int 0])) :: (q5, .inr (0, [.int 0, .ref Z.df, .int 0])) :: (a, .inr (4, [.ref q5, .ref q16, .ref q29, .ref q36, .ref q43, .int 0, .int 0])) :: ws0) rfl dX3_init_45 ?_
  refine nx_aload_n C dX3_init_48 rfl rfl ?_
  refine nx_get C inG3 rfl 2 (by decide) (tg1 68 rfl rfl) (Or.inl rfl) 5 rfl rfl dX3_init_49 ?_
  refine nx_iconst (v := (-1)) C dX3_init_52 (by decide) ?_
  refine nx_callS (n := 2) (as := [.ref q29, .int (-1)]) C hA (k_fill _ Z A q29 10 2 (-1) (fun _ => 0) _ rfl (by decide)) (gs2 (tg1 63 rfl rfl) (tg1 64 rfl rfl) (tg1 5 rfl rfl) (tg1 65 rfl rfl)) (by decide +kernel) ⟨Nat.le_of_ble_eq_true rfl, Nat.le_of_ble_eq_true rfl⟩ rfl rfl (Nat.le_of_ble_eq_true rfl) dX3_init_53 ⟨Nat.le_of_ble_eq_true rfl, Nat.le_of_ble_eq_true rfl⟩ (fun w53 hw53 => ?_)
  subst hw53
  refine nx_ws (ws' := (q43, .inl (Z.Y.1, 4, .inl (fun _ => 0))) :: (q36, .inl (Z.Y.1, 4, .inl (fun _ => 0))) :: (q29, .inl (Z.Y.1, 10, .inl (flF (fun _ => 0) (-1) 10))) :: (q16, .inr (0, [.int 0, .ref Z.df, .int 0])) :: (q5, .inr (0, [.int 0, .ref Z.df, .int 0])) :: (a, .inr (4, [.ref q5, .ref q16, .ref q29, .ref q36, .ref q43, .int 0, .int 0])) :: ws0) rfl ?_
  refine nx_aload_n C dX3_init_56 rfl rfl ?_
  refine nx_get C inG3 rfl 3 (by decide) (tg1 69 rfl rfl) (Or.inl rfl) 5 rfl rfl dX3_init_57 ?_
  refine nx_iconst (v := 3) C dX3_init_60 (by decide) ?_
  refine nx_callS (n := 2) (as := [.ref q36, .int 3]) C hA (k_fill _ Z A q36 4 1 3 (fun _ => 0) _ rfl (by decide)) (gs2 (tg1 63 rfl rfl) (tg1 64 rfl rfl) (tg1 5 rfl rfl) (tg1 65 rfl rfl)) (by decide +kernel) ⟨Nat.le_of_ble_eq_true rfl, Nat.le_of_ble_eq_true rfl⟩ rfl rfl (Nat.le_of_ble_eq_true rfl) dX3_init_61 ⟨Nat.le_of_ble_eq_true rfl, Nat.le_of_ble_eq_true rfl⟩ (fun w61 hw61 => ?_)
  subst hw61
  refine nx_ws (ws' := (q43, .inl (Z.Y.1, 4, .inl (fun _ => 0))) :: (q36, .inl (Z.Y.1, 4, .inl (flF (fun _ => 0) 3 4))) :: (q29, .inl (Z.Y.1, 10, .inl (flF (fun _ => 0) (-1) 10))) :: (q16, .inr (0, [.int 0, .ref Z.df, .int 0])) :: (q5, .inr (0, [.int 0, .ref Z.df, .int 0])) :: (a, .inr (4, [.ref q5, .ref q16, .ref q29, .ref q36, .ref q43, .int 0, .int 0])) :: ws0) rfl ?_
  refine nx_aload_n C dX3_init_64 rfl rfl ?_
  refine nx_get C inG3 rfl 4 (by decide) (tg1 70 rfl rfl) (Or.inl rfl) 5 rfl rfl dX3_init_65 ?_
  refine nx_iconst (v := 5) C dX3_init_68 (by decide) ?_
  refine nx_callS (n := 2) (as := [.ref q43, .int 5]) C hA (k_fill _ Z A q43 4 0 5 (fun _ => 0) _ rfl (by decide)) (gs2 (tg1 63 rfl rfl) (tg1 64 rfl rfl) (tg1 5 rfl rfl) (tg1 65 rfl rfl)) (by decide +kernel) ⟨Nat.le_of_ble_eq_true rfl, Nat.le_of_ble_eq_true rfl⟩ rfl rfl (Nat.le_of_ble_eq_true rfl) dX3_init_69 ⟨Nat.le_of_ble_eq_true rfl, Nat.le_of_ble_eq_true rfl⟩ (fun w69 hw69 => ?_)
  subst hw69
  refine nx_ws (ws' := (q43, .inl (Z.Y.1, 4, .inl (flF (fun _ => 0) 5 4))) :: (q36, .inl (Z.Y.1, 4, .inl (flF (fun _ => 0) 3 4))) :: (q29, .inl (Z.Y.1, 10, .inl (flF (fun _ => 0) (-1) 10))) :: (q16, .inr (0, [.int 0, .ref Z.df, .int 0])) :: (q5, .inr (0, [.int 0, .ref Z.df, .int 0])) :: (a, .inr (4, [.ref q5, .ref q16, .ref q29, .ref q36, .ref q43, .int 0, .int 0])) :: ws0) rfl ?_
  exact ret _ _ _ dX3_init_72 ⟨fun k => if k = 31 then q5 else if k = 32 then q16 else if k = 33 then q29 else if k = 34 then q36 else q43, rfl⟩
