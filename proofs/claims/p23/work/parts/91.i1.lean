/-! THE LAW'S METHODS: a new shop of its own -/
/-- an empty shop at 600, its rows at 601 to 609 -/
def sinM (m m' : MG) : Prop := (m' 600 100000 = 6 ∧ m' 600 0 = m 600 0 ∧ m' 600 1 = m 600 1 ∧ m' 600 2 = nI 601 ∧ m' 600 3 = nI 602 ∧ m' 600 4 = nI 603 ∧ m' 600 5 = nI 604 ∧ m' 600 6 = nI 609) ∧ isA m' 601 0 ∧ isQ m' 3 602 0 ∧ (isA m' 603 10 ∧ ∀ j, j < 10 → m' 603 j = -1) ∧ (isQ m' 2 604 4 ∧ ∀ t, t < 4 → m' 604 t = nI (605 + t) ∧ isA m' (605 + t) 2 ∧ m' (605 + t) 0 = 3 ∧ m' (605 + t) 1 = 5) ∧ isQ m' 4 609 0
set_option maxRecDepth 100000 in
theorem l_sinit (l : Launch) (Z : Zc) (ad : Nat → Nat) (m g : MG) (hF : Fr m 601) (h6 : m 600 100000 = 6) : LMv l yX5_init cX5_init 1 (rmz 1 40 9 40) Z [.ref (ad 600)] ad m g (fun ad' m' g' => (∀ k, k ≤ 600 → ad' k = ad k) ∧ sinM m m' ∧ Fr m' 610 ∧ g' = g) := by
  refine ent_lv (own := RX5) (lo := [some (.ref (ad 600))]) (by decide) rfl (by simp [lg_sl, Value.category]) rfl (fun P hl C hW9 ret => ?_)
  refine v_aload_n (C.wl _ _) dX5_init_0 rfl rfl ?_
  refine l_objInit (C.wl _ _) (tg5 1 rfl rfl) dX5_init_1 (Nat.le_of_ble_eq_true rfl) (Nat.le_of_ble_eq_true rfl) ?_
  refine v_aload_n (C.wl _ _) dX5_init_4 rfl rfl ?_
  refine v_iconst (v := 0) (C.wl _ _) dX5_init_5 (by decide) ?_
  refine l_newi (T := 601) (N := 0) C hF (by omega) (by omega) dX5_init_6 (Nat.le_of_ble_eq_true rfl) (Nat.le_of_ble_eq_true rfl) (fun ad6 hA6 => ?_)
  have hF6 := hF.new (by omega) (rN_R (kd := 1) (n := 0) (by omega) (by decide) (by omega))
  refine v_lo (lo' := [some (.ref (ad6 600))]) (by rw [hA6 600 (by omega)]) ?_
  refine v_st (st' := [.ref (ad6 601), .ref (ad6 600)]) (by rw [hA6 600 (by omega)]) ?_
  refine l_put (k := 600) (x := nI 601) C inG5 (ci := 6) rfl tyX5 tyX5_ok nmX5 2 (by decide) (tg5 5 rfl rfl) rfl rfl rfl rfl rfl (by decide) (cW_6 ((congrFun (rwr_ne _ _ _ (by omega)) _).trans h6)) (Nat.le_of_ble_eq_true rfl) ((cW_6 (show upd (rwr m 601 (rN 1 0) 600) 2 (nI 601) 100000 = 6 from (if_neg (by decide : ¬ (100000 : Nat) = 2)).trans ((congrFun (rwr_ne _ _ _ (by omega)) _).trans h6))).trans (congrArg (fun q => some (Sum.inr (6, q))) (sm_put (by decide) ⟨by omega, by omega⟩))) dX5_init_8 ?_
  have hF8w := hF6.wn (k := 600) (j := 2) (k2 := 601) (by omega) (by omega) (by omega)
  refine v_aload_n (C.wl _ _) dX5_init_11 rfl rfl ?_
  refine v_iconst (v := 0) (C.wl _ _) dX5_init_12 (by decide) ?_
  refine l_newB (T := 602) (N := 0) C hW9.L hF8w (by omega) (by omega) (tg2 212 rfl rfl) dX5_init_13 (Nat.le_of_ble_eq_true rfl) (Nat.le_of_ble_eq_true rfl) (fun ad13 hA13 => ?_)
  have hF13 := hF8w.new (by omega) (rN_R (kd := 3) (n := 0) (by omega) (by decide) (by omega))
  refine v_lo (lo' := [some (.ref (ad13 600))]) (by rw [hA13 600 (by omega)]) ?_
  refine v_st (st' := [.ref (ad13 602), .ref (ad13 600)]) (by rw [hA13 600 (by omega)]) ?_
  refine l_put (k := 600) (x := nI 602) C inG5 (ci := 6) rfl tyX5 tyX5_ok nmX5 3 (by decide) (tg5 7 rfl rfl) rfl rfl rfl rfl rfl (by decide) (cW_6 ((congrFun (rwr_ne _ _ _ (by omega)) _).trans ((wr_ne _ _ _ _ (by omega)).trans ((congrFun (rwr_ne _ _ _ (by omega)) _).trans h6)))) (Nat.le_of_ble_eq_true rfl) ((cW_6 (show upd (rwr (wr (rwr m 601 (rN 1 0)) 600 2 (nI 601)) 602 (rN 3 0) 600) 3 (nI 602) 100000 = 6 from (if_neg (by decide : ¬ (100000 : Nat) = 3)).trans ((congrFun (rwr_ne _ _ _ (by omega)) _).trans ((wr_ne _ _ _ _ (by omega)).trans ((congrFun (rwr_ne _ _ _ (by omega)) _).trans h6))))).trans (congrArg (fun q => some (Sum.inr (6, q))) (sm_put (by decide) ⟨by omega, by omega⟩))) dX5_init_16 ?_
  have hF16w := hF13.wn (k := 600) (j := 3) (k2 := 602) (by omega) (by omega) (by omega)
  refine v_aload_n (C.wl _ _) dX5_init_19 rfl rfl ?_
  refine v_bipush (v := 10) (C.wl _ _) dX5_init_20 (by decide) ?_
  refine l_newi (T := 603) (N := 10) C hF16w (by omega) (by omega) dX5_init_22 (Nat.le_of_ble_eq_true rfl) (Nat.le_of_ble_eq_true rfl) (fun ad22 hA22 => ?_)
  have hF22 := hF16w.new (by omega) (rN_R (kd := 1) (n := 10) (by omega) (by decide) (by omega))
  refine v_lo (lo' := [some (.ref (ad22 600))]) (by rw [hA22 600 (by omega)]) ?_
  refine v_st (st' := [.ref (ad22 603), .ref (ad22 600)]) (by rw [hA22 600 (by omega)]) ?_
  refine v_dup (C.wl _ _) dX5_init_24 rfl ?_
  refine v_iconst (v := 0) (C.wl _ _) dX5_init_25 (by decide) ?_
  refine v_iconst (v := (-1)) (C.wl _ _) dX5_init_26 (by decide) ?_
  refine l_iast (k := 603) (n := 10) (a := 0) C ⟨by omega, by omega⟩ ((congrFun (rwr_same _ _ _) _).trans (rN_k _ _)) ((congrFun (rwr_same _ _ _) _).trans (rN_l _ _)) (by decide) dX5_init_27 ?_
  have hF27w := hF22.wi (k := 603) (j := 0) (x := (-1)) (by omega) (by omega) ((congrFun (rwr_same _ _ _) _).trans (rN_k _ _))
  refine v_dup (C.wl _ _) dX5_init_28 rfl ?_
  refine v_iconst (v := 1) (C.wl _ _) dX5_init_29 (by decide) ?_
  refine v_iconst (v := (-1)) (C.wl _ _) dX5_init_30 (by decide) ?_
  refine l_iast (k := 603) (n := 10) (a := 1) C ⟨by omega, by omega⟩ ((wr_ne _ _ _ _ (by omega)).trans ((congrFun (rwr_same _ _ _) _).trans (rN_k _ _))) ((wr_ne _ _ _ _ (by omega)).trans ((congrFun (rwr_same _ _ _) _).trans (rN_l _ _))) (by decide) dX5_init_31 ?_
  have hF31w := hF27w.wi (k := 603) (j := 1) (x := (-1)) (by omega) (by omega) ((wr_ne _ _ _ _ (by omega)).trans ((congrFun (rwr_same _ _ _) _).trans (rN_k _ _)))
  refine v_dup (C.wl _ _) dX5_init_32 rfl ?_
  refine v_iconst (v := 2) (C.wl _ _) dX5_init_33 (by decide) ?_
  refine v_iconst (v := (-1)) (C.wl _ _) dX5_init_34 (by decide) ?_
  refine l_iast (k := 603) (n := 10) (a := 2) C ⟨by omega, by omega⟩ ((wr_ne _ _ _ _ (by omega)).trans ((wr_ne _ _ _ _ (by omega)).trans ((congrFun (rwr_same _ _ _) _).trans (rN_k _ _)))) ((wr_ne _ _ _ _ (by omega)).trans ((wr_ne _ _ _ _ (by omega)).trans ((congrFun (rwr_same _ _ _) _).trans (rN_l _ _)))) (by decide) dX5_init_35 ?_
  have hF35w := hF31w.wi (k := 603) (j := 2) (x := (-1)) (by omega) (by omega) ((wr_ne _ _ _ _ (by omega)).trans ((wr_ne _ _ _ _ (by omega)).trans ((congrFun (rwr_same _ _ _) _).trans (rN_k _ _))))
  refine v_dup (C.wl _ _) dX5_init_36 rfl ?_
  refine v_iconst (v := 3) (C.wl _ _) dX5_init_37 (by decide) ?_
  refine v_iconst (v := (-1)) (C.wl _ _) dX5_init_38 (by decide) ?_
  refine l_iast (k := 603) (n := 10) (a := 3) C ⟨by omega, by omega⟩ ((wr_ne _ _ _ _ (by omega)).trans ((wr_ne _ _ _ _ (by omega)).trans ((wr_ne _ _ _ _ (by omega)).trans ((congrFun (rwr_same _ _ _) _).trans (rN_k _ _))))) ((wr_ne _ _ _ _ (by omega)).trans ((wr_ne _ _ _ _ (by omega)).trans ((wr_ne _ _ _ _ (by omega)).trans ((congrFun (rwr_same _ _ _) _).trans (rN_l _ _))))) (by decide) dX5_init_39 ?_
  have hF39w := hF35w.wi (k := 603) (j := 3) (x := (-1)) (by omega) (by omega) ((wr_ne _ _ _ _ (by omega)).trans ((wr_ne _ _ _ _ (by omega)).trans ((wr_ne _ _ _ _ (by omega)).trans ((congrFun (rwr_same _ _ _) _).trans (rN_k _ _)))))
  refine v_dup (C.wl _ _) dX5_init_40 rfl ?_
  refine v_iconst (v := 4) (C.wl _ _) dX5_init_41 (by decide) ?_
  refine v_iconst (v := (-1)) (C.wl _ _) dX5_init_42 (by decide) ?_
  refine l_iast (k := 603) (n := 10) (a := 4) C ⟨by omega, by omega⟩ ((wr_ne _ _ _ _ (by omega)).trans ((wr_ne _ _ _ _ (by omega)).trans ((wr_ne _ _ _ _ (by omega)).trans ((wr_ne _ _ _ _ (by omega)).trans ((congrFun (rwr_same _ _ _) _).trans (rN_k _ _)))))) ((wr_ne _ _ _ _ (by omega)).trans ((wr_ne _ _ _ _ (by omega)).trans ((wr_ne _ _ _ _ (by omega)).trans ((wr_ne _ _ _ _ (by omega)).trans ((congrFun (rwr_same _ _ _) _).trans (rN_l _ _)))))) (by decide) dX5_init_43 ?_
  have hF43w := hF39w.wi (k := 603) (j := 4) (x := (-1)) (by omega) (by omega) ((wr_ne _ _ _ _ (by omega)).trans ((wr_ne _ _ _ _ (by omega)).trans ((wr_ne _ _ _ _ (by omega)).trans ((wr_ne _ _ _ _ (by omega)).trans ((congrFun (rwr_same _ _ _) _).trans (rN_k _ _))))))
  refine v_dup (C.wl _ _) dX5_init_44 rfl ?_
  refine v_iconst (v := 5) (C.wl _ _) dX5_init_45 (by decide) ?_
  refine v_iconst (v := (-1)) (C.wl _ _) dX5_init_46 (by decide) ?_
  refine l_iast (k := 603) (n := 10) (a := 5) C ⟨by omega, by omega⟩ ((wr_ne _ _ _ _ (by omega)).trans ((wr_ne _ _ _ _ (by omega)).trans ((wr_ne _ _ _ _ (by omega)).trans ((wr_ne _ _ _ _ (by omega)).trans ((wr_ne _ _ _ _ (by omega)).trans ((congrFun (rwr_same _ _ _) _).trans (rN_k _ _))))))) ((wr_ne _ _ _ _ (by omega)).trans ((wr_ne _ _ _ _ (by omega)).trans ((wr_ne _ _ _ _ (by omega)).trans ((wr_ne _ _ _ _ (by omega)).trans ((wr_ne _ _ _ _ (by omega)).trans ((congrFun (rwr_same _ _ _) _).trans (rN_l _ _))))))) (by decide) dX5_init_47 ?_
  have hF47w := hF43w.wi (k := 603) (j := 5) (x := (-1)) (by omega) (by omega) ((wr_ne _ _ _ _ (by omega)).trans ((wr_ne _ _ _ _ (by omega)).trans ((wr_ne _ _ _ _ (by omega)).trans ((wr_ne _ _ _ _ (by omega)).trans ((wr_ne _ _ _ _ (by omega)).trans ((congrFun (rwr_same _ _ _) _).trans (rN_k _ _)))))))
  refine v_dup (C.wl _ _) dX5_init_48 rfl ?_
  refine v_bipush (v := 6) (C.wl _ _) dX5_init_49 (by decide) ?_
  refine v_iconst (v := (-1)) (C.wl _ _) dX5_init_51 (by decide) ?_
  refine l_iast (k := 603) (n := 10) (a := 6) C ⟨by omega, by omega⟩ ((wr_ne _ _ _ _ (by omega)).trans ((wr_ne _ _ _ _ (by omega)).trans ((wr_ne _ _ _ _ (by omega)).trans ((wr_ne _ _ _ _ (by omega)).trans ((wr_ne _ _ _ _ (by omega)).trans ((wr_ne _ _ _ _ (by omega)).trans ((congrFun (rwr_same _ _ _) _).trans (rN_k _ _)))))))) ((wr_ne _ _ _ _ (by omega)).trans ((wr_ne _ _ _ _ (by omega)).trans ((wr_ne _ _ _ _ (by omega)).trans ((wr_ne _ _ _ _ (by omega)).trans ((wr_ne _ _ _ _ (by omega)).trans ((wr_ne _ _ _ _ (by omega)).trans ((congrFun (rwr_same _ _ _) _).trans (rN_l _ _)))))))) (by decide) dX5_init_52 ?_
  have hF52w := hF47w.wi (k := 603) (j := 6) (x := (-1)) (by omega) (by omega) ((wr_ne _ _ _ _ (by omega)).trans ((wr_ne _ _ _ _ (by omega)).trans ((wr_ne _ _ _ _ (by omega)).trans ((wr_ne _ _ _ _ (by omega)).trans ((wr_ne _ _ _ _ (by omega)).trans ((wr_ne _ _ _ _ (by omega)).trans ((congrFun (rwr_same _ _ _) _).trans (rN_k _ _))))))))
  refine v_dup (C.wl _ _) dX5_init_53 rfl ?_
  refine v_bipush (v := 7) (C.wl _ _) dX5_init_54 (by decide) ?_
  refine v_iconst (v := (-1)) (C.wl _ _) dX5_init_56 (by decide) ?_
  refine l_iast (k := 603) (n := 10) (a := 7) C ⟨by omega, by omega⟩ ((wr_ne _ _ _ _ (by omega)).trans ((wr_ne _ _ _ _ (by omega)).trans ((wr_ne _ _ _ _ (by omega)).trans ((wr_ne _ _ _ _ (by omega)).trans ((wr_ne _ _ _ _ (by omega)).trans ((wr_ne _ _ _ _ (by omega)).trans ((wr_ne _ _ _ _ (by omega)).trans ((congrFun (rwr_same _ _ _) _).trans (rN_k _ _))))))))) ((wr_ne _ _ _ _ (by omega)).trans ((wr_ne _ _ _ _ (by omega)).trans ((wr_ne _ _ _ _ (by omega)).trans ((wr_ne _ _ _ _ (by omega)).trans ((wr_ne _ _ _ _ (by omega)).trans ((wr_ne _ _ _ _ (by omega)).trans ((wr_ne _ _ _ _ (by omega)).trans ((congrFun (rwr_same _ _ _) _).trans (rN_l _ _))))))))) (by decide) dX5_init_57 ?_
  have hF57w := hF52w.wi (k := 603) (j := 7) (x := (-1)) (by omega) (by omega) ((wr_ne _ _ _ _ (by omega)).trans ((wr_ne _ _ _ _ (by omega)).trans ((wr_ne _ _ _ _ (by omega)).trans ((wr_ne _ _ _ _ (by omega)).trans ((wr_ne _ _ _ _ (by omega)).trans ((wr_ne _ _ _ _ (by omega)).trans ((wr_ne _ _ _ _ (by omega)).trans ((congrFun (rwr_same _ _ _) _).trans (rN_k _ _)))))))))
  refine v_dup (C.wl _ _) dX5_init_58 rfl ?_
  refine v_bipush (v := 8) (C.wl _ _) dX5_init_59 (by decide) ?_
  refine v_iconst (v := (-1)) (C.wl _ _) dX5_init_61 (by decide) ?_
  refine l_iast (k := 603) (n := 10) (a := 8) C ⟨by omega, by omega⟩ ((wr_ne _ _ _ _ (by omega)).trans ((wr_ne _ _ _ _ (by omega)).trans ((wr_ne _ _ _ _ (by omega)).trans ((wr_ne _ _ _ _ (by omega)).trans ((wr_ne _ _ _ _ (by omega)).trans ((wr_ne _ _ _ _ (by omega)).trans ((wr_ne _ _ _ _ (by omega)).trans ((wr_ne _ _ _ _ (by omega)).trans ((congrFun (rwr_same _ _ _) _).trans (rN_k _ _)))))))))) ((wr_ne _ _ _ _ (by omega)).trans ((wr_ne _ _ _ _ (by omega)).trans ((wr_ne _ _ _ _ (by omega)).trans ((wr_ne _ _ _ _ (by omega)).trans ((wr_ne _ _ _ _ (by omega)).trans ((wr_ne _ _ _ _ (by omega)).trans ((wr_ne _ _ _ _ (by omega)).trans ((wr_ne _ _ _ _ (by omega)).trans ((congrFun (rwr_same _ _ _) _).trans (rN_l _ _)))))))))) (by decide) dX5_init_62 ?_
  have hF62w := hF57w.wi (k := 603) (j := 8) (x := (-1)) (by omega) (by omega) ((wr_ne _ _ _ _ (by omega)).trans ((wr_ne _ _ _ _ (by omega)).trans ((wr_ne _ _ _ _ (by omega)).trans ((wr_ne _ _ _ _ (by omega)).trans ((wr_ne _ _ _ _ (by omega)).trans ((wr_ne _ _ _ _ (by omega)).trans ((wr_ne _ _ _ _ (by omega)).trans ((wr_ne _ _ _ _ (by omega)).trans ((congrFun (rwr_same _ _ _) _).trans (rN_k _ _))))))))))
  refine v_dup (C.wl _ _) dX5_init_63 rfl ?_
  refine v_bipush (v := 9) (C.wl _ _) dX5_init_64 (by decide) ?_
  refine v_iconst (v := (-1)) (C.wl _ _) dX5_init_66 (by decide) ?_
  refine l_iast (k := 603) (n := 10) (a := 9) C ⟨by omega, by omega⟩ ((wr_ne _ _ _ _ (by omega)).trans ((wr_ne _ _ _ _ (by omega)).trans ((wr_ne _ _ _ _ (by omega)).trans ((wr_ne _ _ _ _ (by omega)).trans ((wr_ne _ _ _ _ (by omega)).trans ((wr_ne _ _ _ _ (by omega)).trans ((wr_ne _ _ _ _ (by omega)).trans ((wr_ne _ _ _ _ (by omega)).trans ((wr_ne _ _ _ _ (by omega)).trans ((congrFun (rwr_same _ _ _) _).trans (rN_k _ _))))))))))) ((wr_ne _ _ _ _ (by omega)).trans ((wr_ne _ _ _ _ (by omega)).trans ((wr_ne _ _ _ _ (by omega)).trans ((wr_ne _ _ _ _ (by omega)).trans ((wr_ne _ _ _ _ (by omega)).trans ((wr_ne _ _ _ _ (by omega)).trans ((wr_ne _ _ _ _ (by omega)).trans ((wr_ne _ _ _ _ (by omega)).trans ((wr_ne _ _ _ _ (by omega)).trans ((congrFun (rwr_same _ _ _) _).trans (rN_l _ _))))))))))) (by decide) dX5_init_67 ?_
  have hF67w := hF62w.wi (k := 603) (j := 9) (x := (-1)) (by omega) (by omega) ((wr_ne _ _ _ _ (by omega)).trans ((wr_ne _ _ _ _ (by omega)).trans ((wr_ne _ _ _ _ (by omega)).trans ((wr_ne _ _ _ _ (by omega)).trans ((wr_ne _ _ _ _ (by omega)).trans ((wr_ne _ _ _ _ (by omega)).trans ((wr_ne _ _ _ _ (by omega)).trans ((wr_ne _ _ _ _ (by omega)).trans ((wr_ne _ _ _ _ (by omega)).trans ((congrFun (rwr_same _ _ _) _).trans (rN_k _ _)))))))))))
  refine l_put (k := 600) (x := nI 603) C inG5 (ci := 6) rfl tyX5 tyX5_ok nmX5 4 (by decide) (tg5 9 rfl rfl) rfl rfl rfl rfl rfl (by decide) (cW_6 ((wr_ne _ _ _ _ (by omega)).trans ((wr_ne _ _ _ _ (by omega)).trans ((wr_ne _ _ _ _ (by omega)).trans ((wr_ne _ _ _ _ (by omega)).trans ((wr_ne _ _ _ _ (by omega)).trans ((wr_ne _ _ _ _ (by omega)).trans ((wr_ne _ _ _ _ (by omega)).trans ((wr_ne _ _ _ _ (by omega)).trans ((wr_ne _ _ _ _ (by omega)).trans ((wr_ne _ _ _ _ (by omega)).trans ((congrFun (rwr_ne _ _ _ (by omega)) _).trans ((wr_ne _ _ _ _ (by omega)).trans ((congrFun (rwr_ne _ _ _ (by omega)) _).trans ((wr_ne _ _ _ _ (by omega)).trans ((congrFun (rwr_ne _ _ _ (by omega)) _).trans h6)))))))))))))))) (Nat.le_of_ble_eq_true rfl) ((cW_6 (show upd (wr (wr (wr (wr (wr (wr (wr (wr (wr (wr (rwr (wr (rwr (wr (rwr m 601 (rN 1 0)) 600 2 (nI 601)) 602 (rN 3 0)) 600 3 (nI 602)) 603 (rN 1 10)) 603 0 (-1)) 603 1 (-1)) 603 2 (-1)) 603 3 (-1)) 603 4 (-1)) 603 5 (-1)) 603 6 (-1)) 603 7 (-1)) 603 8 (-1)) 603 9 (-1) 600) 4 (nI 603) 100000 = 6 from (if_neg (by decide : ¬ (100000 : Nat) = 4)).trans ((wr_ne _ _ _ _ (by omega)).trans ((wr_ne _ _ _ _ (by omega)).trans ((wr_ne _ _ _ _ (by omega)).trans ((wr_ne _ _ _ _ (by omega)).trans ((wr_ne _ _ _ _ (by omega)).trans ((wr_ne _ _ _ _ (by omega)).trans ((wr_ne _ _ _ _ (by omega)).trans ((wr_ne _ _ _ _ (by omega)).trans ((wr_ne _ _ _ _ (by omega)).trans ((wr_ne _ _ _ _ (by omega)).trans ((congrFun (rwr_ne _ _ _ (by omega)) _).trans ((wr_ne _ _ _ _ (by omega)).trans ((congrFun (rwr_ne _ _ _ (by omega)) _).trans ((wr_ne _ _ _ _ (by omega)).trans ((congrFun (rwr_ne _ _ _ (by omega)) _).trans h6))))))))))))))))).trans (congrArg (fun q => some (Sum.inr (6, q))) (sm_put (by decide) ⟨by omega, by omega⟩))) dX5_init_68 ?_
  have hF68w := hF67w.wn (k := 600) (j := 4) (k2 := 603) (by omega) (by omega) (by omega)
  refine v_aload_n (C.wl _ _) dX5_init_71 rfl rfl ?_
  refine v_iconst (v := 4) (C.wl _ _) dX5_init_72 (by decide) ?_
  refine l_newA (T := 604) (N := 4) C hW9.L hF68w (by omega) (by omega) (tg2 213 rfl rfl) dX5_init_73 (Nat.le_of_ble_eq_true rfl) (Nat.le_of_ble_eq_true rfl) (fun ad73 hA73 => ?_)
  have hF73 := hF68w.new (by omega) (rN_R (kd := 2) (n := 4) (by omega) (by decide) (by omega))
  refine v_lo (lo' := [some (.ref (ad73 600))]) (by rw [hA73 600 (by omega)]) ?_
  refine v_st (st' := [.ref (ad73 604), .ref (ad73 600)]) (by rw [hA73 600 (by omega)]) ?_
  refine v_dup (C.wl _ _) dX5_init_76 rfl ?_
  refine v_iconst (v := 0) (C.wl _ _) dX5_init_77 (by decide) ?_
  refine v_iconst (v := 2) (C.wl _ _) dX5_init_78 (by decide) ?_
  refine l_newi (T := 605) (N := 2) C hF73 (by omega) (by omega) dX5_init_79 (Nat.le_of_ble_eq_true rfl) (Nat.le_of_ble_eq_true rfl) (fun ad79 hA79 => ?_)
  have hF79 := hF73.new (by omega) (rN_R (kd := 1) (n := 2) (by omega) (by decide) (by omega))
  refine v_lo (lo' := [some (.ref (ad79 600))]) (by rw [hA79 600 (by omega)]) ?_
  refine v_st (st' := [.ref (ad79 605), .int 0, .ref (ad79 604), .ref (ad79 604), .ref (ad79 600)]) (by rw [hA79 604 (by omega), hA79 600 (by omega)]) ?_
  refine v_dup (C.wl _ _) dX5_init_81 rfl ?_
  refine v_iconst (v := 0) (C.wl _ _) dX5_init_82 (by decide) ?_
  refine v_iconst (v := 3) (C.wl _ _) dX5_init_83 (by decide) ?_
  refine l_iast (k := 605) (n := 2) (a := 0) C ⟨by omega, by omega⟩ ((congrFun (rwr_same _ _ _) _).trans (rN_k _ _)) ((congrFun (rwr_same _ _ _) _).trans (rN_l _ _)) (by decide) dX5_init_84 ?_
  have hF84w := hF79.wi (k := 605) (j := 0) (x := 3) (by omega) (by omega) ((congrFun (rwr_same _ _ _) _).trans (rN_k _ _))
  refine v_dup (C.wl _ _) dX5_init_85 rfl ?_
  refine v_iconst (v := 1) (C.wl _ _) dX5_init_86 (by decide) ?_
  refine v_iconst (v := 5) (C.wl _ _) dX5_init_87 (by decide) ?_
  refine l_iast (k := 605) (n := 2) (a := 1) C ⟨by omega, by omega⟩ ((wr_ne _ _ _ _ (by omega)).trans ((congrFun (rwr_same _ _ _) _).trans (rN_k _ _))) ((wr_ne _ _ _ _ (by omega)).trans ((congrFun (rwr_same _ _ _) _).trans (rN_l _ _))) (by decide) dX5_init_88 ?_
  have hF88w := hF84w.wi (k := 605) (j := 1) (x := 5) (by omega) (by omega) ((wr_ne _ _ _ _ (by omega)).trans ((congrFun (rwr_same _ _ _) _).trans (rN_k _ _)))
  refine l_aast (k := 604) (n := 4) (a := 0) (k2 := 605) (n2 := 2) C hW9.L ⟨by omega, by omega⟩ ((wr_ne _ _ _ _ (by omega)).trans ((wr_ne _ _ _ _ (by omega)).trans ((congrFun (rwr_ne _ _ _ (by omega)) _).trans ((congrFun (rwr_same _ _ _) _).trans (rN_k _ _))))) ((wr_ne _ _ _ _ (by omega)).trans ((wr_ne _ _ _ _ (by omega)).trans ((congrFun (rwr_ne _ _ _ (by omega)) _).trans ((congrFun (rwr_same _ _ _) _).trans (rN_l _ _))))) (by decide) ⟨by omega, by omega⟩ ((wr_ne _ _ _ _ (by omega)).trans ((wr_ne _ _ _ _ (by omega)).trans ((congrFun (rwr_same _ _ _) _).trans (rN_k _ _)))) ((wr_ne _ _ _ _ (by omega)).trans ((wr_ne _ _ _ _ (by omega)).trans ((congrFun (rwr_same _ _ _) _).trans (rN_l _ _)))) (by omega) dX5_init_89 ?_
  have hF89w := hF88w.wn (k := 604) (j := 0) (k2 := 605) (by omega) (by omega) (by omega)
  refine v_dup (C.wl _ _) dX5_init_90 rfl ?_
  refine v_iconst (v := 1) (C.wl _ _) dX5_init_91 (by decide) ?_
  refine v_iconst (v := 2) (C.wl _ _) dX5_init_92 (by decide) ?_
  refine l_newi (T := 606) (N := 2) C hF89w (by omega) (by omega) dX5_init_93 (Nat.le_of_ble_eq_true rfl) (Nat.le_of_ble_eq_true rfl) (fun ad93 hA93 => ?_)
  have hF93 := hF89w.new (by omega) (rN_R (kd := 1) (n := 2) (by omega) (by decide) (by omega))
  refine v_lo (lo' := [some (.ref (ad93 600))]) (by rw [hA93 600 (by omega)]) ?_
  refine v_st (st' := [.ref (ad93 606), .int 1, .ref (ad93 604), .ref (ad93 604), .ref (ad93 600)]) (by rw [hA93 604 (by omega), hA93 600 (by omega)]) ?_
  refine v_dup (C.wl _ _) dX5_init_95 rfl ?_
  refine v_iconst (v := 0) (C.wl _ _) dX5_init_96 (by decide) ?_
  refine v_iconst (v := 3) (C.wl _ _) dX5_init_97 (by decide) ?_
  refine l_iast (k := 606) (n := 2) (a := 0) C ⟨by omega, by omega⟩ ((congrFun (rwr_same _ _ _) _).trans (rN_k _ _)) ((congrFun (rwr_same _ _ _) _).trans (rN_l _ _)) (by decide) dX5_init_98 ?_
  have hF98w := hF93.wi (k := 606) (j := 0) (x := 3) (by omega) (by omega) ((congrFun (rwr_same _ _ _) _).trans (rN_k _ _))
  refine v_dup (C.wl _ _) dX5_init_99 rfl ?_
  refine v_iconst (v := 1) (C.wl _ _) dX5_init_100 (by decide) ?_
  refine v_iconst (v := 5) (C.wl _ _) dX5_init_101 (by decide) ?_
  refine l_iast (k := 606) (n := 2) (a := 1) C ⟨by omega, by omega⟩ ((wr_ne _ _ _ _ (by omega)).trans ((congrFun (rwr_same _ _ _) _).trans (rN_k _ _))) ((wr_ne _ _ _ _ (by omega)).trans ((congrFun (rwr_same _ _ _) _).trans (rN_l _ _))) (by decide) dX5_init_102 ?_
  have hF102w := hF98w.wi (k := 606) (j := 1) (x := 5) (by omega) (by omega) ((wr_ne _ _ _ _ (by omega)).trans ((congrFun (rwr_same _ _ _) _).trans (rN_k _ _)))
  refine l_aast (k := 604) (n := 4) (a := 1) (k2 := 606) (n2 := 2) C hW9.L ⟨by omega, by omega⟩ ((wr_ne _ _ _ _ (by omega)).trans ((wr_ne _ _ _ _ (by omega)).trans ((congrFun (rwr_ne _ _ _ (by omega)) _).trans ((wr_ne _ _ _ _ (by omega)).trans ((wr_ne _ _ _ _ (by omega)).trans ((wr_ne _ _ _ _ (by omega)).trans ((congrFun (rwr_ne _ _ _ (by omega)) _).trans ((congrFun (rwr_same _ _ _) _).trans (rN_k _ _))))))))) ((wr_ne _ _ _ _ (by omega)).trans ((wr_ne _ _ _ _ (by omega)).trans ((congrFun (rwr_ne _ _ _ (by omega)) _).trans ((wr_ne _ _ _ _ (by omega)).trans ((wr_ne _ _ _ _ (by omega)).trans ((wr_ne _ _ _ _ (by omega)).trans ((congrFun (rwr_ne _ _ _ (by omega)) _).trans ((congrFun (rwr_same _ _ _) _).trans (rN_l _ _))))))))) (by decide) ⟨by omega, by omega⟩ ((wr_ne _ _ _ _ (by omega)).trans ((wr_ne _ _ _ _ (by omega)).trans ((congrFun (rwr_same _ _ _) _).trans (rN_k _ _)))) ((wr_ne _ _ _ _ (by omega)).trans ((wr_ne _ _ _ _ (by omega)).trans ((congrFun (rwr_same _ _ _) _).trans (rN_l _ _)))) (by omega) dX5_init_103 ?_
  have hF103w := hF102w.wn (k := 604) (j := 1) (k2 := 606) (by omega) (by omega) (by omega)
  refine v_dup (C.wl _ _) dX5_init_104 rfl ?_
  refine v_iconst (v := 2) (C.wl _ _) dX5_init_105 (by decide) ?_
  refine v_iconst (v := 2) (C.wl _ _) dX5_init_106 (by decide) ?_
  refine l_newi (T := 607) (N := 2) C hF103w (by omega) (by omega) dX5_init_107 (Nat.le_of_ble_eq_true rfl) (Nat.le_of_ble_eq_true rfl) (fun ad107 hA107 => ?_)
  have hF107 := hF103w.new (by omega) (rN_R (kd := 1) (n := 2) (by omega) (by decide) (by omega))
  refine v_lo (lo' := [some (.ref (ad107 600))]) (by rw [hA107 600 (by omega)]) ?_
  refine v_st (st' := [.ref (ad107 607), .int 2, .ref (ad107 604), .ref (ad107 604), .ref (ad107 600)]) (by rw [hA107 604 (by omega), hA107 600 (by omega)]) ?_
  refine v_dup (C.wl _ _) dX5_init_109 rfl ?_
  refine v_iconst (v := 0) (C.wl _ _) dX5_init_110 (by decide) ?_
  refine v_iconst (v := 3) (C.wl _ _) dX5_init_111 (by decide) ?_
  refine l_iast (k := 607) (n := 2) (a := 0) C ⟨by omega, by omega⟩ ((congrFun (rwr_same _ _ _) _).trans (rN_k _ _)) ((congrFun (rwr_same _ _ _) _).trans (rN_l _ _)) (by decide) dX5_init_112 ?_
  have hF112w := hF107.wi (k := 607) (j := 0) (x := 3) (by omega) (by omega) ((congrFun (rwr_same _ _ _) _).trans (rN_k _ _))
  refine v_dup (C.wl _ _) dX5_init_113 rfl ?_
  refine v_iconst (v := 1) (C.wl _ _) dX5_init_114 (by decide) ?_
  refine v_iconst (v := 5) (C.wl _ _) dX5_init_115 (by decide) ?_
  refine l_iast (k := 607) (n := 2) (a := 1) C ⟨by omega, by omega⟩ ((wr_ne _ _ _ _ (by omega)).trans ((congrFun (rwr_same _ _ _) _).trans (rN_k _ _))) ((wr_ne _ _ _ _ (by omega)).trans ((congrFun (rwr_same _ _ _) _).trans (rN_l _ _))) (by decide) dX5_init_116 ?_
  have hF116w := hF112w.wi (k := 607) (j := 1) (x := 5) (by omega) (by omega) ((wr_ne _ _ _ _ (by omega)).trans ((congrFun (rwr_same _ _ _) _).trans (rN_k _ _)))
  refine l_aast (k := 604) (n := 4) (a := 2) (k2 := 607) (n2 := 2) C hW9.L ⟨by omega, by omega⟩ ((wr_ne _ _ _ _ (by omega)).trans ((wr_ne _ _ _ _ (by omega)).trans ((congrFun (rwr_ne _ _ _ (by omega)) _).trans ((wr_ne _ _ _ _ (by omega)).trans ((wr_ne _ _ _ _ (by omega)).trans ((wr_ne _ _ _ _ (by omega)).trans ((congrFun (rwr_ne _ _ _ (by omega)) _).trans ((wr_ne _ _ _ _ (by omega)).trans ((wr_ne _ _ _ _ (by omega)).trans ((wr_ne _ _ _ _ (by omega)).trans ((congrFun (rwr_ne _ _ _ (by omega)) _).trans ((congrFun (rwr_same _ _ _) _).trans (rN_k _ _))))))))))))) ((wr_ne _ _ _ _ (by omega)).trans ((wr_ne _ _ _ _ (by omega)).trans ((congrFun (rwr_ne _ _ _ (by omega)) _).trans ((wr_ne _ _ _ _ (by omega)).trans ((wr_ne _ _ _ _ (by omega)).trans ((wr_ne _ _ _ _ (by omega)).trans ((congrFun (rwr_ne _ _ _ (by omega)) _).trans ((wr_ne _ _ _ _ (by omega)).trans ((wr_ne _ _ _ _ (by omega)).trans ((wr_ne _ _ _ _ (by omega)).trans ((congrFun (rwr_ne _ _ _ (by omega)) _).trans ((congrFun (rwr_same _ _ _) _).trans (rN_l _ _))))))))))))) (by decide) ⟨by omega, by omega⟩ ((wr_ne _ _ _ _ (by omega)).trans ((wr_ne _ _ _ _ (by omega)).trans ((congrFun (rwr_same _ _ _) _).trans (rN_k _ _)))) ((wr_ne _ _ _ _ (by omega)).trans ((wr_ne _ _ _ _ (by omega)).trans ((congrFun (rwr_same _ _ _) _).trans (rN_l _ _)))) (by omega) dX5_init_117 ?_
  have hF117w := hF116w.wn (k := 604) (j := 2) (k2 := 607) (by omega) (by omega) (by omega)
  refine v_dup (C.wl _ _) dX5_init_118 rfl ?_
  refine v_iconst (v := 3) (C.wl _ _) dX5_init_119 (by decide) ?_
  refine v_iconst (v := 2) (C.wl _ _) dX5_init_120 (by decide) ?_
  refine l_newi (T := 608) (N := 2) C hF117w (by omega) (by omega) dX5_init_121 (Nat.le_of_ble_eq_true rfl) (Nat.le_of_ble_eq_true rfl) (fun ad121 hA121 => ?_)
  have hF121 := hF117w.new (by omega) (rN_R (kd := 1) (n := 2) (by omega) (by decide) (by omega))
  refine v_lo (lo' := [some (.ref (ad121 600))]) (by rw [hA121 600 (by omega)]) ?_
  refine v_st (st' := [.ref (ad121 608), .int 3, .ref (ad121 604), .ref (ad121 604), .ref (ad121 600)]) (by rw [hA121 604 (by omega), hA121 600 (by omega)]) ?_
  refine v_dup (C.wl _ _) dX5_init_123 rfl ?_
  refine v_iconst (v := 0) (C.wl _ _) dX5_init_124 (by decide) ?_
  refine v_iconst (v := 3) (C.wl _ _) dX5_init_125 (by decide) ?_
  refine l_iast (k := 608) (n := 2) (a := 0) C ⟨by omega, by omega⟩ ((congrFun (rwr_same _ _ _) _).trans (rN_k _ _)) ((congrFun (rwr_same _ _ _) _).trans (rN_l _ _)) (by decide) dX5_init_126 ?_
  have hF126w := hF121.wi (k := 608) (j := 0) (x := 3) (by omega) (by omega) ((congrFun (rwr_same _ _ _) _).trans (rN_k _ _))
  refine v_dup (C.wl _ _) dX5_init_127 rfl ?_
  refine v_iconst (v := 1) (C.wl _ _) dX5_init_128 (by decide) ?_
  refine v_iconst (v := 5) (C.wl _ _) dX5_init_129 (by decide) ?_
  refine l_iast (k := 608) (n := 2) (a := 1) C ⟨by omega, by omega⟩ ((wr_ne _ _ _ _ (by omega)).trans ((congrFun (rwr_same _ _ _) _).trans (rN_k _ _))) ((wr_ne _ _ _ _ (by omega)).trans ((congrFun (rwr_same _ _ _) _).trans (rN_l _ _))) (by decide) dX5_init_130 ?_
  have hF130w := hF126w.wi (k := 608) (j := 1) (x := 5) (by omega) (by omega) ((wr_ne _ _ _ _ (by omega)).trans ((congrFun (rwr_same _ _ _) _).trans (rN_k _ _)))
  refine l_aast (k := 604) (n := 4) (a := 3) (k2 := 608) (n2 := 2) C hW9.L ⟨by omega, by omega⟩ ((wr_ne _ _ _ _ (by omega)).trans ((wr_ne _ _ _ _ (by omega)).trans ((congrFun (rwr_ne _ _ _ (by omega)) _).trans ((wr_ne _ _ _ _ (by omega)).trans ((wr_ne _ _ _ _ (by omega)).trans ((wr_ne _ _ _ _ (by omega)).trans ((congrFun (rwr_ne _ _ _ (by omega)) _).trans ((wr_ne _ _ _ _ (by omega)).trans ((wr_ne _ _ _ _ (by omega)).trans ((wr_ne _ _ _ _ (by omega)).trans ((congrFun (rwr_ne _ _ _ (by omega)) _).trans ((wr_ne _ _ _ _ (by omega)).trans ((wr_ne _ _ _ _ (by omega)).trans ((wr_ne _ _ _ _ (by omega)).trans ((congrFun (rwr_ne _ _ _ (by omega)) _).trans ((congrFun (rwr_same _ _ _) _).trans (rN_k _ _))))))))))))))))) ((wr_ne _ _ _ _ (by omega)).trans ((wr_ne _ _ _ _ (by omega)).trans ((congrFun (rwr_ne _ _ _ (by omega)) _).trans ((wr_ne _ _ _ _ (by omega)).trans ((wr_ne _ _ _ _ (by omega)).trans ((wr_ne _ _ _ _ (by omega)).trans ((congrFun (rwr_ne _ _ _ (by omega)) _).trans ((wr_ne _ _ _ _ (by omega)).trans ((wr_ne _ _ _ _ (by omega)).trans ((wr_ne _ _ _ _ (by omega)).trans ((congrFun (rwr_ne _ _ _ (by omega)) _).trans ((wr_ne _ _ _ _ (by omega)).trans ((wr_ne _ _ _ _ (by omega)).trans ((wr_ne _ _ _ _ (by omega)).trans ((congrFun (rwr_ne _ _ _ (by omega)) _).trans ((congrFun (rwr_same _ _ _) _).trans (rN_l _ _))))))))))))))))) (by decide) ⟨by omega, by omega⟩ ((wr_ne _ _ _ _ (by omega)).trans ((wr_ne _ _ _ _ (by omega)).trans ((congrFun (rwr_same _ _ _) _).trans (rN_k _ _)))) ((wr_ne _ _ _ _ (by omega)).trans ((wr_ne _ _ _ _ (by omega)).trans ((congrFun (rwr_same _ _ _) _).trans (rN_l _ _)))) (by omega) dX5_init_131 ?_
  have hF131w := hF130w.wn (k := 604) (j := 3) (k2 := 608) (by omega) (by omega) (by omega)
  refine l_put (k := 600) (x := nI 604) C inG5 (ci := 6) rfl tyX5 tyX5_ok nmX5 5 (by decide) (tg5 11 rfl rfl) rfl rfl rfl rfl rfl (by decide) (cW_6 ((wr_ne _ _ _ _ (by omega)).trans ((wr_ne _ _ _ _ (by omega)).trans ((wr_ne _ _ _ _ (by omega)).trans ((congrFun (rwr_ne _ _ _ (by omega)) _).trans ((wr_ne _ _ _ _ (by omega)).trans ((wr_ne _ _ _ _ (by omega)).trans ((wr_ne _ _ _ _ (by omega)).trans ((congrFun (rwr_ne _ _ _ (by omega)) _).trans ((wr_ne _ _ _ _ (by omega)).trans ((wr_ne _ _ _ _ (by omega)).trans ((wr_ne _ _ _ _ (by omega)).trans ((congrFun (rwr_ne _ _ _ (by omega)) _).trans ((wr_ne _ _ _ _ (by omega)).trans ((wr_ne _ _ _ _ (by omega)).trans ((wr_ne _ _ _ _ (by omega)).trans ((congrFun (rwr_ne _ _ _ (by omega)) _).trans ((congrFun (rwr_ne _ _ _ (by omega)) _).trans ((wr_ne _ _ _ _ (by omega)).trans ((wr_ne _ _ _ _ (by omega)).trans ((wr_ne _ _ _ _ (by omega)).trans ((wr_ne _ _ _ _ (by omega)).trans ((wr_ne _ _ _ _ (by omega)).trans ((wr_ne _ _ _ _ (by omega)).trans ((wr_ne _ _ _ _ (by omega)).trans ((wr_ne _ _ _ _ (by omega)).trans ((wr_ne _ _ _ _ (by omega)).trans ((wr_ne _ _ _ _ (by omega)).trans ((wr_ne _ _ _ _ (by omega)).trans ((congrFun (rwr_ne _ _ _ (by omega)) _).trans ((wr_ne _ _ _ _ (by omega)).trans ((congrFun (rwr_ne _ _ _ (by omega)) _).trans ((wr_ne _ _ _ _ (by omega)).trans ((congrFun (rwr_ne _ _ _ (by omega)) _).trans h6)))))))))))))))))))))))))))))))))) (Nat.le_of_ble_eq_true rfl) ((cW_6 (show upd (wr (wr (wr (rwr (wr (wr (wr (rwr (wr (wr (wr (rwr (wr (wr (wr (rwr (rwr (wr (wr (wr (wr (wr (wr (wr (wr (wr (wr (wr (rwr (wr (rwr (wr (rwr m 601 (rN 1 0)) 600 2 (nI 601)) 602 (rN 3 0)) 600 3 (nI 602)) 603 (rN 1 10)) 603 0 (-1)) 603 1 (-1)) 603 2 (-1)) 603 3 (-1)) 603 4 (-1)) 603 5 (-1)) 603 6 (-1)) 603 7 (-1)) 603 8 (-1)) 603 9 (-1)) 600 4 (nI 603)) 604 (rN 2 4)) 605 (rN 1 2)) 605 0 3) 605 1 5) 604 0 (nI 605)) 606 (rN 1 2)) 606 0 3) 606 1 5) 604 1 (nI 606)) 607 (rN 1 2)) 607 0 3) 607 1 5) 604 2 (nI 607)) 608 (rN 1 2)) 608 0 3) 608 1 5) 604 3 (nI 608) 600) 5 (nI 604) 100000 = 6 from (if_neg (by decide : ¬ (100000 : Nat) = 5)).trans ((wr_ne _ _ _ _ (by omega)).trans ((wr_ne _ _ _ _ (by omega)).trans ((wr_ne _ _ _ _ (by omega)).trans ((congrFun (rwr_ne _ _ _ (by omega)) _).trans ((wr_ne _ _ _ _ (by omega)).trans ((wr_ne _ _ _ _ (by omega)).trans ((wr_ne _ _ _ _ (by omega)).trans ((congrFun (rwr_ne _ _ _ (by omega)) _).trans ((wr_ne _ _ _ _ (by omega)).trans ((wr_ne _ _ _ _ (by omega)).trans ((wr_ne _ _ _ _ (by omega)).trans ((congrFun (rwr_ne _ _ _ (by omega)) _).trans ((wr_ne _ _ _ _ (by omega)).trans ((wr_ne _ _ _ _ (by omega)).trans ((wr_ne _ _ _ _ (by omega)).trans ((congrFun (rwr_ne _ _ _ (by omega)) _).trans ((congrFun (rwr_ne _ _ _ (by omega)) _).trans ((wr_ne _ _ _ _ (by omega)).trans ((wr_ne _ _ _ _ (by omega)).trans ((wr_ne _ _ _ _ (by omega)).trans ((wr_ne _ _ _ _ (by omega)).trans ((wr_ne _ _ _ _ (by omega)).trans ((wr_ne _ _ _ _ (by omega)).trans ((wr_ne _ _ _ _ (by omega)).trans ((wr_ne _ _ _ _ (by omega)).trans ((wr_ne _ _ _ _ (by omega)).trans ((wr_ne _ _ _ _ (by omega)).trans ((wr_ne _ _ _ _ (by omega)).trans ((congrFun (rwr_ne _ _ _ (by omega)) _).trans ((wr_ne _ _ _ _ (by omega)).trans ((congrFun (rwr_ne _ _ _ (by omega)) _).trans ((wr_ne _ _ _ _ (by omega)).trans ((congrFun (rwr_ne _ _ _ (by omega)) _).trans h6))))))))))))))))))))))))))))))))))).trans (congrArg (fun q => some (Sum.inr (6, q))) (sm_put (by decide) ⟨by omega, by omega⟩))) dX5_init_132 ?_
  have hF132w := hF131w.wn (k := 600) (j := 5) (k2 := 604) (by omega) (by omega) (by omega)
  refine v_aload_n (C.wl _ _) dX5_init_135 rfl rfl ?_
  refine v_iconst (v := 0) (C.wl _ _) dX5_init_136 (by decide) ?_
  refine l_newP (T := 609) (N := 0) C hW9.L hF132w (by omega) (by omega) (tg3 74 rfl rfl) dX5_init_137 (Nat.le_of_ble_eq_true rfl) (Nat.le_of_ble_eq_true rfl) (fun ad137 hA137 => ?_)
  have hF137 := hF132w.new (by omega) (rN_R (kd := 4) (n := 0) (by omega) (by decide) (by omega))
  refine v_lo (lo' := [some (.ref (ad137 600))]) (by rw [hA137 600 (by omega)]) ?_
  refine v_st (st' := [.ref (ad137 609), .ref (ad137 600)]) (by rw [hA137 600 (by omega)]) ?_
  refine l_put (k := 600) (x := nI 609) C inG5 (ci := 6) rfl tyX5 tyX5_ok nmX5 6 (by decide) (tg5 13 rfl rfl) rfl rfl rfl rfl rfl (by decide) (cW_6 ((congrFun (rwr_ne _ _ _ (by omega)) _).trans ((wr_ne _ _ _ _ (by omega)).trans ((wr_ne _ _ _ _ (by omega)).trans ((wr_ne _ _ _ _ (by omega)).trans ((wr_ne _ _ _ _ (by omega)).trans ((congrFun (rwr_ne _ _ _ (by omega)) _).trans ((wr_ne _ _ _ _ (by omega)).trans ((wr_ne _ _ _ _ (by omega)).trans ((wr_ne _ _ _ _ (by omega)).trans ((congrFun (rwr_ne _ _ _ (by omega)) _).trans ((wr_ne _ _ _ _ (by omega)).trans ((wr_ne _ _ _ _ (by omega)).trans ((wr_ne _ _ _ _ (by omega)).trans ((congrFun (rwr_ne _ _ _ (by omega)) _).trans ((wr_ne _ _ _ _ (by omega)).trans ((wr_ne _ _ _ _ (by omega)).trans ((wr_ne _ _ _ _ (by omega)).trans ((congrFun (rwr_ne _ _ _ (by omega)) _).trans ((congrFun (rwr_ne _ _ _ (by omega)) _).trans ((wr_ne _ _ _ _ (by omega)).trans ((wr_ne _ _ _ _ (by omega)).trans ((wr_ne _ _ _ _ (by omega)).trans ((wr_ne _ _ _ _ (by omega)).trans ((wr_ne _ _ _ _ (by omega)).trans ((wr_ne _ _ _ _ (by omega)).trans ((wr_ne _ _ _ _ (by omega)).trans ((wr_ne _ _ _ _ (by omega)).trans ((wr_ne _ _ _ _ (by omega)).trans ((wr_ne _ _ _ _ (by omega)).trans ((wr_ne _ _ _ _ (by omega)).trans ((congrFun (rwr_ne _ _ _ (by omega)) _).trans ((wr_ne _ _ _ _ (by omega)).trans ((congrFun (rwr_ne _ _ _ (by omega)) _).trans ((wr_ne _ _ _ _ (by omega)).trans ((congrFun (rwr_ne _ _ _ (by omega)) _).trans h6)))))))))))))))))))))))))))))))))))) (Nat.le_of_ble_eq_true rfl) ((cW_6 (show upd (rwr (wr (wr (wr (wr (rwr (wr (wr (wr (rwr (wr (wr (wr (rwr (wr (wr (wr (rwr (rwr (wr (wr (wr (wr (wr (wr (wr (wr (wr (wr (wr (rwr (wr (rwr (wr (rwr m 601 (rN 1 0)) 600 2 (nI 601)) 602 (rN 3 0)) 600 3 (nI 602)) 603 (rN 1 10)) 603 0 (-1)) 603 1 (-1)) 603 2 (-1)) 603 3 (-1)) 603 4 (-1)) 603 5 (-1)) 603 6 (-1)) 603 7 (-1)) 603 8 (-1)) 603 9 (-1)) 600 4 (nI 603)) 604 (rN 2 4)) 605 (rN 1 2)) 605 0 3) 605 1 5) 604 0 (nI 605)) 606 (rN 1 2)) 606 0 3) 606 1 5) 604 1 (nI 606)) 607 (rN 1 2)) 607 0 3) 607 1 5) 604 2 (nI 607)) 608 (rN 1 2)) 608 0 3) 608 1 5) 604 3 (nI 608)) 600 5 (nI 604)) 609 (rN 4 0) 600) 6 (nI 609) 100000 = 6 from (if_neg (by decide : ¬ (100000 : Nat) = 6)).trans ((congrFun (rwr_ne _ _ _ (by omega)) _).trans ((wr_ne _ _ _ _ (by omega)).trans ((wr_ne _ _ _ _ (by omega)).trans ((wr_ne _ _ _ _ (by omega)).trans ((wr_ne _ _ _ _ (by omega)).trans ((congrFun (rwr_ne _ _ _ (by omega)) _).trans ((wr_ne _ _ _ _ (by omega)).trans ((wr_ne _ _ _ _ (by omega)).trans ((wr_ne _ _ _ _ (by omega)).trans ((congrFun (rwr_ne _ _ _ (by omega)) _).trans ((wr_ne _ _ _ _ (by omega)).trans ((wr_ne _ _ _ _ (by omega)).trans ((wr_ne _ _ _ _ (by omega)).trans ((congrFun (rwr_ne _ _ _ (by omega)) _).trans ((wr_ne _ _ _ _ (by omega)).trans ((wr_ne _ _ _ _ (by omega)).trans ((wr_ne _ _ _ _ (by omega)).trans ((congrFun (rwr_ne _ _ _ (by omega)) _).trans ((congrFun (rwr_ne _ _ _ (by omega)) _).trans ((wr_ne _ _ _ _ (by omega)).trans ((wr_ne _ _ _ _ (by omega)).trans ((wr_ne _ _ _ _ (by omega)).trans ((wr_ne _ _ _ _ (by omega)).trans ((wr_ne _ _ _ _ (by omega)).trans ((wr_ne _ _ _ _ (by omega)).trans ((wr_ne _ _ _ _ (by omega)).trans ((wr_ne _ _ _ _ (by omega)).trans ((wr_ne _ _ _ _ (by omega)).trans ((wr_ne _ _ _ _ (by omega)).trans ((wr_ne _ _ _ _ (by omega)).trans ((congrFun (rwr_ne _ _ _ (by omega)) _).trans ((wr_ne _ _ _ _ (by omega)).trans ((congrFun (rwr_ne _ _ _ (by omega)) _).trans ((wr_ne _ _ _ _ (by omega)).trans ((congrFun (rwr_ne _ _ _ (by omega)) _).trans h6))))))))))))))))))))))))))))))))))))).trans (congrArg (fun q => some (Sum.inr (6, q))) (sm_put (by decide) ⟨by omega, by omega⟩))) dX5_init_140 ?_
  have hF140w := hF137.wn (k := 600) (j := 6) (k2 := 609) (by omega) (by omega) (by omega)
  refine v_wide (k := 9) (n := 40) (Nat.le_of_ble_eq_true rfl) (Nat.le_of_ble_eq_true rfl) ?_
  refine ret _ _ _ _ _ dX5_init_143 ⟨fun k hk => by rw [hA137 k (by omega), hA121 k (by omega), hA107 k (by omega), hA93 k (by omega), hA79 k (by omega), hA73 k (by omega), hA22 k (by omega), hA13 k (by omega), hA6 k (by omega)], ?_, hF140w, rfl⟩
  refine ⟨⟨?_, ?_, ?_, ?_, ?_, ?_, ?_, ?_⟩, ⟨?_, ?_⟩, ⟨?_, ?_⟩, ⟨⟨?_, ?_⟩, fun j hj => ?_⟩, ⟨⟨?_, ?_⟩, fun t ht => ?_⟩, ⟨?_, ?_⟩⟩
  · simp [wr, rwr, rN, h6]
  · simp [wr, rwr, rN, h6]
  · simp [wr, rwr, rN, h6]
  · simp [wr, rwr, rN, h6]
  · simp [wr, rwr, rN, h6]
  · simp [wr, rwr, rN, h6]
  · simp [wr, rwr, rN, h6]
  · simp [wr, rwr, rN, h6]
  · simp [wr, rwr, rN, h6]
  · simp [wr, rwr, rN, h6]
  · simp [wr, rwr, rN, h6]
  · simp [wr, rwr, rN, h6]
  · simp [wr, rwr, rN, h6]
  · simp [wr, rwr, rN, h6]
  · rcases j with _ | _ | _ | _ | _ | _ | _ | _ | _ | _ | j
    · simp [wr, rwr, rN]
    · simp [wr, rwr, rN]
    · simp [wr, rwr, rN]
    · simp [wr, rwr, rN]
    · simp [wr, rwr, rN]
    · simp [wr, rwr, rN]
    · simp [wr, rwr, rN]
    · simp [wr, rwr, rN]
    · simp [wr, rwr, rN]
    · simp [wr, rwr, rN]
    · omega
  · simp [wr, rwr, rN]
  · simp [wr, rwr, rN]
  · rcases t with _ | _ | _ | _ | t
    · simp [wr, rwr, rN, isA]
    · simp [wr, rwr, rN, isA]
    · simp [wr, rwr, rN, isA]
    · simp [wr, rwr, rN, isA]
    · omega
  · simp [wr, rwr, rN]
  · simp [wr, rwr, rN]
