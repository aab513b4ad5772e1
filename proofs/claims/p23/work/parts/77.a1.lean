/-! THE LAW'S METHODS that make: a poster, its copy, longer rows -/
/-- a new poster at K: its four empty rows come at T to T + 3 -/
def pinM (m : MG) (K T : Nat) : MG := fun k => if k = T then rN 2 0 else if k = T + 1 then rN 1 0 else if k = T + 2 then rN 1 0 else if k = T + 3 then rN 2 0 else if k = K then (fun j => if j = 2 then nI T else if j = 5 then nI (T + 1) else if j = 6 then nI (T + 2) else if j = 7 then nI (T + 3) else m K j) else m k
set_option maxRecDepth 100000 in
theorem l_pinit (l : Launch) (Z : Zc) (ad : Nat → Nat) (m g : MG) (T : Nat) (hF : Fr m T) (K : Nat) (hT : T + 4 ≤ 1200) (hK : 600 ≤ K ∧ K < T) (h5 : m K 100000 = 5) : LMv l yX4_init cX4_init 1 (rmz 1 30 4 10) Z [.ref (ad K)] ad m g (fun ad' m' g' => (∀ k, k < T → ad' k = ad k) ∧ m' = pinM m K T ∧ Fr m' (T + 4) ∧ g' = g) := by
  have h6 := hF.1.1
  refine ent_lv (own := RX4) (lo := [some (.ref (ad K))]) (by decide) rfl (by simp [lg_sl, Value.category]) rfl (fun P hl C hW9 ret => ?_)
  refine v_aload_n (C.wl _ _) dX4_init_0 rfl rfl ?_
  refine l_objInit (C.wl _ _) (tg2 172 rfl rfl) dX4_init_1 (Nat.le_of_ble_eq_true rfl) (Nat.le_of_ble_eq_true rfl) ?_
  refine v_aload_n (C.wl _ _) dX4_init_4 rfl rfl ?_
  refine v_iconst (v := 0) (C.wl _ _) dX4_init_5 (by decide) ?_
  refine l_newA (T := T) (N := 0) C hW9.L hF (by omega) (by omega) (tg2 173 rfl rfl) dX4_init_6 (Nat.le_of_ble_eq_true rfl) (Nat.le_of_ble_eq_true rfl) (fun ad6 hA6 => ?_)
  have hF6 := hF.new (by omega) (rN_R (kd := 2) (n := 0) (by omega) (by decide) (by omega))
  refine v_lo (lo' := [some (.ref (ad6 K))]) (by rw [hA6 K (by omega)]) ?_
  refine v_st (st' := [.ref (ad6 T), .ref (ad6 K)]) (by rw [hA6 K (by omega)]) ?_
  refine l_put (k := K) (x := nI T) C inG4 (ci := 5) rfl tyX4 tyX4_ok nmX4 2 (by decide) (tg2 181 rfl rfl) rfl rfl rfl rfl rfl ⟨hK.1, by omega⟩ (cW_5 ((congrFun (rwr_ne _ _ _ (by omega)) _).trans h5)) (Nat.le_of_ble_eq_true rfl) ((cW_5 (show upd (rwr m T (rN 2 0) K) 2 (nI T) 100000 = 5 from (if_neg (by decide : ¬ (100000 : Nat) = 2)).trans ((congrFun (rwr_ne _ _ _ (by omega)) _).trans h5))).trans (congrArg (fun q => some (Sum.inr (5, q))) (ps_put (by decide) ⟨by omega, by omega⟩))) dX4_init_9 ?_
  have hF9w := hF6.wn (k := K) (j := 2) (k2 := T) (by omega) (by omega) (by omega)
  refine v_aload_n (C.wl _ _) dX4_init_12 rfl rfl ?_
  refine v_iconst (v := 0) (C.wl _ _) dX4_init_13 (by decide) ?_
  refine l_newi (T := T + 1) (N := 0) C hF9w (by omega) (by omega) dX4_init_14 (Nat.le_of_ble_eq_true rfl) (Nat.le_of_ble_eq_true rfl) (fun ad14 hA14 => ?_)
  have hF14 := hF9w.new (by omega) (rN_R (kd := 1) (n := 0) (by omega) (by decide) (by omega))
  refine v_lo (lo' := [some (.ref (ad14 K))]) (by rw [hA14 K (by omega)]) ?_
  refine v_st (st' := [.ref (ad14 (T + 1)), .ref (ad14 K)]) (by rw [hA14 K (by omega)]) ?_
  refine l_put (k := K) (x := nI (T + 1)) C inG4 (ci := 5) rfl tyX4 tyX4_ok nmX4 5 (by decide) (tg2 189 rfl rfl) rfl rfl rfl rfl rfl ⟨hK.1, by omega⟩ (cW_5 ((congrFun (rwr_ne _ _ _ (by omega)) _).trans ((wr_ne _ _ _ _ (by omega)).trans ((congrFun (rwr_ne _ _ _ (by omega)) _).trans h5)))) (Nat.le_of_ble_eq_true rfl) ((cW_5 (show upd (rwr (wr (rwr m T (rN 2 0)) K 2 (nI T)) (T + 1) (rN 1 0) K) 5 (nI (T + 1)) 100000 = 5 from (if_neg (by decide : ¬ (100000 : Nat) = 5)).trans ((congrFun (rwr_ne _ _ _ (by omega)) _).trans ((wr_ne _ _ _ _ (by omega)).trans ((congrFun (rwr_ne _ _ _ (by omega)) _).trans h5))))).trans (congrArg (fun q => some (Sum.inr (5, q))) (ps_put (by decide) ⟨by omega, by omega⟩))) dX4_init_16 ?_
  have hF16w := hF14.wn (k := K) (j := 5) (k2 := T + 1) (by omega) (by omega) (by omega)
  refine v_aload_n (C.wl _ _) dX4_init_19 rfl rfl ?_
  refine v_iconst (v := 0) (C.wl _ _) dX4_init_20 (by decide) ?_
  refine l_newi (T := T + 2) (N := 0) C hF16w (by omega) (by omega) dX4_init_21 (Nat.le_of_ble_eq_true rfl) (Nat.le_of_ble_eq_true rfl) (fun ad21 hA21 => ?_)
  have hF21 := hF16w.new (by omega) (rN_R (kd := 1) (n := 0) (by omega) (by decide) (by omega))
  refine v_lo (lo' := [some (.ref (ad21 K))]) (by rw [hA21 K (by omega)]) ?_
  refine v_st (st' := [.ref (ad21 (T + 2)), .ref (ad21 K)]) (by rw [hA21 K (by omega)]) ?_
  refine l_put (k := K) (x := nI (T + 2)) C inG4 (ci := 5) rfl tyX4 tyX4_ok nmX4 6 (by decide) (tg2 191 rfl rfl) rfl rfl rfl rfl rfl ⟨hK.1, by omega⟩ (cW_5 ((congrFun (rwr_ne _ _ _ (by omega)) _).trans ((wr_ne _ _ _ _ (by omega)).trans ((congrFun (rwr_ne _ _ _ (by omega)) _).trans ((wr_ne _ _ _ _ (by omega)).trans ((congrFun (rwr_ne _ _ _ (by omega)) _).trans h5)))))) (Nat.le_of_ble_eq_true rfl) ((cW_5 (show upd (rwr (wr (rwr (wr (rwr m T (rN 2 0)) K 2 (nI T)) (T + 1) (rN 1 0)) K 5 (nI (T + 1))) (T + 2) (rN 1 0) K) 6 (nI (T + 2)) 100000 = 5 from (if_neg (by decide : ¬ (100000 : Nat) = 6)).trans ((congrFun (rwr_ne _ _ _ (by omega)) _).trans ((wr_ne _ _ _ _ (by omega)).trans ((congrFun (rwr_ne _ _ _ (by omega)) _).trans ((wr_ne _ _ _ _ (by omega)).trans ((congrFun (rwr_ne _ _ _ (by omega)) _).trans h5))))))).trans (congrArg (fun q => some (Sum.inr (5, q))) (ps_put (by decide) ⟨by omega, by omega⟩))) dX4_init_23 ?_
  have hF23w := hF21.wn (k := K) (j := 6) (k2 := T + 2) (by omega) (by omega) (by omega)
  refine v_aload_n (C.wl _ _) dX4_init_26 rfl rfl ?_
  refine v_iconst (v := 0) (C.wl _ _) dX4_init_27 (by decide) ?_
  refine l_newA (T := T + 3) (N := 0) C hW9.L hF23w (by omega) (by omega) (tg2 173 rfl rfl) dX4_init_28 (Nat.le_of_ble_eq_true rfl) (Nat.le_of_ble_eq_true rfl) (fun ad28 hA28 => ?_)
  have hF28 := hF23w.new (by omega) (rN_R (kd := 2) (n := 0) (by omega) (by decide) (by omega))
  refine v_lo (lo' := [some (.ref (ad28 K))]) (by rw [hA28 K (by omega)]) ?_
  refine v_st (st' := [.ref (ad28 (T + 3)), .ref (ad28 K)]) (by rw [hA28 K (by omega)]) ?_
  refine l_put (k := K) (x := nI (T + 3)) C inG4 (ci := 5) rfl tyX4 tyX4_ok nmX4 7 (by decide) (tg2 193 rfl rfl) rfl rfl rfl rfl rfl ⟨hK.1, by omega⟩ (cW_5 ((congrFun (rwr_ne _ _ _ (by omega)) _).trans ((wr_ne _ _ _ _ (by omega)).trans ((congrFun (rwr_ne _ _ _ (by omega)) _).trans ((wr_ne _ _ _ _ (by omega)).trans ((congrFun (rwr_ne _ _ _ (by omega)) _).trans ((wr_ne _ _ _ _ (by omega)).trans ((congrFun (rwr_ne _ _ _ (by omega)) _).trans h5)))))))) (Nat.le_of_ble_eq_true rfl) ((cW_5 (show upd (rwr (wr (rwr (wr (rwr (wr (rwr m T (rN 2 0)) K 2 (nI T)) (T + 1) (rN 1 0)) K 5 (nI (T + 1))) (T + 2) (rN 1 0)) K 6 (nI (T + 2))) (T + 3) (rN 2 0) K) 7 (nI (T + 3)) 100000 = 5 from (if_neg (by decide : ¬ (100000 : Nat) = 7)).trans ((congrFun (rwr_ne _ _ _ (by omega)) _).trans ((wr_ne _ _ _ _ (by omega)).trans ((congrFun (rwr_ne _ _ _ (by omega)) _).trans ((wr_ne _ _ _ _ (by omega)).trans ((congrFun (rwr_ne _ _ _ (by omega)) _).trans ((wr_ne _ _ _ _ (by omega)).trans ((congrFun (rwr_ne _ _ _ (by omega)) _).trans h5))))))))).trans (congrArg (fun q => some (Sum.inr (5, q))) (ps_put (by decide) ⟨by omega, by omega⟩))) dX4_init_31 ?_
  have hF31w := hF28.wn (k := K) (j := 7) (k2 := T + 3) (by omega) (by omega) (by omega)
  refine v_wide (k := 4) (n := 10) (Nat.le_of_ble_eq_true rfl) (Nat.le_of_ble_eq_true rfl) ?_
  refine ret _ _ _ _ _ dX4_init_34 ⟨fun k hk => by rw [hA28 k (by omega), hA21 k (by omega), hA14 k (by omega), hA6 k (by omega)], ?_, hF31w, rfl⟩
  funext k j
  simp only [pinM, rwr, wr]
  by_cases k0 : k = T
  · simp [wr, rwr, k0, show ¬ T = K by omega, show ¬ T = T + 1 by omega, show ¬ T = T + 1 + 1 by omega, show ¬ T = T + 1 + 1 + 1 by omega]
  by_cases k1 : k = T + 1
  · simp [wr, rwr, k1, show ¬ T + 1 = K by omega]
  by_cases k2 : k = T + 2
  · simp [wr, rwr, k2, show ¬ T + 2 = K by omega]
  by_cases k3 : k = T + 3
  · simp [wr, rwr, k3, show ¬ T + 3 = K by omega]
  by_cases k4 : k = K
  · subst k4
    by_cases j7 : j = 7
    · simp [wr, rwr, j7, k0, k1, k2, k3]
    · by_cases j6 : j = 6
      · simp [wr, rwr, j6, k0, k1, k2, k3]
      · by_cases j5 : j = 5
        · simp [wr, rwr, j5, k0, k1, k2, k3]
        · by_cases j2 : j = 2
          · simp [wr, rwr, j2, k0, k1, k2, k3]
          · simp [wr, rwr, j2, j5, j6, j7, k0, k1, k2, k3]
  · simp [wr, rwr, k0, k1, k2, k3, k4]
set_option maxRecDepth 100000 in
theorem l_moreP (l : Launch) (Z : Zc) (ad : Nat → Nat) (m g : MG) (T : Nat) (hF : Fr m T) (A B n : Nat) (kq : Nat → Nat) (hT : T + 1 ≤ 1200) (hA : 600 ≤ A ∧ A < T) (hq : isQ m 4 A n) (hn : n < 100) (hr : ∀ i, i < n → m A i = nI (kq i) ∧ 600 ≤ kq i ∧ kq i < T ∧ m (kq i) 100000 = 5) (hBk : 600 ≤ B ∧ B < T) (hB : m B 100000 = 5) : LMq l yX5_more cX5_more 4 (some (.array (.object "PosterTypesLaw$Poster"))) (rmz 1 30 1 100) Z [.ref (ad A), .ref (ad B)] ad m g (fun v ad' m' g' => ∃ r, v = some (ad' T) ∧ (∀ k, k < T → ad' k = ad k) ∧ m' = rwr m T r ∧ r 100000 = 4 ∧ r 100001 = nI (n + 1) ∧ (∀ i, i < n → r i = m A i) ∧ r n = nI B ∧ Fr m' (T + 1) ∧ g' = g) := by
  have h6 := hF.1.1
  refine ent_lq (own := RX5) (lo := [some (.ref (ad A)), some (.ref (ad B)), none, none]) (Or.inr ⟨_, rfl⟩) (by decide) rfl (by simp [lg_sl, Value.category]) rfl (fun P hl C hW9 ret => ?_)
  have loop : ∀ (ad1 : Nat → Nat), (∀ k, k ≠ T → ad1 k = ad k) → ∀ (d i : Nat) (r : Nat → Int32), n - i < d → i ≤ n → r 100000 = 4 → r 100001 = nI (n + 1) → (∀ i', i' < i → r i' = m A i') → Fr (rwr m T r) (T + 1) → V P (rmz 1 30 1 100) (Z.wl ad1 (rwr m T r)) [some (.ref (ad1 A)), some (.ref (ad1 B)), some (.ref (ad1 T)), some (.int (nI i))] 10 [] g 1 100 := by
    intro ad1 hA1 d
    induction d with
    | zero => intro i r hn; exact absurd hn (Nat.not_lt_zero _)
    | succ d ih =>
      intro i r hni hi r1 r2 r3 hFr
      refine v_iload_n (C.wl _ _) dX5_more_10 rfl rfl ?_
      refine v_aload_n (C.wl _ _) dX5_more_11 rfl rfl ?_
      refine l_len (k := A) (n := n) C ⟨hA.1, by omega⟩ (Or.inr (Or.inr (Or.inr ((congrFun (rwr_ne _ _ _ (by omega)) _).trans hq.1)))) ((congrFun (rwr_ne _ _ _ (by omega)) _).trans hq.2) (by omega) dX5_more_12 ?_
      refine v_icmp_ge (tgt := 28) (C.wl _ _) dX5_more_13 (by decide) (fun h13 => ?_) (fun h13 => ?_)
      · have hkn13 : i = n := Nat.le_antisymm hi ((nI_leI (by omega) (by omega)).mp h13)
        subst hkn13
        refine v_aload_n (C.wl _ _) dX5_more_28 rfl rfl ?_
        refine v_aload_n (C.wl _ _) dX5_more_29 rfl rfl ?_
        refine l_len (k := A) (n := i) C ⟨hA.1, by omega⟩ (Or.inr (Or.inr (Or.inr ((congrFun (rwr_ne _ _ _ (by omega)) _).trans hq.1)))) ((congrFun (rwr_ne _ _ _ (by omega)) _).trans hq.2) (by omega) dX5_more_30 ?_
        refine v_aload_n (C.wl _ _) dX5_more_31 rfl rfl ?_
        refine l_aastP (k := T) (n := i + 1) (a := i) (k2 := B) C ⟨by omega, by omega⟩ ((congrFun (rwr_same _ _ _) _).trans r1) ((congrFun (rwr_same _ _ _) _).trans r2) (by omega) ⟨hBk.1, by omega⟩ ((congrFun (rwr_ne _ _ _ (by omega)) _).trans hB) dX5_more_32 ?_
        have ew : wr (rwr m T r) T i (nI B) = rwr m T (upd r i (nI B)) := by rw [wr_rwr, rwr_same]; funext q; unfold rwr; split <;> rfl
        have hFw := hFr.wn (k := T) (j := i) (k2 := B) (by omega) (by omega) (by omega)
        rw [ew] at hFw ⊢
        refine v_aload_n (C.wl _ _) dX5_more_33 rfl rfl ?_
        exact ret _ _ (some (ad1 T)) _ _ _ dX5_more_34 ⟨_, rfl, fun k hk => hA1 k (by omega), rfl, (if_neg (by omega)).trans r1, (if_neg (by omega)).trans r2, fun i' hi' => (if_neg (by omega)).trans (r3 i' hi'), if_pos rfl, hFw, rfl⟩
      · have hkn13 : i < n := Nat.lt_of_not_le fun q => h13 ((nI_leI (by omega) (by omega)).mpr q)
        refine v_aload_n (C.wl _ _) dX5_more_16 rfl rfl ?_
        refine v_iload_n (C.wl _ _) dX5_more_17 rfl rfl ?_
        refine v_aload_n (C.wl _ _) dX5_more_18 rfl rfl ?_
        refine v_iload_n (C.wl _ _) dX5_more_19 rfl rfl ?_
        refine l_aald (k := A) (n := n) (a := i) (k2 := kq i) C ⟨hA.1, by omega⟩ (Or.inr (Or.inr ((congrFun (rwr_ne _ _ _ (by omega)) _).trans hq.1))) ((congrFun (rwr_ne _ _ _ (by omega)) _).trans hq.2) (by omega) ((congrFun (rwr_ne _ _ _ (by omega)) _).trans (hr i hkn13).1) ⟨(hr i hkn13).2.1, by have := (hr i hkn13).2.2.1; omega⟩ dX5_more_20 ?_
        refine l_aastP (k := T) (n := n + 1) (a := i) (k2 := kq i) C ⟨by omega, by omega⟩ ((congrFun (rwr_same _ _ _) _).trans r1) ((congrFun (rwr_same _ _ _) _).trans r2) (by omega) ⟨(hr i hkn13).2.1, by have := (hr i hkn13).2.2.1; omega⟩ ((congrFun (rwr_ne _ _ _ (by have := (hr i hkn13).2.2.1; omega)) _).trans (hr i hkn13).2.2.2) dX5_more_21 ?_
        refine v_iinc (lo' := [some (.ref (ad1 A)), some (.ref (ad1 B)), some (.ref (ad1 T)), some (.int ((nI i) + 1))]) (C.wl _ _) dX5_more_22 rfl rfl rfl rfl ?_
        refine v_goto (tgt := 10) (C.wl _ _) dX5_more_25 (by decide) ?_
        refine v_lo (lo' := [some (.ref (ad1 A)), some (.ref (ad1 B)), some (.ref (ad1 T)), some (.int (nI (i + 1)))]) (by rw [nI_succ]) ?_
        have ew : wr (rwr m T r) T i (nI (kq i)) = rwr m T (upd r i (nI (kq i))) := by rw [wr_rwr, rwr_same]; funext q; unfold rwr; split <;> rfl
        have hFw := hFr.wn (k := T) (j := i) (k2 := kq i) (by omega) (by omega) (by have := (hr i hkn13).2.2.1; omega)
        rw [ew] at hFw ⊢
        exact ih (i + 1) _ (by omega) (by omega) ((if_neg (by omega)).trans r1) ((if_neg (by omega)).trans r2) (fun i' hi' => by unfold upd; by_cases h : i' = i; (· rw [if_pos h, h]; exact (hr i hkn13).1.symm); (· rw [if_neg h]; exact r3 i' (by omega))) hFw
  refine v_aload_n (C.wl _ _) dX5_more_0 rfl rfl ?_
  refine l_len (k := A) (n := n) C ⟨hA.1, by omega⟩ (Or.inr (Or.inr (Or.inr hq.1))) hq.2 (by omega) dX5_more_1 ?_
  refine v_iconst (v := 1) (C.wl _ _) dX5_more_2 (by decide) ?_
  refine v_iadd (C.wl _ _) dX5_more_3 ?_
  refine v_topi (y := nI (n + 1)) (nI_add n 1) ?_
  refine l_newP (T := T) (N := (n + 1)) C hW9.L hF (by omega) (by omega) (tg3 74 rfl rfl) dX5_more_4 (Nat.le_of_ble_eq_true rfl) (by show 0 + (n + 1) ≤ 100; omega) (fun ad4 hA4 => ?_)
  have hF4 := hF.new (by omega) (rN_R (kd := 4) (n := (n + 1)) (by omega) (by decide) (by omega))
  refine v_lo (lo' := [some (.ref (ad4 A)), some (.ref (ad4 B)), none, none]) (by rw [hA4 A (by omega), hA4 B (by omega)]) ?_
  refine v_astore_n (lo' := [some (.ref (ad4 A)), some (.ref (ad4 B)), some (.ref (ad4 T)), none]) (C.wl _ _) dX5_more_7 rfl (Nat.le_of_ble_eq_true rfl) rfl rfl ?_
  refine v_iconst (v := 0) (C.wl _ _) dX5_more_8 (by decide) ?_
  refine v_istore_n (lo' := [some (.ref (ad4 A)), some (.ref (ad4 B)), some (.ref (ad4 T)), some (.int 0)]) (C.wl _ _) dX5_more_9 rfl (Nat.le_of_ble_eq_true rfl) rfl rfl ?_
  refine v_lo (lo' := [some (.ref (ad4 A)), some (.ref (ad4 B)), some (.ref (ad4 T)), some (.int (nI 0))]) rfl ?_
  refine v_wide (k := 1) (n := 100) (Nat.le_of_ble_eq_true rfl) (by show 0 + (n + 1) ≤ 100; omega) ?_
  exact loop _ hA4 _ 0 _ (Nat.lt_succ_self _) (Nat.zero_le _) (rN_k _ _) (rN_l _ _) (fun i' hi' => absurd hi' (Nat.not_lt_zero _)) hF4
set_option maxRecDepth 100000 in
theorem l_moreR (l : Launch) (Z : Zc) (ad : Nat → Nat) (m g : MG) (T : Nat) (hF : Fr m T) (A B n : Nat) (kq : Nat → Nat) (hT : T + 1 ≤ 1200) (hA : 600 ≤ A ∧ A < T) (hq : isQ m 2 A n) (hn : n < 100) (hr : ∀ i, i < n → m A i = nI (kq i) ∧ 600 ≤ kq i ∧ kq i < T ∧ ∃ z, z < 1000 ∧ isA m (kq i) z) (hBk : 600 ≤ B ∧ B < T) (nB : Nat) (hnB : nB < 1000) (hB : isA m B nB) : LMq l yX5_more_ cX5_more_ 4 (some (.array (.array .int))) (rmz 1 30 1 100) Z [.ref (ad A), .ref (ad B)] ad m g (fun v ad' m' g' => ∃ r, v = some (ad' T) ∧ (∀ k, k < T → ad' k = ad k) ∧ m' = rwr m T r ∧ r 100000 = 2 ∧ r 100001 = nI (n + 1) ∧ (∀ i, i < n → r i = m A i) ∧ r n = nI B ∧ Fr m' (T + 1) ∧ g' = g) := by
  have h6 := hF.1.1
  refine ent_lq (own := RX5) (lo := [some (.ref (ad A)), some (.ref (ad B)), none, none]) (Or.inr ⟨_, rfl⟩) (by decide) rfl (by simp [lg_sl, Value.category]) rfl (fun P hl C hW9 ret => ?_)
  have loop : ∀ (ad1 : Nat → Nat), (∀ k, k ≠ T → ad1 k = ad k) → ∀ (d i : Nat) (r : Nat → Int32), n - i < d → i ≤ n → r 100000 = 2 → r 100001 = nI (n + 1) → (∀ i', i' < i → r i' = m A i') → Fr (rwr m T r) (T + 1) → V P (rmz 1 30 1 100) (Z.wl ad1 (rwr m T r)) [some (.ref (ad1 A)), some (.ref (ad1 B)), some (.ref (ad1 T)), some (.int (nI i))] 10 [] g 1 100 := by
    intro ad1 hA1 d
    induction d with
    | zero => intro i r hn; exact absurd hn (Nat.not_lt_zero _)
    | succ d ih =>
      intro i r hni hi r1 r2 r3 hFr
      refine v_iload_n (C.wl _ _) dX5_more__10 rfl rfl ?_
      refine v_aload_n (C.wl _ _) dX5_more__11 rfl rfl ?_
      refine l_len (k := A) (n := n) C ⟨hA.1, by omega⟩ (Or.inr (Or.inl ((congrFun (rwr_ne _ _ _ (by omega)) _).trans hq.1))) ((congrFun (rwr_ne _ _ _ (by omega)) _).trans hq.2) (by omega) dX5_more__12 ?_
      refine v_icmp_ge (tgt := 28) (C.wl _ _) dX5_more__13 (by decide) (fun h13 => ?_) (fun h13 => ?_)
      · have hkn13 : i = n := Nat.le_antisymm hi ((nI_leI (by omega) (by omega)).mp h13)
        subst hkn13
        refine v_aload_n (C.wl _ _) dX5_more__28 rfl rfl ?_
        refine v_aload_n (C.wl _ _) dX5_more__29 rfl rfl ?_
        refine l_len (k := A) (n := i) C ⟨hA.1, by omega⟩ (Or.inr (Or.inl ((congrFun (rwr_ne _ _ _ (by omega)) _).trans hq.1))) ((congrFun (rwr_ne _ _ _ (by omega)) _).trans hq.2) (by omega) dX5_more__30 ?_
        refine v_aload_n (C.wl _ _) dX5_more__31 rfl rfl ?_
        refine l_aast (k := T) (n := i + 1) (a := i) (k2 := B) (n2 := nB) C hW9.L ⟨by omega, by omega⟩ ((congrFun (rwr_same _ _ _) _).trans r1) ((congrFun (rwr_same _ _ _) _).trans r2) (by omega) ⟨hBk.1, by omega⟩ ((congrFun (rwr_ne _ _ _ (by omega)) _).trans hB.1) ((congrFun (rwr_ne _ _ _ (by omega)) _).trans hB.2) hnB dX5_more__32 ?_
        have ew : wr (rwr m T r) T i (nI B) = rwr m T (upd r i (nI B)) := by rw [wr_rwr, rwr_same]; funext q; unfold rwr; split <;> rfl
        have hFw := hFr.wn (k := T) (j := i) (k2 := B) (by omega) (by omega) (by omega)
        rw [ew] at hFw ⊢
        refine v_aload_n (C.wl _ _) dX5_more__33 rfl rfl ?_
        exact ret _ _ (some (ad1 T)) _ _ _ dX5_more__34 ⟨_, rfl, fun k hk => hA1 k (by omega), rfl, (if_neg (by omega)).trans r1, (if_neg (by omega)).trans r2, fun i' hi' => (if_neg (by omega)).trans (r3 i' hi'), if_pos rfl, hFw, rfl⟩
      · have hkn13 : i < n := Nat.lt_of_not_le fun q => h13 ((nI_leI (by omega) (by omega)).mpr q)
        obtain ⟨z, hz0, hz⟩ := (hr i hkn13).2.2.2
        refine v_aload_n (C.wl _ _) dX5_more__16 rfl rfl ?_
        refine v_iload_n (C.wl _ _) dX5_more__17 rfl rfl ?_
        refine v_aload_n (C.wl _ _) dX5_more__18 rfl rfl ?_
        refine v_iload_n (C.wl _ _) dX5_more__19 rfl rfl ?_
        refine l_aald (k := A) (n := n) (a := i) (k2 := kq i) C ⟨hA.1, by omega⟩ (Or.inl ((congrFun (rwr_ne _ _ _ (by omega)) _).trans hq.1)) ((congrFun (rwr_ne _ _ _ (by omega)) _).trans hq.2) (by omega) ((congrFun (rwr_ne _ _ _ (by omega)) _).trans (hr i hkn13).1) ⟨(hr i hkn13).2.1, by have := (hr i hkn13).2.2.1; omega⟩ dX5_more__20 ?_
        refine l_aast (k := T) (n := n + 1) (a := i) (k2 := kq i) (n2 := z) C hW9.L ⟨by omega, by omega⟩ ((congrFun (rwr_same _ _ _) _).trans r1) ((congrFun (rwr_same _ _ _) _).trans r2) (by omega) ⟨(hr i hkn13).2.1, by have := (hr i hkn13).2.2.1; omega⟩ ((congrFun (rwr_ne _ _ _ (by have := (hr i hkn13).2.2.1; omega)) _).trans hz.1) ((congrFun (rwr_ne _ _ _ (by have := (hr i hkn13).2.2.1; omega)) _).trans hz.2) hz0 dX5_more__21 ?_
        refine v_iinc (lo' := [some (.ref (ad1 A)), some (.ref (ad1 B)), some (.ref (ad1 T)), some (.int ((nI i) + 1))]) (C.wl _ _) dX5_more__22 rfl rfl rfl rfl ?_
        refine v_goto (tgt := 10) (C.wl _ _) dX5_more__25 (by decide) ?_
        refine v_lo (lo' := [some (.ref (ad1 A)), some (.ref (ad1 B)), some (.ref (ad1 T)), some (.int (nI (i + 1)))]) (by rw [nI_succ]) ?_
        have ew : wr (rwr m T r) T i (nI (kq i)) = rwr m T (upd r i (nI (kq i))) := by rw [wr_rwr, rwr_same]; funext q; unfold rwr; split <;> rfl
        have hFw := hFr.wn (k := T) (j := i) (k2 := kq i) (by omega) (by omega) (by have := (hr i hkn13).2.2.1; omega)
        rw [ew] at hFw ⊢
        exact ih (i + 1) _ (by omega) (by omega) ((if_neg (by omega)).trans r1) ((if_neg (by omega)).trans r2) (fun i' hi' => by unfold upd; by_cases h : i' = i; (· rw [if_pos h, h]; exact (hr i hkn13).1.symm); (· rw [if_neg h]; exact r3 i' (by omega))) hFw
  refine v_aload_n (C.wl _ _) dX5_more__0 rfl rfl ?_
  refine l_len (k := A) (n := n) C ⟨hA.1, by omega⟩ (Or.inr (Or.inl hq.1)) hq.2 (by omega) dX5_more__1 ?_
  refine v_iconst (v := 1) (C.wl _ _) dX5_more__2 (by decide) ?_
  refine v_iadd (C.wl _ _) dX5_more__3 ?_
  refine v_topi (y := nI (n + 1)) (nI_add n 1) ?_
  refine l_newA (T := T) (N := (n + 1)) C hW9.L hF (by omega) (by omega) (tg2 213 rfl rfl) dX5_more__4 (Nat.le_of_ble_eq_true rfl) (by show 0 + (n + 1) ≤ 100; omega) (fun ad4 hA4 => ?_)
  have hF4 := hF.new (by omega) (rN_R (kd := 2) (n := (n + 1)) (by omega) (by decide) (by omega))
  refine v_lo (lo' := [some (.ref (ad4 A)), some (.ref (ad4 B)), none, none]) (by rw [hA4 A (by omega), hA4 B (by omega)]) ?_
  refine v_astore_n (lo' := [some (.ref (ad4 A)), some (.ref (ad4 B)), some (.ref (ad4 T)), none]) (C.wl _ _) dX5_more__7 rfl (Nat.le_of_ble_eq_true rfl) rfl rfl ?_
  refine v_iconst (v := 0) (C.wl _ _) dX5_more__8 (by decide) ?_
  refine v_istore_n (lo' := [some (.ref (ad4 A)), some (.ref (ad4 B)), some (.ref (ad4 T)), some (.int 0)]) (C.wl _ _) dX5_more__9 rfl (Nat.le_of_ble_eq_true rfl) rfl rfl ?_
  refine v_lo (lo' := [some (.ref (ad4 A)), some (.ref (ad4 B)), some (.ref (ad4 T)), some (.int (nI 0))]) rfl ?_
  refine v_wide (k := 1) (n := 100) (Nat.le_of_ble_eq_true rfl) (by show 0 + (n + 1) ≤ 100; omega) ?_
  exact loop _ hA4 _ 0 _ (Nat.lt_succ_self _) (Nat.zero_le _) (rN_k _ _) (rN_l _ _) (fun i' hi' => absurd hi' (Nat.not_lt_zero _)) hF4
/-- a copy's row -/
def cpR (r : Nat → Int32) : Nat → Int32 := fun j => if j < 8 then r j else rN 5 0 j
set_option maxRecDepth 100000 in
theorem l_copy (l : Launch) (Z : Zc) (ad : Nat → Nat) (m g : MG) (T : Nat) (hF : Fr m T) (K KL KX KF KT : Nat) (hT : T + 5 ≤ 1200) (hK : 600 ≤ K ∧ K < T) (h5 : m K 100000 = 5) (hL : m K 2 = nI KL ∧ 600 ≤ KL ∧ KL < T) (hX : m K 5 = nI KX ∧ 600 ≤ KX ∧ KX < T) (hFl : m K 6 = nI KF ∧ 600 ≤ KF ∧ KF < T) (hTk : m K 7 = nI KT ∧ 600 ≤ KT ∧ KT < T) (h01 : m K 3 = 0 ∨ m K 3 = 1) : LMq l yX4_copy cX4_copy 2 (some (.object "PosterTypesLaw$Poster")) (rmz 2 60 5 20) Z [.ref (ad K)] ad m g (fun v ad' m' g' => v = some (ad' T) ∧ (∀ k, k < T → ad' k = ad k) ∧ m' = rwr m T (cpR (m K)) ∧ Fr m' (T + 1) ∧ g' = g) := by
  have h6 := hF.1.1
  refine ent_lq (own := RX4) (lo := [some (.ref (ad K)), none]) (Or.inl ⟨_, rfl⟩) (by decide) rfl (by simp [lg_sl, Value.category]) rfl (fun P hl C hW9 ret => ?_)
  refine l_newo (T := T) (ci := 5) (kd := 5) (fs := [.int 0, .int 0, .null, .int 0, .int 0, .null, .null, .null]) C hF (by omega) inG4 tyX4 tyX4_ok (tg2 167 rfl rfl) (tg2 168 rfl rfl) (tg1 19 rfl rfl) rfl (fun _ => rfl) (by decide) (Nat.le_of_ble_eq_true rfl) (Nat.le_of_ble_eq_true rfl) dX4_copy_0 (fun ad0 hA0 => ?_)
  have hF0 := hF.new (by omega) (rN_R (kd := 5) (n := 0) (by omega) (by decide) (by omega))
  refine v_lo (lo' := [some (.ref (ad0 K)), none]) (by rw [hA0 K (by omega)]) ?_
  refine v_dup (C.wl _ _) dX4_copy_3 rfl ?_
  refine l_callI (n := 0) (as := []) C hW9 (l_pinit _ Z ad0 (rwr m T (rN 5 0)) g (T + 1) hF0 T (by omega) ⟨by omega, by omega⟩ ((congrFun (rwr_same _ _ _) _).trans (rN_k _ _))) (tg2 169 rfl rfl) (tg2 170 rfl rfl) (tg1 19 rfl rfl) (tg2 171 rfl rfl) rfl (by decide +kernel) ⟨Nat.le_of_ble_eq_true rfl, Nat.le_of_ble_eq_true rfl⟩ rfl rfl (Nat.le_of_ble_eq_true rfl) dX4_copy_4 ⟨Nat.le_of_ble_eq_true rfl, Nat.le_of_ble_eq_true rfl⟩ (fun ad4 m4 g4 hp4 => ?_)
  obtain ⟨hA4, hm4, hF4, rfl⟩ := hp4
  have hpk : ∀ k, k < T → m4 k = m k := fun k hk => by rw [hm4]; unfold pinM; rw [if_neg (by omega), if_neg (by omega), if_neg (by omega), if_neg (by omega), if_neg (by omega), rwr_ne _ _ _ (by omega)]
  have hpT : ∀ j, j ≠ 2 → j ≠ 5 → j ≠ 6 → j ≠ 7 → m4 T j = rN 5 0 j := fun j h2 h5 h6 h7 => by rw [hm4]; unfold pinM; rw [if_neg (by omega), if_neg (by omega), if_neg (by omega), if_neg (by omega), if_pos rfl]; show (if j = 2 then _ else _) = _; rw [if_neg h2, if_neg h5, if_neg h6, if_neg h7, rwr_same]
  have q5 : m4 T 100000 = 5 := hpT _ (by decide) (by decide) (by decide) (by decide)
  have hA4 : ∀ k, k < T + 1 → ad4 k = ad0 k := hA4
  refine v_lo (lo' := [some (.ref (ad4 K)), none]) (by rw [hA4 K (by omega)]) ?_
  refine v_st (st' := [.ref (ad4 T)]) (by rw [hA4 T (by omega)]) ?_
  refine v_astore_n (lo' := [some (.ref (ad4 K)), some (.ref (ad4 T))]) (C.wl _ _) dX4_copy_7 rfl (Nat.le_of_ble_eq_true rfl) rfl rfl ?_
  refine v_aload_n (C.wl _ _) dX4_copy_8 rfl rfl ?_
  refine v_aload_n (C.wl _ _) dX4_copy_9 rfl rfl ?_
  refine l_get (k := K) C inG4 (ci := 5) rfl 0 (by decide) (tg2 175 rfl rfl) rfl ⟨hK.1, by omega⟩ (cW_5 ((congrFun (hpk _ (by omega)) _).trans h5)) rfl dX4_copy_10 ?_
  refine l_put (k := T) (x := m4 K 0) C inG4 (ci := 5) rfl tyX4 tyX4_ok nmX4 0 (by decide) (tg2 175 rfl rfl) rfl rfl rfl rfl rfl ⟨by omega, by omega⟩ (cW_5 q5) (Nat.le_of_ble_eq_true rfl) ((cW_5 (show upd (m4 T) 0 (m4 K 0) 100000 = 5 from (if_neg (by decide : ¬ (100000 : Nat) = 0)).trans q5)).trans rfl) dX4_copy_13 ?_
  have hF13w := hF4.put (k := T) (j := 0) (x := m4 K 0) (by omega) (by omega) (fun z => by rw [q5] at z; exact absurd z (by decide))
  refine v_aload_n (C.wl _ _) dX4_copy_16 rfl rfl ?_
  refine v_aload_n (C.wl _ _) dX4_copy_17 rfl rfl ?_
  refine l_get (k := K) C inG4 (ci := 5) rfl 1 (by decide) (tg2 178 rfl rfl) rfl ⟨hK.1, by omega⟩ (cW_5 ((wr_ne _ _ _ _ (by omega)).trans ((congrFun (hpk _ (by omega)) _).trans h5))) rfl dX4_copy_18 ?_
  refine l_put (k := T) (x := (wr m4 T 0 (m4 K 0)) K 1) C inG4 (ci := 5) rfl tyX4 tyX4_ok nmX4 1 (by decide) (tg2 178 rfl rfl) rfl rfl rfl rfl rfl ⟨by omega, by omega⟩ (cW_5 ((wr_ne _ _ _ _ (by omega)).trans q5)) (Nat.le_of_ble_eq_true rfl) ((cW_5 (show upd (wr m4 T 0 (m4 K 0) T) 1 ((wr m4 T 0 (m4 K 0)) K 1) 100000 = 5 from (if_neg (by decide : ¬ (100000 : Nat) = 1)).trans ((wr_ne _ _ _ _ (by omega)).trans q5))).trans rfl) dX4_copy_21 ?_
  have hF21w := hF13w.put (k := T) (j := 1) (x := (wr m4 T 0 (m4 K 0)) K 1) (by omega) (by omega) (fun z => by rw [((wr_ne _ _ _ _ (by omega)).trans q5)] at z; exact absurd z (by decide))
  refine v_aload_n (C.wl _ _) dX4_copy_24 rfl rfl ?_
  refine v_aload_n (C.wl _ _) dX4_copy_25 rfl rfl ?_
  refine l_get (k := K) C inG4 (ci := 5) rfl 2 (by decide) (tg2 181 rfl rfl) rfl ⟨hK.1, by omega⟩ (cW_5 ((wr_ne _ _ _ _ (by omega)).trans ((wr_ne _ _ _ _ (by omega)).trans ((congrFun (hpk _ (by omega)) _).trans h5)))) (ps_r (by decide) ((wr_ne _ _ _ _ (by omega)).trans ((wr_ne _ _ _ _ (by omega)).trans ((congrFun (hpk _ (by omega)) _).trans hL.1))) ⟨hL.2.1, by have := hL.2.2; omega⟩) dX4_copy_26 ?_
  refine l_put (k := T) (x := nI KL) C inG4 (ci := 5) rfl tyX4 tyX4_ok nmX4 2 (by decide) (tg2 181 rfl rfl) rfl rfl rfl rfl rfl ⟨by omega, by omega⟩ (cW_5 ((wr_ne _ _ _ _ (by omega)).trans ((wr_ne _ _ _ _ (by omega)).trans q5))) (Nat.le_of_ble_eq_true rfl) ((cW_5 (show upd (wr (wr m4 T 0 (m4 K 0)) T 1 ((wr m4 T 0 (m4 K 0)) K 1) T) 2 (nI KL) 100000 = 5 from (if_neg (by decide : ¬ (100000 : Nat) = 2)).trans ((wr_ne _ _ _ _ (by omega)).trans ((wr_ne _ _ _ _ (by omega)).trans q5)))).trans (congrArg (fun q => some (Sum.inr (5, q))) (ps_put (by decide) ⟨hL.2.1, by have := hL.2.2; omega⟩))) dX4_copy_29 ?_
  have hF29w := hF21w.wn (k := T) (j := 2) (k2 := KL) (by omega) (by omega) (by omega)
  refine v_aload_n (C.wl _ _) dX4_copy_32 rfl rfl ?_
  refine v_aload_n (C.wl _ _) dX4_copy_33 rfl rfl ?_
  refine l_get (k := K) C inG4 (ci := 5) rfl 3 (by decide) (tg2 184 rfl rfl) rfl ⟨hK.1, by omega⟩ (cW_5 ((wr_ne _ _ _ _ (by omega)).trans ((wr_ne _ _ _ _ (by omega)).trans ((wr_ne _ _ _ _ (by omega)).trans ((congrFun (hpk _ (by omega)) _).trans h5))))) rfl dX4_copy_34 ?_
  refine v_topi (y := m K 3) ((wr_ne _ _ _ _ (by omega)).trans ((wr_ne _ _ _ _ (by omega)).trans ((wr_ne _ _ _ _ (by omega)).trans ((congrFun (hpk _ (by omega)) _).trans rfl)))) ?_
  refine l_put (k := T) (x := m K 3) C inG4 (ci := 5) rfl tyX4 tyX4_ok nmX4 3 (by decide) (tg2 184 rfl rfl) rfl rfl rfl (by rcases h01 with h | h <;> rw [h] <;> rfl) (by rcases h01 with h | h <;> rw [h] <;> rfl) ⟨by omega, by omega⟩ (cW_5 ((wr_ne _ _ _ _ (by omega)).trans ((wr_ne _ _ _ _ (by omega)).trans ((wr_ne _ _ _ _ (by omega)).trans q5)))) (Nat.le_of_ble_eq_true rfl) ((cW_5 (show upd (wr (wr (wr m4 T 0 (m4 K 0)) T 1 ((wr m4 T 0 (m4 K 0)) K 1)) T 2 (nI KL) T) 3 (m K 3) 100000 = 5 from (if_neg (by decide : ¬ (100000 : Nat) = 3)).trans ((wr_ne _ _ _ _ (by omega)).trans ((wr_ne _ _ _ _ (by omega)).trans ((wr_ne _ _ _ _ (by omega)).trans q5))))).trans rfl) dX4_copy_37 ?_
  have hF37w := hF29w.put (k := T) (j := 3) (x := m K 3) (by omega) (by omega) (fun z => by rw [((wr_ne _ _ _ _ (by omega)).trans ((wr_ne _ _ _ _ (by omega)).trans ((wr_ne _ _ _ _ (by omega)).trans q5)))] at z; exact absurd z (by decide))
  refine v_aload_n (C.wl _ _) dX4_copy_40 rfl rfl ?_
  refine v_aload_n (C.wl _ _) dX4_copy_41 rfl rfl ?_
  refine l_get (k := K) C inG4 (ci := 5) rfl 4 (by decide) (tg2 187 rfl rfl) rfl ⟨hK.1, by omega⟩ (cW_5 ((wr_ne _ _ _ _ (by omega)).trans ((wr_ne _ _ _ _ (by omega)).trans ((wr_ne _ _ _ _ (by omega)).trans ((wr_ne _ _ _ _ (by omega)).trans ((congrFun (hpk _ (by omega)) _).trans h5)))))) rfl dX4_copy_42 ?_
  refine l_put (k := T) (x := (wr (wr (wr (wr m4 T 0 (m4 K 0)) T 1 ((wr m4 T 0 (m4 K 0)) K 1)) T 2 (nI KL)) T 3 (m K 3)) K 4) C inG4 (ci := 5) rfl tyX4 tyX4_ok nmX4 4 (by decide) (tg2 187 rfl rfl) rfl rfl rfl rfl rfl ⟨by omega, by omega⟩ (cW_5 ((wr_ne _ _ _ _ (by omega)).trans ((wr_ne _ _ _ _ (by omega)).trans ((wr_ne _ _ _ _ (by omega)).trans ((wr_ne _ _ _ _ (by omega)).trans q5))))) (Nat.le_of_ble_eq_true rfl) ((cW_5 (show upd (wr (wr (wr (wr m4 T 0 (m4 K 0)) T 1 ((wr m4 T 0 (m4 K 0)) K 1)) T 2 (nI KL)) T 3 (m K 3) T) 4 ((wr (wr (wr (wr m4 T 0 (m4 K 0)) T 1 ((wr m4 T 0 (m4 K 0)) K 1)) T 2 (nI KL)) T 3 (m K 3)) K 4) 100000 = 5 from (if_neg (by decide : ¬ (100000 : Nat) = 4)).trans ((wr_ne _ _ _ _ (by omega)).trans ((wr_ne _ _ _ _ (by omega)).trans ((wr_ne _ _ _ _ (by omega)).trans ((wr_ne _ _ _ _ (by omega)).trans q5)))))).trans rfl) dX4_copy_45 ?_
  have hF45w := hF37w.put (k := T) (j := 4) (x := (wr (wr (wr (wr m4 T 0 (m4 K 0)) T 1 ((wr m4 T 0 (m4 K 0)) K 1)) T 2 (nI KL)) T 3 (m K 3)) K 4) (by omega) (by omega) (fun z => by rw [((wr_ne _ _ _ _ (by omega)).trans ((wr_ne _ _ _ _ (by omega)).trans ((wr_ne _ _ _ _ (by omega)).trans ((wr_ne _ _ _ _ (by omega)).trans q5))))] at z; exact absurd z (by decide))
  refine v_aload_n (C.wl _ _) dX4_copy_48 rfl rfl ?_
  refine v_aload_n (C.wl _ _) dX4_copy_49 rfl rfl ?_
  refine l_get (k := K) C inG4 (ci := 5) rfl 5 (by decide) (tg2 189 rfl rfl) rfl ⟨hK.1, by omega⟩ (cW_5 ((wr_ne _ _ _ _ (by omega)).trans ((wr_ne _ _ _ _ (by omega)).trans ((wr_ne _ _ _ _ (by omega)).trans ((wr_ne _ _ _ _ (by omega)).trans ((wr_ne _ _ _ _ (by omega)).trans ((congrFun (hpk _ (by omega)) _).trans h5))))))) (ps_r (by decide) ((wr_ne _ _ _ _ (by omega)).trans ((wr_ne _ _ _ _ (by omega)).trans ((wr_ne _ _ _ _ (by omega)).trans ((wr_ne _ _ _ _ (by omega)).trans ((wr_ne _ _ _ _ (by omega)).trans ((congrFun (hpk _ (by omega)) _).trans hX.1)))))) ⟨hX.2.1, by have := hX.2.2; omega⟩) dX4_copy_50 ?_
  refine l_put (k := T) (x := nI KX) C inG4 (ci := 5) rfl tyX4 tyX4_ok nmX4 5 (by decide) (tg2 189 rfl rfl) rfl rfl rfl rfl rfl ⟨by omega, by omega⟩ (cW_5 ((wr_ne _ _ _ _ (by omega)).trans ((wr_ne _ _ _ _ (by omega)).trans ((wr_ne _ _ _ _ (by omega)).trans ((wr_ne _ _ _ _ (by omega)).trans ((wr_ne _ _ _ _ (by omega)).trans q5)))))) (Nat.le_of_ble_eq_true rfl) ((cW_5 (show upd (wr (wr (wr (wr (wr m4 T 0 (m4 K 0)) T 1 ((wr m4 T 0 (m4 K 0)) K 1)) T 2 (nI KL)) T 3 (m K 3)) T 4 ((wr (wr (wr (wr m4 T 0 (m4 K 0)) T 1 ((wr m4 T 0 (m4 K 0)) K 1)) T 2 (nI KL)) T 3 (m K 3)) K 4) T) 5 (nI KX) 100000 = 5 from (if_neg (by decide : ¬ (100000 : Nat) = 5)).trans ((wr_ne _ _ _ _ (by omega)).trans ((wr_ne _ _ _ _ (by omega)).trans ((wr_ne _ _ _ _ (by omega)).trans ((wr_ne _ _ _ _ (by omega)).trans ((wr_ne _ _ _ _ (by omega)).trans q5))))))).trans (congrArg (fun q => some (Sum.inr (5, q))) (ps_put (by decide) ⟨hX.2.1, by have := hX.2.2; omega⟩))) dX4_copy_53 ?_
  have hF53w := hF45w.wn (k := T) (j := 5) (k2 := KX) (by omega) (by omega) (by omega)
  refine v_aload_n (C.wl _ _) dX4_copy_56 rfl rfl ?_
  refine v_aload_n (C.wl _ _) dX4_copy_57 rfl rfl ?_
  refine l_get (k := K) C inG4 (ci := 5) rfl 6 (by decide) (tg2 191 rfl rfl) rfl ⟨hK.1, by omega⟩ (cW_5 ((wr_ne _ _ _ _ (by omega)).trans ((wr_ne _ _ _ _ (by omega)).trans ((wr_ne _ _ _ _ (by omega)).trans ((wr_ne _ _ _ _ (by omega)).trans ((wr_ne _ _ _ _ (by omega)).trans ((wr_ne _ _ _ _ (by omega)).trans ((congrFun (hpk _ (by omega)) _).trans h5)))))))) (ps_r (by decide) ((wr_ne _ _ _ _ (by omega)).trans ((wr_ne _ _ _ _ (by omega)).trans ((wr_ne _ _ _ _ (by omega)).trans ((wr_ne _ _ _ _ (by omega)).trans ((wr_ne _ _ _ _ (by omega)).trans ((wr_ne _ _ _ _ (by omega)).trans ((congrFun (hpk _ (by omega)) _).trans hFl.1))))))) ⟨hFl.2.1, by have := hFl.2.2; omega⟩) dX4_copy_58 ?_
  refine l_put (k := T) (x := nI KF) C inG4 (ci := 5) rfl tyX4 tyX4_ok nmX4 6 (by decide) (tg2 191 rfl rfl) rfl rfl rfl rfl rfl ⟨by omega, by omega⟩ (cW_5 ((wr_ne _ _ _ _ (by omega)).trans ((wr_ne _ _ _ _ (by omega)).trans ((wr_ne _ _ _ _ (by omega)).trans ((wr_ne _ _ _ _ (by omega)).trans ((wr_ne _ _ _ _ (by omega)).trans ((wr_ne _ _ _ _ (by omega)).trans q5))))))) (Nat.le_of_ble_eq_true rfl) ((cW_5 (show upd (wr (wr (wr (wr (wr (wr m4 T 0 (m4 K 0)) T 1 ((wr m4 T 0 (m4 K 0)) K 1)) T 2 (nI KL)) T 3 (m K 3)) T 4 ((wr (wr (wr (wr m4 T 0 (m4 K 0)) T 1 ((wr m4 T 0 (m4 K 0)) K 1)) T 2 (nI KL)) T 3 (m K 3)) K 4)) T 5 (nI KX) T) 6 (nI KF) 100000 = 5 from (if_neg (by decide : ¬ (100000 : Nat) = 6)).trans ((wr_ne _ _ _ _ (by omega)).trans ((wr_ne _ _ _ _ (by omega)).trans ((wr_ne _ _ _ _ (by omega)).trans ((wr_ne _ _ _ _ (by omega)).trans ((wr_ne _ _ _ _ (by omega)).trans ((wr_ne _ _ _ _ (by omega)).trans q5)))))))).trans (congrArg (fun q => some (Sum.inr (5, q))) (ps_put (by decide) ⟨hFl.2.1, by have := hFl.2.2; omega⟩))) dX4_copy_61 ?_
  have hF61w := hF53w.wn (k := T) (j := 6) (k2 := KF) (by omega) (by omega) (by omega)
  refine v_aload_n (C.wl _ _) dX4_copy_64 rfl rfl ?_
  refine v_aload_n (C.wl _ _) dX4_copy_65 rfl rfl ?_
  refine l_get (k := K) C inG4 (ci := 5) rfl 7 (by decide) (tg2 193 rfl rfl) rfl ⟨hK.1, by omega⟩ (cW_5 ((wr_ne _ _ _ _ (by omega)).trans ((wr_ne _ _ _ _ (by omega)).trans ((wr_ne _ _ _ _ (by omega)).trans ((wr_ne _ _ _ _ (by omega)).trans ((wr_ne _ _ _ _ (by omega)).trans ((wr_ne _ _ _ _ (by omega)).trans ((wr_ne _ _ _ _ (by omega)).trans ((congrFun (hpk _ (by omega)) _).trans h5))))))))) (ps_r (by decide) ((wr_ne _ _ _ _ (by omega)).trans ((wr_ne _ _ _ _ (by omega)).trans ((wr_ne _ _ _ _ (by omega)).trans ((wr_ne _ _ _ _ (by omega)).trans ((wr_ne _ _ _ _ (by omega)).trans ((wr_ne _ _ _ _ (by omega)).trans ((wr_ne _ _ _ _ (by omega)).trans ((congrFun (hpk _ (by omega)) _).trans hTk.1)))))))) ⟨hTk.2.1, by have := hTk.2.2; omega⟩) dX4_copy_66 ?_
  refine l_put (k := T) (x := nI KT) C inG4 (ci := 5) rfl tyX4 tyX4_ok nmX4 7 (by decide) (tg2 193 rfl rfl) rfl rfl rfl rfl rfl ⟨by omega, by omega⟩ (cW_5 ((wr_ne _ _ _ _ (by omega)).trans ((wr_ne _ _ _ _ (by omega)).trans ((wr_ne _ _ _ _ (by omega)).trans ((wr_ne _ _ _ _ (by omega)).trans ((wr_ne _ _ _ _ (by omega)).trans ((wr_ne _ _ _ _ (by omega)).trans ((wr_ne _ _ _ _ (by omega)).trans q5)))))))) (Nat.le_of_ble_eq_true rfl) ((cW_5 (show upd (wr (wr (wr (wr (wr (wr (wr m4 T 0 (m4 K 0)) T 1 ((wr m4 T 0 (m4 K 0)) K 1)) T 2 (nI KL)) T 3 (m K 3)) T 4 ((wr (wr (wr (wr m4 T 0 (m4 K 0)) T 1 ((wr m4 T 0 (m4 K 0)) K 1)) T 2 (nI KL)) T 3 (m K 3)) K 4)) T 5 (nI KX)) T 6 (nI KF) T) 7 (nI KT) 100000 = 5 from (if_neg (by decide : ¬ (100000 : Nat) = 7)).trans ((wr_ne _ _ _ _ (by omega)).trans ((wr_ne _ _ _ _ (by omega)).trans ((wr_ne _ _ _ _ (by omega)).trans ((wr_ne _ _ _ _ (by omega)).trans ((wr_ne _ _ _ _ (by omega)).trans ((wr_ne _ _ _ _ (by omega)).trans ((wr_ne _ _ _ _ (by omega)).trans q5))))))))).trans (congrArg (fun q => some (Sum.inr (5, q))) (ps_put (by decide) ⟨hTk.2.1, by have := hTk.2.2; omega⟩))) dX4_copy_69 ?_
  have hF69w := hF61w.wn (k := T) (j := 7) (k2 := KT) (by omega) (by omega) (by omega)
  refine v_aload_n (C.wl _ _) dX4_copy_72 rfl rfl ?_
  refine v_wide (k := 5) (n := 20) (Nat.le_of_ble_eq_true rfl) (Nat.le_of_ble_eq_true rfl) ?_
  generalize hm9 : wr (wr (wr (wr (wr (wr (wr (wr m4 T 0 (m4 K 0)) T 1 ((wr m4 T 0 (m4 K 0)) K 1)) T 2 (nI KL)) T 3 (m K 3)) T 4 ((wr (wr (wr (wr m4 T 0 (m4 K 0)) T 1 ((wr m4 T 0 (m4 K 0)) K 1)) T 2 (nI KL)) T 3 (m K 3)) K 4)) T 5 (nI KX)) T 6 (nI KF)) T 7 (nI KT) = m9
  have e9 : ∀ k, k < T → m9 k = m k := fun k hk => by rw [← hm9]; simp only [wr_row _ _ _ _ (show k ≠ T by omega)]; exact hpk k hk
  have e9T : m9 T = cpR (m K) := by
    funext j
    have eK : m4 K = m K := hpk K (by omega)
    rw [← hm9]
    simp only [wr, if_true, eK]
    unfold cpR
    by_cases j0 : j = 0
    · subst j0; simp [eK, hL.1, hX.1, hFl.1, hTk.1, show ¬ K = T by omega]
    by_cases j1 : j = 1
    · subst j1; simp [eK, hL.1, hX.1, hFl.1, hTk.1, show ¬ K = T by omega]
    by_cases j2 : j = 2
    · subst j2; simp [eK, hL.1, hX.1, hFl.1, hTk.1, show ¬ K = T by omega]
    by_cases j3 : j = 3
    · subst j3; simp [eK, hL.1, hX.1, hFl.1, hTk.1, show ¬ K = T by omega]
    by_cases j4 : j = 4
    · subst j4; simp [eK, hL.1, hX.1, hFl.1, hTk.1, show ¬ K = T by omega]
    by_cases j5 : j = 5
    · subst j5; simp [eK, hL.1, hX.1, hFl.1, hTk.1, show ¬ K = T by omega]
    by_cases j6 : j = 6
    · subst j6; simp [eK, hL.1, hX.1, hFl.1, hTk.1, show ¬ K = T by omega]
    by_cases j7 : j = 7
    · subst j7; simp [eK, hL.1, hX.1, hFl.1, hTk.1, show ¬ K = T by omega]
    rw [if_neg (show ¬ j < 8 by omega)]
    simp only [j0, j1, j2, j3, j4, j5, j6, j7, if_false]
    exact hpT j j2 j5 j6 j7
  have hF9 : Fr (rwr m T (cpR (m K))) (T + 1) := hF.new (by omega) (fun j hj => by
    have hk5 : cpR (m K) 100000 = 5 := rfl
    rw [hk5] at hj
    have hj4 : j = 2 ∨ j = 5 ∨ j = 6 ∨ j = 7 := by simpa [isrf, or_assoc] using hj
    unfold cpR
    rcases hj4 with rfl | rfl | rfl | rfl
    · rw [if_pos (by decide), hL.1, iz_nI (by have := hL.2.2; omega)]; have := hL.2.2; omega
    · rw [if_pos (by decide), hX.1, iz_nI (by have := hX.2.2; omega)]; have := hX.2.2; omega
    · rw [if_pos (by decide), hFl.1, iz_nI (by have := hFl.2.2; omega)]; have := hFl.2.2; omega
    · rw [if_pos (by decide), hTk.1, iz_nI (by have := hTk.2.2; omega)]; have := hTk.2.2; omega)
  refine l_drop (ad0 := ad4) hF9 (fun _ _ => rfl) (fun k k1 k2 => ?_) ?_
  · by_cases hk : k = T
    · rw [hk, rwr_same]; exact e9T
    · rw [rwr_ne _ _ _ hk]; exact e9 k (by omega)
  exact ret _ _ (some (ad4 T)) _ _ _ dX4_copy_73 ⟨rfl, fun k hk => by rw [hA4 k (by omega), hA0 k (by omega)], rfl, hF9, rfl⟩
