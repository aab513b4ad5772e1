/-! THE CLASS: fount -/
/-- what a call that makes answers -/
def PXM (Z : Zc) (g : MG) (cd : Nat) (an : Int32) (st : MG) : Int32 → (Nat → Nat) × MG → Prop := fun r u => cd = 0 ∧ r = an ∧ Rl st u.2 ∧ FrK g u.2 ∧ adE Z u.1
theorem FrK_ft {g : MG} {n : Nat} {h : Int32} (hn : n < 5) : FrK g (ftG g n h) := ⟨fun k hk => ftG_o (by omega) (by omega), ftG_o (by decide) (by omega)⟩
theorem adE_ft {Z : Zc} {n q x a1 a2 a3 a4 : Nat} (hn : n < 5) : adE Z (ftA Z.ad n q x a1 a2 a3 a4) := ⟨fun k hk => ftA_o (by omega) (by omega), fun k hk => ftA_o (by omega) (by omega)⟩
theorem Rl_ft {s g : MG} (hI : IvM s) (hZ : IvZ s) (hR : Rl s g) (hn : nfO s < 5) (h : Int32) : Rl (wr (wr s 5 (nfO s) h) 0 1 (nI (nfO s + 1))) (ftG g (nfO s) h) := by
  have hp6 := (IvM_np hI).1
  obtain ⟨⟨a1, a2, a3, a4, a5, a6, a7⟩, hF, hP⟩ := hR
  have es : ∀ z, z ≠ 5 → z ≠ 0 → wr (wr s 5 (nfO s) h) 0 1 (nI (nfO s + 1)) z = s z := fun z z1 z2 => by rw [wr_row _ _ _ _ z2, wr_row _ _ _ _ z1]
  have e0 : ∀ j, j ≠ 1 → wr (wr s 5 (nfO s) h) 0 1 (nI (nfO s + 1)) 0 j = s 0 j := fun j hj => by rw [wr_ne _ _ _ _ (Or.inr hj), wr_row _ _ _ _ (by decide)]
  have e5 : wr (wr s 5 (nfO s) h) 0 1 (nI (nfO s + 1)) 5 = wr s 5 (nfO s) h 5 := wr_row _ _ _ _ (by decide)
  have hnf : nfO (wr (wr s 5 (nfO s) h) 0 1 (nI (nfO s + 1))) = nfO s + 1 := by
    show iz (wr (wr s 5 (nfO s) h) 0 1 (nI (nfO s + 1)) 0 1) = nfO s + 1
    rw [wr_same]
    exact iz_nI (by omega)
  refine ⟨⟨?_, ?_, ?_, ?_, ?_, ?_, ?_⟩, fun i hi => ?_, hP.c (e0 2 (by decide)) (fun k k1 k2 => es k (by omega) (by omega)) (fun k k1 k2 => ftG_o (by omega) (by omega)) hp6 (fun p hp => (IvM_nl hI hp).2)⟩
  · rw [ftG_31, wr_same]
  · rw [ftG_o (by decide) (by omega), e0 2 (by decide)]; exact a2
  · rw [ftG_o (by decide) (by omega), e0 3 (by decide)]; exact a3
  · rw [ftG_o (by decide) (by omega), e0 4 (by decide)]; exact a4
  · rw [ftG_o (by decide) (by omega), es 9 (by decide) (by decide)]; exact a5
  · rw [ftG_o (by decide) (by omega), es 10 (by decide) (by decide)]; exact a6
  · rw [ftG_o (by decide) (by omega), es 11 (by decide) (by decide)]; exact a7
  · rw [hnf] at hi
    rw [e5, es 6 (by decide) (by decide), es 7 (by decide) (by decide), es 8 (by decide) (by decide)]
    by_cases hin : i = nfO s
    · subst hin
      rw [ftG_f hn, ftG_f hn, ftG_a hn (by decide), ftG_a hn (by decide), ftG_a hn (by decide), wr_same]
      refine ⟨rfl, rfl, fun j hj => ?_⟩
      obtain ⟨z6, z7, z8⟩ := hZ (10 * nfO s + j) (by omega) (by omega)
      rw [z6, z7, z8]
      exact ⟨rfl, rfl, rfl⟩
    · obtain ⟨b1, b2, b3⟩ := hF i (by omega)
      rw [ftG_o (by omega) (by omega), ftG_o (by omega) (by omega), ftG_o (by omega) (by omega), ftG_o (by omega) (by omega), wr_ne _ _ _ _ (Or.inr hin)]
      exact ⟨b1, b2, b3⟩
set_option maxRecDepth 100000 in
theorem x_fount (l : Launch) (hl9 : l.stackTraces = false) (Z : Zc) (h : Int32) (s g : MG) (hI : IvM s) (hZ : IvZ s) (hR : Rl s g) : XM l yX3_fount cX3_fount 3 (some .int) (rmz 8 240 6 60) Z [.ref (Z.ad 30), .int h] g (PXM Z g (cdFount s h) (nI (nfO s)) (stFount s h)) (PXx g (cdFount s h) (nm3 1 2 2) (stFount s h)) := by
  refine ent_xm (lo := [some (.ref (Z.ad 30)), some (.int h), none]) hl9 (by decide) rfl (by simp [lg_sl, Value.category]) rfl (by decide) (fun P hl C hM ret thr => ?_)
  have hnf := (IvM_nf hI).2
  have hf5 := (IvM_nf hI).1
  have hnp := (IvM_np hI).2
  have hp6 := (IvM_np hI).1
  have hn1 : g 31 2 = nI (nfO s) := hR.1.1.trans hnf
  have hn2 : g 32 2 = nI (npO s) := hR.1.2.1.trans hnp
  refine v_iload_n C dX3_fount_0 rfl rfl ?_
  refine v_iconst (v := 1) C dX3_fount_1 (by decide) ?_
  refine v_icmp_lt (tgt := 11) C dX3_fount_2 (by decide) (fun h2 => ?_) (fun h2 => ?_)
  · exact thr _ _ _ _ _ 1 _ _ (List.mem_of_getElem? (i := 0) rfl) ⟨Nat.le_of_ble_eq_true rfl, Nat.le_of_ble_eq_true rfl⟩ dX3_fount_11 dX3_fount_14 dX3_fount_15 dX3_fount_17 dX3_fount_20 (PXx.no (k := 1) (by unfold cdFount; rw [if_pos (inB_f.mpr (by have z1 : (1 : Int32).toInt = 1 := rfl; have z9 : (20 : Int32).toInt = 20 := rfl; simp only [i_lt, i_le] at h2; omega))]) (by decide) rfl (by unfold stFount; rw [if_neg (by rw [show cdFount s h = 1 by unfold cdFount; rw [if_pos (inB_f.mpr (by have z1 : (1 : Int32).toInt = 1 := rfl; have z9 : (20 : Int32).toInt = 20 := rfl; simp only [i_lt, i_le] at h2; omega))]]; decide)]) hR FrK.rf)
  · refine v_iload_n C dX3_fount_5 rfl rfl ?_
    refine v_bipush (v := 20) C dX3_fount_6 (by decide) ?_
    refine v_icmp_le (tgt := 21) C dX3_fount_8 (by decide) (fun h8 => ?_) (fun h8 => ?_)
    · have b1 : inB h 1 20 = true := inB_t.mpr (by have z1 : (1 : Int32).toInt = 1 := rfl; have z9 : (20 : Int32).toInt = 20 := rfl; simp only [i_lt, i_le] at h2 h8; omega)
      refine v_aload_n C dX3_fount_21 rfl rfl ?_
      refine v_get C inG3 rfl 0 (by decide) (tg1 66 rfl rfl) rfl cx_T rfl dX3_fount_22 ?_
      refine v_callVi (n := 0) (as := []) C (c_lsize _ Z 31 36 g cx_L1) (gv (tg1 97 rfl rfl) (tg1 98 rfl rfl) (tg1 99 rfl rfl) (tg1 4 rfl rfl) (tg1 100 rfl rfl)) (by decide +kernel) ⟨Nat.le_of_ble_eq_true rfl, Nat.le_of_ble_eq_true rfl⟩ rfl cx_L1 rfl rfl (Nat.le_of_ble_eq_true rfl) dX3_fount_25 ⟨Nat.le_of_ble_eq_true rfl, Nat.le_of_ble_eq_true rfl⟩ (fun r25 g25 hp25 => ?_)
      obtain ⟨rfl, hg25⟩ := hp25
      rw [hg25]
      refine v_topi (y := nI (nfO s)) hn1 ?_
      refine v_iconst (v := 5) C dX3_fount_28 (by decide) ?_
      refine v_icmp_lt (tgt := 42) C dX3_fount_29 (by decide) (fun h29 => ?_) (fun h29 => ?_)
      · have hn9 : nfO s < 5 := Nat.lt_of_not_le fun z => absurd h29 (by rw [i_lt, nI_toInt (by omega), show (5 : Int32).toInt = 5 from rfl]; omega)
        have hcd : cdFount s h = 0 := by unfold cdFount; rw [if_neg (by rw [b1]; decide), if_neg (by omega)]
        refine v_aload_n C dX3_fount_42 rfl rfl ?_
        refine v_get C inG3 rfl 0 (by decide) (tg1 66 rfl rfl) rfl cx_T rfl dX3_fount_43 ?_
        refine v_callVi (n := 0) (as := []) C (c_lsize _ Z 31 36 g cx_L1) (gv (tg1 97 rfl rfl) (tg1 98 rfl rfl) (tg1 99 rfl rfl) (tg1 4 rfl rfl) (tg1 100 rfl rfl)) (by decide +kernel) ⟨Nat.le_of_ble_eq_true rfl, Nat.le_of_ble_eq_true rfl⟩ rfl cx_L1 rfl rfl (Nat.le_of_ble_eq_true rfl) dX3_fount_46 ⟨Nat.le_of_ble_eq_true rfl, Nat.le_of_ble_eq_true rfl⟩ (fun r46 g46 hp46 => ?_)
        obtain ⟨rfl, hg46⟩ := hp46
        rw [hg46]
        refine v_topi (y := nI (nfO s)) hn1 ?_
        refine v_istore_n (lo' := [some (.ref (Z.ad 30)), some (.int h), some (.int (nI (nfO s)))]) C dX3_fount_49 rfl (Nat.le_of_ble_eq_true rfl) rfl rfl ?_
        refine v_aload_n C dX3_fount_50 rfl rfl ?_
        refine v_get C inG3 rfl 0 (by decide) (tg1 66 rfl rfl) rfl cx_T rfl dX3_fount_51 ?_
        generalize hng : nfO s = n at hn9 hn1 ⊢
        refine u_new (ci := 1) (fs := [.int 0, .int 0, .null, .null, .null, .null]) C inG0 tyX0 tyX0_ok (tg1 200 rfl rfl) (tg5 37 rfl rfl) (tg1 12 rfl rfl) rfl (by decide) (Nat.le_of_ble_eq_true rfl) (Nat.le_of_ble_eq_true rfl) dX3_fount_54 (fun x => ?_)
        refine u_dup C dX3_fount_57 rfl ?_
        refine u_iload_n C dX3_fount_58 rfl rfl ?_
        refine u_iload_n C dX3_fount_59 rfl rfl ?_
        refine u_callI (n := 2) (as := [.int (nI n), .int h]) C (k_finit _ Z (AX Z g) x (nI n) h []) (tg5 38 rfl rfl) (tg5 39 rfl rfl) (tg1 12 rfl rfl) (tg5 40 rfl rfl) rfl (by decide +kernel) ⟨Nat.le_of_ble_eq_true rfl, Nat.le_of_ble_eq_true rfl⟩ rfl rfl (Nat.le_of_ble_eq_true rfl) dX3_fount_60 ⟨Nat.le_of_ble_eq_true rfl, Nat.le_of_ble_eq_true rfl⟩ (fun xs hxs => ?_)
        obtain ⟨a1, a2, a3, a4, rfl⟩ := hxs
        cases n with
        | zero =>
          have hL : cx Z.Y Z.ad Z.df g 31 = some (.inr (0, [.int 0, .ref Z.df, .int 0])) := by rw [cx_L1]; unfold cLi; rw [hn1]; rfl
          refine u_add (g' := ftG g 0 h) (Φ := adE Z) C hM (tg3 109 rfl rfl) (k_add_0 _ Z (fun q => q = Z.ad 31 ∨ AX Z g q) (Z.ad 31) x (ci := 1) (N := 6) (Cn := RX0) (T := TX0) rfl (List.mem_of_getElem? (i := 0) rfl) [(a4, .inl (Z.Y.1, 10, .inl (fun _ => 0))), (a3, .inl (Z.Y.1, 10, .inl (fun _ => 0))), (a2, .inl (Z.Y.1, 10, .inl (fun _ => 0))), (a1, .inl (Z.Y.1, 10, .inl (fun _ => 0)))]) hL (fun q hq => Or.inr hq) (fun H hw q hq => by rcases hq with rfl | hq; (· exact (hw.1 31 _ hL).2); (· exact hq.1)) (fun H hw hX => by have h9 := in1 hw hX hL; exact ⟨h9.1.sub [0, 5, 1, 2, 3, 4] rfl, h9.2.sub [0, 5, 1, 2, 3, 4] rfl rfl⟩) ⟨Nat.le_of_ble_eq_true rfl, Nat.le_of_ble_eq_true rfl⟩ (Nat.le_of_ble_eq_true rfl) dX3_fount_63 ⟨Nat.le_of_ble_eq_true rfl, Nat.le_of_ble_eq_true rfl⟩ (fun r9 w9 H H1 hp hw hP9 hD9 hA9 hfr => ?_) (fun r9 ad9 hE9 => ?_)
          · obtain ⟨q, rfl⟩ := hp
            exact ⟨_, adE_ft hn9, Hw_ft (p36 := 0) (p31 := 1) (px := 2) hw hn9 hn1 (q := q) (by decide) hP9 hD9 hA9 (fun k h1 h2 hc hA => by rcases hA with h3 | h3; (· exact h1 (hw.2.1 k 31 hc (by rw [hL]; simp) h3)); (· exact h3.2 k hc rfl)) hfr (f := fun _ => none) (fun j => by rw [if_neg (Nat.not_lt_zero j)]) rfl rfl rfl rfl rfl rfl rfl⟩
          · refine v_pop (C.wa ad9) dX3_fount_66 rfl ?_
            refine v_iload_n (C.wa ad9) dX3_fount_67 rfl rfl ?_
            refine v_wide (k := 6) (n := 60) (Nat.le_of_ble_eq_true rfl) (Nat.le_of_ble_eq_true rfl) ?_
            exact ret _ _ _ _ _ dX3_fount_68 ⟨hcd, by rw [hng], by have h9 := Rl_ft hI hZ hR (by omega) h; unfold stFount; rw [if_pos hcd]; rw [hng] at h9 ⊢; exact h9, FrK_ft hn9, hE9⟩
        | succ m =>
          have hL : cx Z.Y Z.ad Z.df g 31 = some (.inr (0, [.int (nI (m + 1)), .ref (Z.ad 36), .int (nI (m + 1))])) := by rw [cx_L1]; unfold cLi; rw [hn1, if_neg (fun z => by have := nI_inj (a := m + 1) (b := 0) (by omega) (by decide) z; omega)]
          have hE := (cxE1 (Y := Z.Y) (ad := Z.ad) (df := Z.df) hn1).trans (cEd_at (i := 0) (by omega) (by omega))
          refine u_add (g' := ftG g (m + 1) h) (Φ := adE Z) C hM (tg3 109 rfl rfl) (k_add_k _ Z (fun q => q = Z.ad 31 ∨ q = Z.ad 36 ∨ AX Z g q) (Z.ad 31) x (Z.ad 36) (m + 1) (by omega) _ (ci := 1) (N := 6) (Cn := RX0) (T := TX0) rfl (List.mem_of_getElem? (i := 0) rfl) [(a4, .inl (Z.Y.1, 10, .inl (fun _ => 0))), (a3, .inl (Z.Y.1, 10, .inl (fun _ => 0))), (a2, .inl (Z.Y.1, 10, .inl (fun _ => 0))), (a1, .inl (Z.Y.1, 10, .inl (fun _ => 0)))]) hL (fun q hq => Or.inr (Or.inr hq)) (fun H hw q hq => by rcases hq with rfl | rfl | hq; (· exact (hw.1 31 _ hL).2); (· exact (hw.1 36 _ hE).2); (· exact hq.1)) (fun H hw hX => by have h9 := in2 hw hX hL hE (by decide); exact ⟨h9.1.sub [0, 6, 1, 2, 3, 4, 5] rfl, h9.2.sub [0, 6, 1, 2, 3, 4, 5] rfl rfl⟩) ⟨Nat.le_of_ble_eq_true rfl, Nat.le_of_ble_eq_true rfl⟩ (Nat.le_of_ble_eq_true rfl) dX3_fount_63 ⟨Nat.le_of_ble_eq_true rfl, Nat.le_of_ble_eq_true rfl⟩ (fun r9 w9 H H1 hp hw hP9 hD9 hA9 hfr => ?_) (fun r9 ad9 hE9 => ?_)
          · subst hp
            exact ⟨_, adE_ft hn9, Hw_ft (p36 := 2) (p31 := 0) (px := 1) hw hn9 hn1 (q := (Z.ad 36)) (by decide) hP9 hD9 hA9 (fun k h1 h2 hc hA => by rcases hA with h3 | h3 | h3; (· exact h1 (hw.2.1 k 31 hc (by rw [hL]; simp) h3)); (· exact h2 (hw.2.1 k 36 hc (by rw [hE]; simp) h3)); (· exact h3.2 k hc rfl)) hfr (fun j => rfl) rfl rfl rfl rfl rfl rfl rfl⟩
          · refine v_pop (C.wa ad9) dX3_fount_66 rfl ?_
            refine v_iload_n (C.wa ad9) dX3_fount_67 rfl rfl ?_
            refine v_wide (k := 6) (n := 60) (Nat.le_of_ble_eq_true rfl) (Nat.le_of_ble_eq_true rfl) ?_
            exact ret _ _ _ _ _ dX3_fount_68 ⟨hcd, by rw [hng], by have h9 := Rl_ft hI hZ hR (by omega) h; unfold stFount; rw [if_pos hcd]; rw [hng] at h9 ⊢; exact h9, FrK_ft hn9, hE9⟩
      · have hn9 : nfO s = 5 := by rw [i_lt, nI_toInt (by omega), show (5 : Int32).toInt = 5 from rfl] at h29; omega
        exact thr _ _ _ _ _ 2 _ _ (List.mem_of_getElem? (i := 1) rfl) ⟨Nat.le_of_ble_eq_true rfl, Nat.le_of_ble_eq_true rfl⟩ dX3_fount_32 dX3_fount_35 dX3_fount_36 dX3_fount_38 dX3_fount_41 (PXx.no (k := 2) (by unfold cdFount; rw [if_neg (by rw [b1]; decide), if_pos hn9]) (by decide) rfl (by unfold stFount; rw [if_neg (by rw [show cdFount s h = 2 by unfold cdFount; rw [if_neg (by rw [b1]; decide), if_pos hn9]]; decide)]) hR FrK.rf)
    · exact thr _ _ _ _ _ 1 _ _ (List.mem_of_getElem? (i := 0) rfl) ⟨Nat.le_of_ble_eq_true rfl, Nat.le_of_ble_eq_true rfl⟩ dX3_fount_11 dX3_fount_14 dX3_fount_15 dX3_fount_17 dX3_fount_20 (PXx.no (k := 1) (by unfold cdFount; rw [if_pos (inB_f.mpr (by have z1 : (1 : Int32).toInt = 1 := rfl; have z9 : (20 : Int32).toInt = 20 := rfl; simp only [i_lt, i_le] at h2 h8; omega))]) (by decide) rfl (by unfold stFount; rw [if_neg (by rw [show cdFount s h = 1 by unfold cdFount; rw [if_pos (inB_f.mpr (by have z1 : (1 : Int32).toInt = 1 := rfl; have z9 : (20 : Int32).toInt = 20 := rfl; simp only [i_lt, i_le] at h2 h8; omega))]]; decide)]) hR FrK.rf)
