/-! THE LAW: from its entry -/
set_option maxRecDepth 100000 in
theorem law_go {P : Pm} {Z0 : Zc} {S : Sc} (hl9 : P.2.1.stackTraces = false) (C0 : Cx P Z0 cL_law "PosterTypesLaw") (hAx : CxA P Z0 (A0 Z0.z)) (hW9 : CxW P Z0) (hC : CxP P S Z0.z) (hY : Z0.Y.m = m00)
    (ret : ∀ (ad : Nat → Nat) (m g : MG) (lo : Lo), V P room_1 (Z0.wl ad m) lo 997 [.int 1] g 600130 7301080) : VX P room_1 Z0 (A0 Z0.z) [] [some (.ref S.1), none, none, none, none, none, none, none, none, none, none, none, none, none, none, none, none, none, none, none, none, none, none, none] 0 [] 0 0 := by
  refine nx_new (ci := 4) (fs := [.null, .null, .null, .null, .null, .int 0, .int 0]) C0 hAx inG3 tyX3 tyX3_ok (tg1 29 rfl rfl) (tg1 30 rfl rfl) (tg1 1 rfl rfl) rfl (by decide) (Nat.le_of_ble_eq_true rfl) (Nat.le_of_ble_eq_true rfl) dL_law_0 (fun q30 => ?_)
  refine nx_dup C0 dL_law_3 rfl ?_
  refine nx_callI (n := 0) (as := []) C0 hAx (k_tinit _ Z0 _ q30 []) (tg1 31 rfl rfl) (tg1 32 rfl rfl) (tg1 1 rfl rfl) (tg1 33 rfl rfl) rfl (by decide +kernel) ⟨(Nat.le_of_ble_eq_true rfl), (Nat.le_of_ble_eq_true rfl)⟩ rfl rfl (Nat.le_of_ble_eq_true rfl) dL_law_4 ⟨(Nat.le_of_ble_eq_true rfl), (Nat.le_of_ble_eq_true rfl)⟩ (fun w1 hp1 => ?_)
  obtain ⟨b1, hb1⟩ := hp1
  subst hb1
  refine nx_astore_n (lo' := [some (.ref S.1), some (.ref q30), none, none, none, none, none, none, none, none, none, none, none, none, none, none, none, none, none, none, none, none, none, none]) C0 dL_law_7 rfl (Nat.le_of_ble_eq_true rfl) rfl rfl ?_
  refine vx_first (q30 := q30) (b := b1) hY ?_
  have eZ : Z0.wa (ad00 q30 b1) = Z0.wl (ad00 q30 b1) m00 := by
    unfold Zc.wa Zc.wl Yc.w
    rw [← hY]
  rw [eZ]
  refine v_wide (k := 20) (n := 100) (Nat.le_of_ble_eq_true rfl) (Nat.le_of_ble_eq_true rfl) ?_
  refine v_aload_n (C0.wl _ _) dL_law_8 rfl rfl ?_
  refine v_aload_n (C0.wl _ _) dL_law_9 rfl rfl ?_
  refine l_callSqs (n := 2) (S := S) (as := [.ref (ad00 q30 b1 30), .ref S.1]) C0 hW9 hC (l_build _ hl9 Z0 S (ad00 q30 b1) g00 m00 g00 LE00 g00_nf g00_np ⟨rfl, rfl⟩ (fun f _ => rfl) (fun k hk => by show flF (fun _ => 0) (-1) 10 k = -1; unfold flF; rw [if_pos hk]) (fun u hu => g00_t hu) Fr00 Rl00) (gs2 (tg4 234 rfl rfl) (tg4 235 rfl rfl) (tg1 0 rfl rfl) (tg4 236 rfl rfl)) (by decide +kernel) ⟨(Nat.le_of_ble_eq_true rfl), (Nat.le_of_ble_eq_true rfl)⟩ rfl rfl (Nat.le_of_ble_eq_true rfl) dL_law_10 ⟨(Nat.le_of_ble_eq_true rfl), (Nat.le_of_ble_eq_true rfl)⟩ (fun r1 ad1 m1 g1 hp2 => ?_)
  obtain ⟨hr1, hA1, N, t, hN, hE, hR, hF, hRl, hnf, hnp⟩ := hp2
  rw [hr1]
  refine v_lo (lo' := [some (.ref S.1), some (.ref (ad1 30)), none, none, none, none, none, none, none, none, none, none, none, none, none, none, none, none, none, none, none, none, none, none]) (by rw [hA1 30 (by decide)]; rfl) ?_
  refine v_astore_n (lo' := [some (.ref S.1), some (.ref (ad1 30)), some (.ref (ad1 600)), none, none, none, none, none, none, none, none, none, none, none, none, none, none, none, none, none, none, none, none, none]) (C0.wl _ _) dL_law_13 rfl (Nat.le_of_ble_eq_true rfl) rfl rfl ?_
  refine v_aload_n (C0.wl _ _) dL_law_14 rfl rfl ?_
  refine v_ifnonnull (tgt := 20) (C0.wl _ _) dL_law_15 (by decide) ?_
  refine v_iconst (v := 0) (C0.wl _ _) dL_law_20 (by decide) ?_
  refine v_istore_n (lo' := [some (.ref S.1), some (.ref (ad1 30)), some (.ref (ad1 600)), some (.int 0), none, none, none, none, none, none, none, none, none, none, none, none, none, none, none, none, none, none, none, none]) (C0.wl _ _) dL_law_21 rfl (Nat.le_of_ble_eq_true rfl) rfl rfl ?_
  refine v_iconst (v := 0) (C0.wl _ _) dL_law_22 (by decide) ?_
  refine v_istore (lo' := [some (.ref S.1), some (.ref (ad1 30)), some (.ref (ad1 600)), some (.int 0), some (.int 0), none, none, none, none, none, none, none, none, none, none, none, none, none, none, none, none, none, none, none]) (C0.wl _ _) dL_law_23 (Nat.le_of_ble_eq_true rfl) rfl rfl ?_
  refine v_iconst (v := nI 0) (C0.wl _ _) dL_law_25 rfl ?_
  refine v_istore (lo' := [some (.ref S.1), some (.ref (ad1 30)), some (.ref (ad1 600)), some (.int 0), some (.int 0), some (.int (nI 0)), none, none, none, none, none, none, none, none, none, none, none, none, none, none, none, none, none, none]) (C0.wl _ _) dL_law_26 (Nat.le_of_ble_eq_true rfl) rfl rfl ?_
  refine v_wide (k := 700 + 900 * 0) (n := 7000 + 6000 * 0) (Nat.le_of_ble_eq_true rfl) (Nat.le_of_ble_eq_true rfl) ?_
  obtain ⟨⟨c3, -⟩, c4, -⟩ := hE.2.2
  exact law_loop hl9 C0 hW9 hC ret _ 0 ad1 m1 t g1 N 0 0 none none none none none none none none none none none none none none none none none none (Nat.lt_succ_self _) (Nat.zero_le _) (by omega) hE hR hF hRl c3 c4 hnf hnp
