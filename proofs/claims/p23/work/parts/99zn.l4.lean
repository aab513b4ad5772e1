/-! THE LAW: founts -/
theorem bl_all {N : Nat} {s : MG} (hE : LE N s) {x : Nat} (hx : x < 50) : ∃ a b w, a ≤ b ∧ b ≤ 9 ∧ w ≤ 32768000 ∧ s 7 x = nI a ∧ s 6 x = nI b ∧ s 8 x = nI w := by
  obtain ⟨a, ha, h7⟩ := ou_nI hE.1.1 hE.2.1 hx
  obtain ⟨b, hb, h6⟩ := bl_9 hE hx
  obtain ⟨hN, hB⟩ := hE.1.2.2.2.2
  obtain ⟨-, h76, -, h8, h8'⟩ := hB x hx
  obtain ⟨w, hw, he⟩ := ti_nI (b := 32768000) h8 (by omega) (by decide)
  refine ⟨a, b, w, ?_, hb, hw, h7, h6, he⟩
  rw [h7, h6, nI_toInt (by omega), nI_toInt (by omega)] at h76
  omega
set_option maxRecDepth 100000 in
theorem law_B {P : Pm} {Z : Zc} {S : Sc} {ad : Nat → Nat} {s m : MG} {N : Nat} {co br x6 : Int32} {time : Nat} {v7 v8 : Option Value} (hP9 : P.2.1.stackTraces = false) (C : Cx P Z cL_law "PosterTypesLaw") (hW9 : CxW P Z) (hE : LE N s) (hR0 : SimR s m) {fw lt : Int32} {c s0 : Nat} (hc : c + 260 ≤ 600130 ∧ s0 + 1600 ≤ 7301080) (m1 : MG) (hO : OutI m m1 (nfO s) (s 7))
    (K : ∀ (g : MG) (v16 v17 v18 v19 v20 v21 v22 v23 : Option Value), Rl s g → V P room_1 (Z.wl ad m1) [some (.ref S.1), some (.ref (ad 30)), some (.ref (ad 600)), some (.int co), some (.int br), some (.int (nI time)), some (.int x6), v7, v8, some (.int (nI (nfO s))), some (.ref (ad (900 + nfO s))), some (.int fw), some (.int lt), some (.int (sumI (s 6) (10 * (nfO s)))), some (.int (sumI (s 7) (10 * (nfO s)))), some (.int (nI (nfO s))), v16, v17, v18, v19, v20, v21, v22, v23] 714 [] g (c + 40 * nfO s) (s0 + 240 * nfO s))
    : ∀ (q f : Nat) (g : MG) (v16 v17 v18 v19 v20 v21 v22 v23 : Option Value), nfO s - f < q → f ≤ nfO s → Rl s g → V P room_1 (Z.wl ad m1) [some (.ref S.1), some (.ref (ad 30)), some (.ref (ad 600)), some (.int co), some (.int br), some (.int (nI time)), some (.int x6), v7, v8, some (.int (nI (nfO s))), some (.ref (ad (900 + nfO s))), some (.int fw), some (.int lt), some (.int (sumI (s 6) (10 * f))), some (.int (sumI (s 7) (10 * f))), some (.int (nI f)), v16, v17, v18, v19, v20, v21, v22, v23] 593 [] g (c + 40 * f) (s0 + 240 * f) := by
  have hI := hE.1.1
  have hf5 := (IvM_nf hI).1
  have hR := hR0.low hI (fun k k1 k2 => hO.1 k k1 k2)
  intro q
  induction q with
  | zero => intro f g v16 v17 v18 v19 v20 v21 v22 v23 hq; exact absurd hq (Nat.not_lt_zero _)
  | succ q ih =>
    intro f g v16 v17 v18 v19 v20 v21 v22 v23 hq hi hRl
    refine v_iload (C.wl _ _) dL_law_593 rfl ?_
    refine v_iload (C.wl _ _) dL_law_595 rfl ?_
    refine v_icmp_ge (tgt := 714) (C.wl _ _) dL_law_597 (by decide) (fun h597 => ?_) (fun h597 => ?_)
    · have hie : f = nfO s := Nat.le_antisymm hi ((nI_leI (by omega) (by omega)).mp h597)
      subst hie
      exact K g v16 v17 v18 v19 v20 v21 v22 v23 hRl
    · have hff : f < nfO s := Nat.lt_of_not_le fun q => h597 ((nI_leI (by omega) (by omega)).mpr q)
      refine v_iconst (v := 0) (C.wl _ _) dL_law_600 (by decide) ?_
      refine v_istore (lo' := [some (.ref S.1), some (.ref (ad 30)), some (.ref (ad 600)), some (.int co), some (.int br), some (.int (nI time)), some (.int x6), v7, v8, some (.int (nI (nfO s))), some (.ref (ad (900 + nfO s))), some (.int fw), some (.int lt), some (.int (sumI (s 6) (10 * f))), some (.int (sumI (s 7) (10 * f))), some (.int (nI f)), some (.int 0), v17, v18, v19, v20, v21, v22, v23]) (C.wl _ _) dL_law_601 (Nat.le_of_ble_eq_true rfl) rfl rfl ?_
      refine v_lo (lo' := [some (.ref S.1), some (.ref (ad 30)), some (.ref (ad 600)), some (.int co), some (.int br), some (.int (nI time)), some (.int x6), v7, v8, some (.int (nI (nfO s))), some (.ref (ad (900 + nfO s))), some (.int fw), some (.int lt), some (.int (sumI (s 6) (10 * f))), some (.int (sumI (s 7) (10 * f))), some (.int (nI f)), some (.int (nI 0)), v17, v18, v19, v20, v21, v22, v23]) rfl ?_
      have inn : ∀ (n2 k : Nat) (g : MG) (v17 : Option Value), 10 - k < n2 → k ≤ 10 → Rl s g → V P room_1 (Z.wl ad m1) [some (.ref S.1), some (.ref (ad 30)), some (.ref (ad 600)), some (.int co), some (.int br), some (.int (nI time)), some (.int x6), v7, v8, some (.int (nI (nfO s))), some (.ref (ad (900 + nfO s))), some (.int fw), some (.int lt), some (.int (sumI (s 6) (10 * f + k))), some (.int (sumI (s 7) (10 * f + k))), some (.int (nI f)), some (.int (nI k)), v17, v18, v19, v20, v21, v22, v23] 603 [] g (c + 40 * f + 4 * k) (s0 + 240 * f + 24 * k) := by
        intro n2
        induction n2 with
        | zero => intro k g v17 hn; exact absurd hn (Nat.not_lt_zero _)
        | succ n2 ih2 =>
          intro k g v17 hn2 hk hRl
          refine v_iload (C.wl _ _) dL_law_603 rfl ?_
          refine v_bipush (v := 10) (C.wl _ _) dL_law_605 (by decide) ?_
          refine v_icmp_ge (tgt := 708) (C.wl _ _) dL_law_607 (by decide) (fun h607 => ?_) (fun h607 => ?_)
          · have hie : k = 10 := Nat.le_antisymm hk ((nI_leI (a := 10) (by decide) (by omega)).mp h607)
            subst hie
            refine v_iinc (lo' := [some (.ref S.1), some (.ref (ad 30)), some (.ref (ad 600)), some (.int co), some (.int br), some (.int (nI time)), some (.int x6), v7, v8, some (.int (nI (nfO s))), some (.ref (ad (900 + nfO s))), some (.int fw), some (.int lt), some (.int (sumI (s 6) (10 * f + 10))), some (.int (sumI (s 7) (10 * f + 10))), some (.int ((nI f) + 1)), some (.int (nI 10)), v17, v18, v19, v20, v21, v22, v23]) (C.wl _ _) dL_law_708 rfl rfl rfl rfl ?_
            refine v_goto (tgt := 593) (C.wl _ _) dL_law_711 (by decide) ?_
            refine v_lo (lo' := [some (.ref S.1), some (.ref (ad 30)), some (.ref (ad 600)), some (.int co), some (.int br), some (.int (nI time)), some (.int x6), v7, v8, some (.int (nI (nfO s))), some (.ref (ad (900 + nfO s))), some (.int fw), some (.int lt), some (.int (sumI (s 6) (10 * f + 10))), some (.int (sumI (s 7) (10 * f + 10))), some (.int (nI (f + 1))), some (.int (nI 10)), v17, v18, v19, v20, v21, v22, v23]) (by rw [nI_succ f]) ?_
            refine v_wide (k := c + 40 * (f + 1)) (n := s0 + 240 * (f + 1)) (by show c + 40 * f + 4 * 10 ≤ c + 40 * (f + 1); omega) (by show s0 + 240 * f + 24 * 10 ≤ s0 + 240 * (f + 1); omega) ?_
            exact ih (f + 1) g _ _ _ _ _ _ _ _ (by omega) (by omega) hRl
          · have hkk : k < 10 := Nat.lt_of_not_le fun q => h607 ((nI_leI (a := 10) (by decide) (by omega)).mpr q)
            obtain ⟨a, b, w, hab, hb9, hw9, h7, h6, h8⟩ := bl_all hE (show 10 * f + k < 50 by omega)
            refine v_aload_n (C.wl _ _) dL_law_610 rfl rfl ?_
            refine v_iload (C.wl _ _) dL_law_611 rfl ?_
            refine v_iload (C.wl _ _) dL_law_613 rfl ?_
            refine v_iconst (v := 0) (C.wl _ _) dL_law_615 (by decide) ?_
            refine v_callX (n := 3) (k := 30) (as := [.int (nI f), .int (nI k), .int 0]) (C.wl _ _) hW9.S (x_block _ hP9 (Z.wl ad m1) (nI f) (nI k) 0 s g hE.1.1 hE.1.2.1 hRl) (gv (tg2 34 rfl rfl) (tg2 35 rfl rfl) (tg2 36 rfl rfl) (tg1 1 rfl rfl) (tg2 37 rfl rfl)) (by decide +kernel) ⟨Nat.le_of_ble_eq_true rfl, Nat.le_of_ble_eq_true rfl⟩ rfl cx_T rfl rfl (Nat.le_of_ble_eq_true rfl) dL_law_616 ⟨(by show c + 40 * f + 4 * k + 1 ≤ 600130; omega), (by show s0 + 240 * f + 24 * k + 6 ≤ 7301080; omega)⟩ (fun E q g616 hp616 => absurd (cdB_0 hI hff hkk (v := 0) (by decide)) hp616.1) (fun r616 g616 hp616 => ?_)
            obtain ⟨-, hr616, hRl616, hK616⟩ := hp616
            refine v_topi (y := s 6 (10 * f + k)) (hr616.trans (by rw [at_n (by omega) hkk]; rfl)) ?_
            refine v_istore (lo' := [some (.ref S.1), some (.ref (ad 30)), some (.ref (ad 600)), some (.int co), some (.int br), some (.int (nI time)), some (.int x6), v7, v8, some (.int (nI (nfO s))), some (.ref (ad (900 + nfO s))), some (.int fw), some (.int lt), some (.int (sumI (s 6) (10 * f + k))), some (.int (sumI (s 7) (10 * f + k))), some (.int (nI f)), some (.int (nI k)), some (.int (s 6 (10 * f + k))), v18, v19, v20, v21, v22, v23]) (C.wl _ _) dL_law_619 (Nat.le_of_ble_eq_true rfl) rfl rfl ?_
            refine v_iload (C.wl _ _) dL_law_621 rfl ?_
            refine v_iload (C.wl _ _) dL_law_623 rfl ?_
            refine v_iadd (C.wl _ _) dL_law_625 ?_
            refine v_topi (y := sumI (s 6) (10 * f + (k + 1))) rfl ?_
            refine v_istore (lo' := [some (.ref S.1), some (.ref (ad 30)), some (.ref (ad 600)), some (.int co), some (.int br), some (.int (nI time)), some (.int x6), v7, v8, some (.int (nI (nfO s))), some (.ref (ad (900 + nfO s))), some (.int fw), some (.int lt), some (.int (sumI (s 6) (10 * f + (k + 1)))), some (.int (sumI (s 7) (10 * f + k))), some (.int (nI f)), some (.int (nI k)), some (.int (s 6 (10 * f + k))), v18, v19, v20, v21, v22, v23]) (C.wl _ _) dL_law_626 (Nat.le_of_ble_eq_true rfl) rfl rfl ?_
            refine v_iload (C.wl _ _) dL_law_628 rfl ?_
            refine v_aload (C.wl _ _) dL_law_630 rfl ?_
            refine v_iload (C.wl _ _) dL_law_632 rfl ?_
            refine l_aald (k := 900 + nfO s) (n := nfO s) (a := f) (k2 := 900 + f) C ⟨by omega, by omega⟩ (Or.inl hO.2.1.1.1) hO.2.1.1.2 ⟨hff, by omega⟩ (hO.2.1.2 _ hff) ⟨by omega, by omega⟩ dL_law_634 ?_
            refine v_iload (C.wl _ _) dL_law_635 rfl ?_
            refine l_iald (k := 900 + f) (n := 10) (a := k) C ⟨by omega, by omega⟩ (hO.2.2 _ hff).1.1 (hO.2.2 _ hff).1.2 ⟨hkk, by decide⟩ dL_law_637 ?_
            refine v_topi (y := s 7 (10 * f + k)) ((hO.2.2 f hff).2 k hkk) ?_
            refine v_iadd (C.wl _ _) dL_law_638 ?_
            refine v_topi (y := sumI (s 7) (10 * f + (k + 1))) rfl ?_
            refine v_istore (lo' := [some (.ref S.1), some (.ref (ad 30)), some (.ref (ad 600)), some (.int co), some (.int br), some (.int (nI time)), some (.int x6), v7, v8, some (.int (nI (nfO s))), some (.ref (ad (900 + nfO s))), some (.int fw), some (.int lt), some (.int (sumI (s 6) (10 * f + (k + 1)))), some (.int (sumI (s 7) (10 * f + (k + 1)))), some (.int (nI f)), some (.int (nI k)), some (.int (s 6 (10 * f + k))), v18, v19, v20, v21, v22, v23]) (C.wl _ _) dL_law_639 (Nat.le_of_ble_eq_true rfl) rfl rfl ?_
            refine v_iload (C.wl _ _) dL_law_641 rfl ?_
            refine v_if_lt (tgt := 700) (C.wl _ _) dL_law_643 (by decide) (fun h643 => ?_) (fun h643 => ?_)
            · exact absurd (h6 ▸ h643) (nI_0le (by omega))
            · refine v_iload (C.wl _ _) dL_law_646 rfl ?_
              refine v_bipush (v := 9) (C.wl _ _) dL_law_648 (by decide) ?_
              refine v_icmp_gt (tgt := 700) (C.wl _ _) dL_law_650 (by decide) (fun h650 => ?_) (fun h650 => ?_)
              · exact absurd ((nI_ltI (a := 9) (b := b) (by decide) (by omega)).mp (h6 ▸ h650)) (by omega)
              · refine v_aload_n (C.wl _ _) dL_law_653 rfl rfl ?_
                refine v_iload (C.wl _ _) dL_law_654 rfl ?_
                refine v_iload (C.wl _ _) dL_law_656 rfl ?_
                refine v_iconst (v := 1) (C.wl _ _) dL_law_658 (by decide) ?_
                refine v_callX (n := 3) (k := 30) (as := [.int (nI f), .int (nI k), .int 1]) (C.wl _ _) hW9.S (x_block _ hP9 (Z.wl ad m1) (nI f) (nI k) 1 s g616 hE.1.1 hE.1.2.1 hRl616) (gv (tg2 34 rfl rfl) (tg2 35 rfl rfl) (tg2 36 rfl rfl) (tg1 1 rfl rfl) (tg2 37 rfl rfl)) (by decide +kernel) ⟨Nat.le_of_ble_eq_true rfl, Nat.le_of_ble_eq_true rfl⟩ rfl cx_T rfl rfl (Nat.le_of_ble_eq_true rfl) dL_law_659 ⟨(by show c + 40 * f + 4 * k + 1 + 1 ≤ 600130; omega), (by show s0 + 240 * f + 24 * k + 6 + 6 ≤ 7301080; omega)⟩ (fun E q g659 hp659 => absurd (cdB_0 hI hff hkk (v := 1) (by decide)) hp659.1) (fun r659 g659 hp659 => ?_)
                obtain ⟨-, hr659, hRl659, hK659⟩ := hp659
                refine v_topi (y := s 6 (10 * f + k) - s 7 (10 * f + k)) (hr659.trans (by rw [at_n (by omega) hkk]; rfl)) ?_
                refine v_iload (C.wl _ _) dL_law_662 rfl ?_
                refine v_aload (C.wl _ _) dL_law_664 rfl ?_
                refine v_iload (C.wl _ _) dL_law_666 rfl ?_
                refine l_aald (k := 900 + nfO s) (n := nfO s) (a := f) (k2 := 900 + f) C ⟨by omega, by omega⟩ (Or.inl hO.2.1.1.1) hO.2.1.1.2 ⟨hff, by omega⟩ (hO.2.1.2 _ hff) ⟨by omega, by omega⟩ dL_law_668 ?_
                refine v_iload (C.wl _ _) dL_law_669 rfl ?_
                refine l_iald (k := 900 + f) (n := 10) (a := k) C ⟨by omega, by omega⟩ (hO.2.2 _ hff).1.1 (hO.2.2 _ hff).1.2 ⟨hkk, by decide⟩ dL_law_671 ?_
                refine v_topi (y := s 7 (10 * f + k)) ((hO.2.2 f hff).2 k hkk) ?_
                refine v_isub (C.wl _ _) dL_law_672 ?_
                refine v_icmp_ne (tgt := 700) (C.wl _ _) dL_law_673 (by decide) (fun h673 => ?_) (fun h673 => ?_)
                · exact absurd rfl h673
                · refine v_aload_n (C.wl _ _) dL_law_676 rfl rfl ?_
                  refine v_iload (C.wl _ _) dL_law_677 rfl ?_
                  refine v_iload (C.wl _ _) dL_law_679 rfl ?_
                  refine v_iconst (v := 1) (C.wl _ _) dL_law_681 (by decide) ?_
                  refine v_callX (n := 3) (k := 30) (as := [.int (nI f), .int (nI k), .int 1]) (C.wl _ _) hW9.S (x_block _ hP9 (Z.wl ad m1) (nI f) (nI k) 1 s g659 hE.1.1 hE.1.2.1 hRl659) (gv (tg2 34 rfl rfl) (tg2 35 rfl rfl) (tg2 36 rfl rfl) (tg1 1 rfl rfl) (tg2 37 rfl rfl)) (by decide +kernel) ⟨Nat.le_of_ble_eq_true rfl, Nat.le_of_ble_eq_true rfl⟩ rfl cx_T rfl rfl (Nat.le_of_ble_eq_true rfl) dL_law_682 ⟨(by show c + 40 * f + 4 * k + 1 + 1 + 1 ≤ 600130; omega), (by show s0 + 240 * f + 24 * k + 6 + 6 + 6 ≤ 7301080; omega)⟩ (fun E q g682 hp682 => absurd (cdB_0 hI hff hkk (v := 1) (by decide)) hp682.1) (fun r682 g682 hp682 => ?_)
                  obtain ⟨-, hr682, hRl682, hK682⟩ := hp682
                  refine v_topi (y := s 6 (10 * f + k) - s 7 (10 * f + k)) (hr682.trans (by rw [at_n (by omega) hkk]; rfl)) ?_
                  refine v_if_lt (tgt := 700) (C.wl _ _) dL_law_685 (by decide) (fun h685 => ?_) (fun h685 => ?_)
                  · rw [h6, h7, nI_sub hab] at h685
                    exact absurd h685 (nI_0le (by omega))
                  · refine v_aload_n (C.wl _ _) dL_law_688 rfl rfl ?_
                    refine v_iload (C.wl _ _) dL_law_689 rfl ?_
                    refine v_iload (C.wl _ _) dL_law_691 rfl ?_
                    refine v_iconst (v := 2) (C.wl _ _) dL_law_693 (by decide) ?_
                    refine v_callX (n := 3) (k := 30) (as := [.int (nI f), .int (nI k), .int 2]) (C.wl _ _) hW9.S (x_block _ hP9 (Z.wl ad m1) (nI f) (nI k) 2 s g682 hE.1.1 hE.1.2.1 hRl682) (gv (tg2 34 rfl rfl) (tg2 35 rfl rfl) (tg2 36 rfl rfl) (tg1 1 rfl rfl) (tg2 37 rfl rfl)) (by decide +kernel) ⟨Nat.le_of_ble_eq_true rfl, Nat.le_of_ble_eq_true rfl⟩ rfl cx_T rfl rfl (Nat.le_of_ble_eq_true rfl) dL_law_694 ⟨(by show c + 40 * f + 4 * k + 1 + 1 + 1 + 1 ≤ 600130; omega), (by show s0 + 240 * f + 24 * k + 6 + 6 + 6 + 6 ≤ 7301080; omega)⟩ (fun E q g694 hp694 => absurd (cdB_0 hI hff hkk (v := 2) (by decide)) hp694.1) (fun r694 g694 hp694 => ?_)
                    obtain ⟨-, hr694, hRl694, hK694⟩ := hp694
                    refine v_topi (y := s 8 (10 * f + k)) (hr694.trans (by rw [at_n (by omega) hkk]; rfl)) ?_
                    refine v_if_ge (tgt := 702) (C.wl _ _) dL_law_697 (by decide) (fun h697 => ?_) (fun h697 => ?_)
                    · refine v_iinc (lo' := [some (.ref S.1), some (.ref (ad 30)), some (.ref (ad 600)), some (.int co), some (.int br), some (.int (nI time)), some (.int x6), v7, v8, some (.int (nI (nfO s))), some (.ref (ad (900 + nfO s))), some (.int fw), some (.int lt), some (.int (sumI (s 6) (10 * f + (k + 1)))), some (.int (sumI (s 7) (10 * f + (k + 1)))), some (.int (nI f)), some (.int ((nI k) + 1)), some (.int (s 6 (10 * f + k))), v18, v19, v20, v21, v22, v23]) (C.wl _ _) dL_law_702 rfl rfl rfl rfl ?_
                      refine v_goto (tgt := 603) (C.wl _ _) dL_law_705 (by decide) ?_
                      refine v_lo (lo' := [some (.ref S.1), some (.ref (ad 30)), some (.ref (ad 600)), some (.int co), some (.int br), some (.int (nI time)), some (.int x6), v7, v8, some (.int (nI (nfO s))), some (.ref (ad (900 + nfO s))), some (.int fw), some (.int lt), some (.int (sumI (s 6) (10 * f + (k + 1)))), some (.int (sumI (s 7) (10 * f + (k + 1)))), some (.int (nI f)), some (.int (nI (k + 1))), some (.int (s 6 (10 * f + k))), v18, v19, v20, v21, v22, v23]) (by rw [nI_succ k]) ?_
                      refine v_wide (k := c + 40 * f + 4 * (k + 1)) (n := s0 + 240 * f + 24 * (k + 1)) (by show c + 40 * f + 4 * k + 1 + 1 + 1 + 1 ≤ c + 40 * f + 4 * (k + 1); omega) (by show s0 + 240 * f + 24 * k + 6 + 6 + 6 + 6 ≤ s0 + 240 * f + 24 * (k + 1); omega) ?_
                      exact ih2 (k + 1) g694 _ (by omega) (by omega) hRl694
                    · rw [h8] at h697
                      exact absurd ((nI_leI (a := 0) (by decide) (by omega)).mpr (Nat.zero_le _)) h697
      exact inn _ 0 g _ (Nat.lt_succ_self _) (Nat.zero_le _) hRl
