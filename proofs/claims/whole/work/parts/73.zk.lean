/-! THE LAW ITSELF: its cases -/
set_option maxRecDepth 100000 in
theorem case_9 {P : Pm} {Z : Zc} {b L n cs sl : Nat} {xs : Nat → Int32} {g : MG} (hl9 : P.2.1.stackTraces = false) (C : Cx P Z cL_law "PosterTypesLaw") (hA : CxS P) (hX : CxX P b L xs) (hz : b < Z.z) (hn : 4 * n + 4 ≤ L) (hL : L ≤ 2048) (hI : LI n g) (hR : Rl g g) (hc : cs + 6 ≤ 601024 ∧ sl + 60 ≤ 7293034)
    (K : ∀ (ad9 : Nat → Nat) (g2 : MG), adE Z ad9 → LI (n + 1) g2 → Rl g2 g2 → V P room_1 (Z.wa ad9) (loL (Z.wa ad9) b n none none none none) 1332 [] g2 (cs + 6) (sl + 60)) : V P room_1 Z (loL Z b n none none none none) 744 [] g cs sl := by
  refine v_aload_n C dL_law_744 rfl rfl ?_
  refine v_aload_n C dL_law_745 rfl rfl ?_
  refine v_iload C dL_law_746 rfl ?_
  refine v_iconst (v := 1) C dL_law_748 (by decide) ?_
  refine v_iadd C dL_law_749 ?_
  refine v_topi (ixL n 1) ?_
  refine v_sld C hX hz ⟨by omega, by omega⟩ dL_law_750 ?_
  refine v_aload_n C dL_law_751 rfl rfl ?_
  refine v_callW (n := 3) (as := [.ref (Z.ad 30), .int (xs (4 * n + 1)), .ref (Z.ad 500)]) C hA (w_strike _ hl9 Z (xs (4 * n + 1)) n g g hI hR) (gsw (tg3 121 rfl rfl) (tg3 122 rfl rfl) (tg1 0 rfl rfl) (tg3 123 rfl rfl)) (by decide +kernel) ⟨(Nat.le_of_ble_eq_true rfl), (Nat.le_of_ble_eq_true rfl)⟩ rfl rfl (Nat.le_of_ble_eq_true rfl) dL_law_752 ⟨(show cs + 1 ≤ 601024 by omega), (show sl + 6 ≤ 7293034 by omega)⟩ (fun r1 ad9 gu hp => ?_)
  obtain ⟨hr1, hE, g1, hR1, hF1, hu⟩ := hp
  have e26 : E26 gu g := by rw [show gu = _ from hu]; exact e26_law hF1
  refine v_lo (loL_wa hE b n none none none none) ?_
  have hz9 : b < (Z.wa ad9).z := hz
  refine v_istore (lo' := loL (Z.wa ad9) b n (some (.int r1)) none none none) (C.wa ad9) dL_law_755 (Nat.le_of_ble_eq_true rfl) rfl rfl ?_
  refine v_aload_n (C.wa ad9) dL_law_757 rfl rfl ?_
  refine v_aload_n (C.wa ad9) dL_law_758 rfl rfl ?_
  refine v_iload (C.wa ad9) dL_law_759 rfl ?_
  refine v_iconst (v := 1) (C.wa ad9) dL_law_761 (by decide) ?_
  refine v_iadd (C.wa ad9) dL_law_762 ?_
  refine v_topi (ixL n 1) ?_
  refine v_sld (C.wa ad9) hX hz ⟨by omega, by omega⟩ dL_law_763 ?_
  refine v_callVi (n := 1) (k := 0) (as := [.int (xs (4 * n + 1))]) (C.wa ad9) (c_strike _ (Z.wa ad9) (xs (4 * n + 1)) gu (hI.1.e26 e26)) (gv (tg4 144 rfl rfl) (tg4 145 rfl rfl) (tg4 146 rfl rfl) (tg1 6 rfl rfl) (tg4 147 rfl rfl)) (by decide +kernel) ⟨(Nat.le_of_ble_eq_true rfl), (Nat.le_of_ble_eq_true rfl)⟩ rfl cx_M rfl rfl (Nat.le_of_ble_eq_true rfl) dL_law_764 ⟨(show cs + 1 ≤ 601024 by omega), (show sl + 6 ≤ 7293034 by omega)⟩ (fun r2 g2 hp2 => ?_)
  obtain ⟨t1, t2, t3, t4⟩ := turn (LI_strike hI (by omega) (xs (4 * n + 1))) hR1 hu (cong_strike e26 (xs (4 * n + 1))) hp2
  refine v_istore (lo' := loL (Z.wa ad9) b n (some (.int r1)) (some (.int r2)) none none) (C.wa ad9) dL_law_767 (Nat.le_of_ble_eq_true rfl) rfl rfl ?_
  refine v_aload_n (C.wa ad9) dL_law_769 rfl rfl ?_
  refine v_callVi (n := 0) (k := 0) (as := []) (C.wa ad9) (c_thrown _ (Z.wa ad9) g2) (gv (tg4 37 rfl rfl) (tg4 38 rfl rfl) (tg4 39 rfl rfl) (tg1 6 rfl rfl) (tg4 40 rfl rfl)) (by decide +kernel) ⟨(Nat.le_of_ble_eq_true rfl), (Nat.le_of_ble_eq_true rfl)⟩ rfl cx_M rfl rfl (Nat.le_of_ble_eq_true rfl) dL_law_770 ⟨(show cs + 1 ≤ 601024 by omega), (show sl + 6 ≤ 7293034 by omega)⟩ (fun r3 g3 hp3 => ?_)
  obtain ⟨hr3, hg3⟩ := hp3
  subst hg3
  refine v_iload (C.wa ad9) dL_law_773 rfl ?_
  refine v_icmp_eq (tgt := 780) (C.wa ad9) dL_law_775 (by decide) (fun _ => ?_) (fun h => absurd (hr3.trans (t1.trans hr1.symm)) h)
  refine v_iload (C.wa ad9) dL_law_780 rfl ?_
  have fin : V P room_1 (Z.wa ad9) (loL (Z.wa ad9) b n (some (.int r1)) (some (.int r2)) none none) 797 [] g3 (cs + 1) (sl + 6) := by
    refine v_goto (tgt := 1332) (C.wa ad9) dL_law_797 (by decide) ?_
    refine v_wide (k := cs + 6) (n := sl + 60) (by omega) (by omega) ?_
    exact v_lw (lo' := loL (Z.wa ad9) b n none none none none) (Nat.le_of_ble_eq_true rfl) loL_no (K ad9 g3 hE t3 t4)
  refine v_if_ne (tgt := 797) (C.wa ad9) dL_law_782 (by decide) (fun _ => fin) (fun h => ?_)
  obtain ⟨t5, t6⟩ := t2 (nI_z3 (Nat.le_trans (le_strike (xs (4 * n + 1)) g) (by decide)) (hr1.symm.trans h))
  refine v_aload_n (C.wa ad9) dL_law_785 rfl rfl ?_
  refine v_iconst (v := 0) (C.wa ad9) dL_law_786 (by decide) ?_
  refine v_lald0 (C.wa ad9) dL_law_787 ?_
  refine v_iload (C.wa ad9) dL_law_788 rfl ?_
  refine v_i2l (C.wa ad9) dL_law_790 ?_
  refine v_lcmp (C.wa ad9) dL_law_791 ?_
  refine v_if_eq (tgt := 797) (C.wa ad9) dL_law_792 (by decide) (fun _ => fin) (fun h => absurd (by rw [t6, t5]; exact lcmp_eq _) h)
set_option maxRecDepth 100000 in
theorem case_10 {P : Pm} {Z : Zc} {b L n cs sl : Nat} {xs : Nat → Int32} {g : MG} (hl9 : P.2.1.stackTraces = false) (C : Cx P Z cL_law "PosterTypesLaw") (hA : CxS P) (hX : CxX P b L xs) (hz : b < Z.z) (hn : 4 * n + 4 ≤ L) (hL : L ≤ 2048) (hI : LI n g) (hR : Rl g g) (hc : cs + 6 ≤ 601024 ∧ sl + 60 ≤ 7293034)
    (K : ∀ (ad9 : Nat → Nat) (g2 : MG), adE Z ad9 → LI (n + 1) g2 → Rl g2 g2 → V P room_1 (Z.wa ad9) (loL (Z.wa ad9) b n none none none none) 1332 [] g2 (cs + 6) (sl + 60)) : V P room_1 Z (loL Z b n none none none none) 800 [] g cs sl := by
  refine v_aload_n C dL_law_800 rfl rfl ?_
  refine v_aload_n C dL_law_801 rfl rfl ?_
  refine v_iload C dL_law_802 rfl ?_
  refine v_iconst (v := 1) C dL_law_804 (by decide) ?_
  refine v_iadd C dL_law_805 ?_
  refine v_topi (ixL n 1) ?_
  refine v_sld C hX hz ⟨by omega, by omega⟩ dL_law_806 ?_
  refine v_aload_n C dL_law_807 rfl rfl ?_
  refine v_iload C dL_law_808 rfl ?_
  refine v_iconst (v := 2) C dL_law_810 (by decide) ?_
  refine v_iadd C dL_law_811 ?_
  refine v_topi (ixL n 2) ?_
  refine v_sld C hX hz ⟨by omega, by omega⟩ dL_law_812 ?_
  refine v_aload_n C dL_law_813 rfl rfl ?_
  refine v_iload C dL_law_814 rfl ?_
  refine v_iconst (v := 3) C dL_law_816 (by decide) ?_
  refine v_iadd C dL_law_817 ?_
  refine v_topi (ixL n 3) ?_
  refine v_sld C hX hz ⟨by omega, by omega⟩ dL_law_818 ?_
  refine v_aload_n C dL_law_819 rfl rfl ?_
  refine v_callW (n := 5) (as := [.ref (Z.ad 30), .int (xs (4 * n + 1)), .int (xs (4 * n + 2)), .int (xs (4 * n + 3)), .ref (Z.ad 500)]) C hA (w_block _ hl9 Z (xs (4 * n + 1)) (xs (4 * n + 2)) (xs (4 * n + 3)) n g g hI hR) (gsw (tg3 137 rfl rfl) (tg3 138 rfl rfl) (tg1 0 rfl rfl) (tg3 139 rfl rfl)) (by decide +kernel) ⟨(Nat.le_of_ble_eq_true rfl), (Nat.le_of_ble_eq_true rfl)⟩ rfl rfl (Nat.le_of_ble_eq_true rfl) dL_law_820 ⟨(show cs + 1 ≤ 601024 by omega), (show sl + 6 ≤ 7293034 by omega)⟩ (fun r1 ad9 gu hp => ?_)
  obtain ⟨hr1, hE, g1, hR1, hF1, hu⟩ := hp
  have e26 : E26 gu g := by rw [show gu = _ from hu]; exact e26_law hF1
  refine v_lo (loL_wa hE b n none none none none) ?_
  have hz9 : b < (Z.wa ad9).z := hz
  refine v_istore (lo' := loL (Z.wa ad9) b n (some (.int r1)) none none none) (C.wa ad9) dL_law_823 (Nat.le_of_ble_eq_true rfl) rfl rfl ?_
  refine v_aload_n (C.wa ad9) dL_law_825 rfl rfl ?_
  refine v_aload_n (C.wa ad9) dL_law_826 rfl rfl ?_
  refine v_iload (C.wa ad9) dL_law_827 rfl ?_
  refine v_iconst (v := 1) (C.wa ad9) dL_law_829 (by decide) ?_
  refine v_iadd (C.wa ad9) dL_law_830 ?_
  refine v_topi (ixL n 1) ?_
  refine v_sld (C.wa ad9) hX hz ⟨by omega, by omega⟩ dL_law_831 ?_
  refine v_aload_n (C.wa ad9) dL_law_832 rfl rfl ?_
  refine v_iload (C.wa ad9) dL_law_833 rfl ?_
  refine v_iconst (v := 2) (C.wa ad9) dL_law_835 (by decide) ?_
  refine v_iadd (C.wa ad9) dL_law_836 ?_
  refine v_topi (ixL n 2) ?_
  refine v_sld (C.wa ad9) hX hz ⟨by omega, by omega⟩ dL_law_837 ?_
  refine v_aload_n (C.wa ad9) dL_law_838 rfl rfl ?_
  refine v_iload (C.wa ad9) dL_law_839 rfl ?_
  refine v_iconst (v := 3) (C.wa ad9) dL_law_841 (by decide) ?_
  refine v_iadd (C.wa ad9) dL_law_842 ?_
  refine v_topi (ixL n 3) ?_
  refine v_sld (C.wa ad9) hX hz ⟨by omega, by omega⟩ dL_law_843 ?_
  refine v_callVi (n := 3) (k := 0) (as := [.int (xs (4 * n + 1)), .int (xs (4 * n + 2)), .int (xs (4 * n + 3))]) (C.wa ad9) (c_block _ (Z.wa ad9) (xs (4 * n + 1)) (xs (4 * n + 2)) (xs (4 * n + 3)) gu (hI.1.e26 e26)) (gv (tg4 148 rfl rfl) (tg4 149 rfl rfl) (tg4 150 rfl rfl) (tg1 6 rfl rfl) (tg4 151 rfl rfl)) (by decide +kernel) ⟨(Nat.le_of_ble_eq_true rfl), (Nat.le_of_ble_eq_true rfl)⟩ rfl cx_M rfl rfl (Nat.le_of_ble_eq_true rfl) dL_law_844 ⟨(show cs + 1 ≤ 601024 by omega), (show sl + 6 ≤ 7293034 by omega)⟩ (fun r2 g2 hp2 => ?_)
  obtain ⟨t1, t2, t3, t4⟩ := turn (hI.rf (by omega)) hR1 hu (cong_block e26 (xs (4 * n + 1)) (xs (4 * n + 2)) (xs (4 * n + 3))) hp2
  refine v_istore (lo' := loL (Z.wa ad9) b n (some (.int r1)) (some (.int r2)) none none) (C.wa ad9) dL_law_847 (Nat.le_of_ble_eq_true rfl) rfl rfl ?_
  refine v_aload_n (C.wa ad9) dL_law_849 rfl rfl ?_
  refine v_callVi (n := 0) (k := 0) (as := []) (C.wa ad9) (c_thrown _ (Z.wa ad9) g2) (gv (tg4 37 rfl rfl) (tg4 38 rfl rfl) (tg4 39 rfl rfl) (tg1 6 rfl rfl) (tg4 40 rfl rfl)) (by decide +kernel) ⟨(Nat.le_of_ble_eq_true rfl), (Nat.le_of_ble_eq_true rfl)⟩ rfl cx_M rfl rfl (Nat.le_of_ble_eq_true rfl) dL_law_850 ⟨(show cs + 1 ≤ 601024 by omega), (show sl + 6 ≤ 7293034 by omega)⟩ (fun r3 g3 hp3 => ?_)
  obtain ⟨hr3, hg3⟩ := hp3
  subst hg3
  refine v_iload (C.wa ad9) dL_law_853 rfl ?_
  refine v_icmp_eq (tgt := 860) (C.wa ad9) dL_law_855 (by decide) (fun _ => ?_) (fun h => absurd (hr3.trans (t1.trans hr1.symm)) h)
  refine v_iload (C.wa ad9) dL_law_860 rfl ?_
  have fin : V P room_1 (Z.wa ad9) (loL (Z.wa ad9) b n (some (.int r1)) (some (.int r2)) none none) 877 [] g3 (cs + 1) (sl + 6) := by
    refine v_goto (tgt := 1332) (C.wa ad9) dL_law_877 (by decide) ?_
    refine v_wide (k := cs + 6) (n := sl + 60) (by omega) (by omega) ?_
    exact v_lw (lo' := loL (Z.wa ad9) b n none none none none) (Nat.le_of_ble_eq_true rfl) loL_no (K ad9 g3 hE t3 t4)
  refine v_if_ne (tgt := 877) (C.wa ad9) dL_law_862 (by decide) (fun _ => fin) (fun h => ?_)
  obtain ⟨t5, t6⟩ := t2 (nI_z3 (Nat.le_trans (le_block (xs (4 * n + 1)) (xs (4 * n + 2)) (xs (4 * n + 3)) g) (by decide)) (hr1.symm.trans h))
  refine v_aload_n (C.wa ad9) dL_law_865 rfl rfl ?_
  refine v_iconst (v := 0) (C.wa ad9) dL_law_866 (by decide) ?_
  refine v_lald0 (C.wa ad9) dL_law_867 ?_
  refine v_iload (C.wa ad9) dL_law_868 rfl ?_
  refine v_i2l (C.wa ad9) dL_law_870 ?_
  refine v_lcmp (C.wa ad9) dL_law_871 ?_
  refine v_if_eq (tgt := 877) (C.wa ad9) dL_law_872 (by decide) (fun _ => fin) (fun h => absurd (by rw [t6, t5]; exact lcmp_eq _) h)
set_option maxRecDepth 100000 in
theorem case_11 {P : Pm} {Z : Zc} {b L n cs sl : Nat} {xs : Nat → Int32} {g : MG} (hl9 : P.2.1.stackTraces = false) (C : Cx P Z cL_law "PosterTypesLaw") (hA : CxS P) (hX : CxX P b L xs) (hz : b < Z.z) (hn : 4 * n + 4 ≤ L) (hL : L ≤ 2048) (hI : LI n g) (hR : Rl g g) (hc : cs + 6 ≤ 601024 ∧ sl + 60 ≤ 7293034)
    (K : ∀ (ad9 : Nat → Nat) (g2 : MG), adE Z ad9 → LI (n + 1) g2 → Rl g2 g2 → V P room_1 (Z.wa ad9) (loL (Z.wa ad9) b n none none none none) 1332 [] g2 (cs + 6) (sl + 60)) : V P room_1 Z (loL Z b n none none none none) 880 [] g cs sl := by
  refine v_aload_n C dL_law_880 rfl rfl ?_
  refine v_aload_n C dL_law_881 rfl rfl ?_
  refine v_iload C dL_law_882 rfl ?_
  refine v_iconst (v := 1) C dL_law_884 (by decide) ?_
  refine v_iadd C dL_law_885 ?_
  refine v_topi (ixL n 1) ?_
  refine v_sld C hX hz ⟨by omega, by omega⟩ dL_law_886 ?_
  refine v_aload_n C dL_law_887 rfl rfl ?_
  refine v_iload C dL_law_888 rfl ?_
  refine v_iconst (v := 2) C dL_law_890 (by decide) ?_
  refine v_iadd C dL_law_891 ?_
  refine v_topi (ixL n 2) ?_
  refine v_sld C hX hz ⟨by omega, by omega⟩ dL_law_892 ?_
  refine v_aload_n C dL_law_893 rfl rfl ?_
  refine v_callW (n := 4) (as := [.ref (Z.ad 30), .int (xs (4 * n + 1)), .int (xs (4 * n + 2)), .ref (Z.ad 500)]) C hA (w_told _ hl9 Z (xs (4 * n + 1)) (xs (4 * n + 2)) n g g hI hR) (gsw (tg3 141 rfl rfl) (tg3 142 rfl rfl) (tg1 0 rfl rfl) (tg3 143 rfl rfl)) (by decide +kernel) ⟨(Nat.le_of_ble_eq_true rfl), (Nat.le_of_ble_eq_true rfl)⟩ rfl rfl (Nat.le_of_ble_eq_true rfl) dL_law_894 ⟨(show cs + 1 ≤ 601024 by omega), (show sl + 6 ≤ 7293034 by omega)⟩ (fun r1 ad9 gu hp => ?_)
  obtain ⟨hr1, hE, g1, hR1, hF1, hu⟩ := hp
  have e26 : E26 gu g := by rw [show gu = _ from hu]; exact e26_law hF1
  refine v_lo (loL_wa hE b n none none none none) ?_
  have hz9 : b < (Z.wa ad9).z := hz
  refine v_istore (lo' := loL (Z.wa ad9) b n (some (.int r1)) none none none) (C.wa ad9) dL_law_897 (Nat.le_of_ble_eq_true rfl) rfl rfl ?_
  refine v_aload_n (C.wa ad9) dL_law_899 rfl rfl ?_
  refine v_aload_n (C.wa ad9) dL_law_900 rfl rfl ?_
  refine v_iload (C.wa ad9) dL_law_901 rfl ?_
  refine v_iconst (v := 1) (C.wa ad9) dL_law_903 (by decide) ?_
  refine v_iadd (C.wa ad9) dL_law_904 ?_
  refine v_topi (ixL n 1) ?_
  refine v_sld (C.wa ad9) hX hz ⟨by omega, by omega⟩ dL_law_905 ?_
  refine v_aload_n (C.wa ad9) dL_law_906 rfl rfl ?_
  refine v_iload (C.wa ad9) dL_law_907 rfl ?_
  refine v_iconst (v := 2) (C.wa ad9) dL_law_909 (by decide) ?_
  refine v_iadd (C.wa ad9) dL_law_910 ?_
  refine v_topi (ixL n 2) ?_
  refine v_sld (C.wa ad9) hX hz ⟨by omega, by omega⟩ dL_law_911 ?_
  refine v_callVi (n := 2) (k := 0) (as := [.int (xs (4 * n + 1)), .int (xs (4 * n + 2))]) (C.wa ad9) (c_told _ (Z.wa ad9) (xs (4 * n + 1)) (xs (4 * n + 2)) gu (hI.1.e26 e26)) (gv (tg4 156 rfl rfl) (tg4 157 rfl rfl) (tg4 158 rfl rfl) (tg1 6 rfl rfl) (tg4 159 rfl rfl)) (by decide +kernel) ⟨(Nat.le_of_ble_eq_true rfl), (Nat.le_of_ble_eq_true rfl)⟩ rfl cx_M rfl rfl (Nat.le_of_ble_eq_true rfl) dL_law_912 ⟨(show cs + 1 ≤ 601024 by omega), (show sl + 6 ≤ 7293034 by omega)⟩ (fun r2 g2 hp2 => ?_)
  obtain ⟨t1, t2, t3, t4⟩ := turn (hI.rf (by omega)) hR1 hu (cong_told e26 (xs (4 * n + 1)) (xs (4 * n + 2))) hp2
  refine v_istore (lo' := loL (Z.wa ad9) b n (some (.int r1)) (some (.int r2)) none none) (C.wa ad9) dL_law_915 (Nat.le_of_ble_eq_true rfl) rfl rfl ?_
  refine v_aload_n (C.wa ad9) dL_law_917 rfl rfl ?_
  refine v_callVi (n := 0) (k := 0) (as := []) (C.wa ad9) (c_thrown _ (Z.wa ad9) g2) (gv (tg4 37 rfl rfl) (tg4 38 rfl rfl) (tg4 39 rfl rfl) (tg1 6 rfl rfl) (tg4 40 rfl rfl)) (by decide +kernel) ⟨(Nat.le_of_ble_eq_true rfl), (Nat.le_of_ble_eq_true rfl)⟩ rfl cx_M rfl rfl (Nat.le_of_ble_eq_true rfl) dL_law_918 ⟨(show cs + 1 ≤ 601024 by omega), (show sl + 6 ≤ 7293034 by omega)⟩ (fun r3 g3 hp3 => ?_)
  obtain ⟨hr3, hg3⟩ := hp3
  subst hg3
  refine v_iload (C.wa ad9) dL_law_921 rfl ?_
  refine v_icmp_eq (tgt := 928) (C.wa ad9) dL_law_923 (by decide) (fun _ => ?_) (fun h => absurd (hr3.trans (t1.trans hr1.symm)) h)
  refine v_iload (C.wa ad9) dL_law_928 rfl ?_
  have fin : V P room_1 (Z.wa ad9) (loL (Z.wa ad9) b n (some (.int r1)) (some (.int r2)) none none) 945 [] g3 (cs + 1) (sl + 6) := by
    refine v_goto (tgt := 1332) (C.wa ad9) dL_law_945 (by decide) ?_
    refine v_wide (k := cs + 6) (n := sl + 60) (by omega) (by omega) ?_
    exact v_lw (lo' := loL (Z.wa ad9) b n none none none none) (Nat.le_of_ble_eq_true rfl) loL_no (K ad9 g3 hE t3 t4)
  refine v_if_ne (tgt := 945) (C.wa ad9) dL_law_930 (by decide) (fun _ => fin) (fun h => ?_)
  obtain ⟨t5, t6⟩ := t2 (nI_z3 (Nat.le_trans (le_told (xs (4 * n + 1)) (xs (4 * n + 2)) g) (by decide)) (hr1.symm.trans h))
  refine v_aload_n (C.wa ad9) dL_law_933 rfl rfl ?_
  refine v_iconst (v := 0) (C.wa ad9) dL_law_934 (by decide) ?_
  refine v_lald0 (C.wa ad9) dL_law_935 ?_
  refine v_iload (C.wa ad9) dL_law_936 rfl ?_
  refine v_i2l (C.wa ad9) dL_law_938 ?_
  refine v_lcmp (C.wa ad9) dL_law_939 ?_
  refine v_if_eq (tgt := 945) (C.wa ad9) dL_law_940 (by decide) (fun _ => fin) (fun h => absurd (by rw [t6, t5]; exact lcmp_eq _) h)
set_option maxRecDepth 100000 in
theorem case_12 {P : Pm} {Z : Zc} {b L n cs sl : Nat} {xs : Nat → Int32} {g : MG} (hl9 : P.2.1.stackTraces = false) (C : Cx P Z cL_law "PosterTypesLaw") (hA : CxS P) (hX : CxX P b L xs) (hz : b < Z.z) (hn : 4 * n + 4 ≤ L) (hL : L ≤ 2048) (hI : LI n g) (hR : Rl g g) (hc : cs + 6 ≤ 601024 ∧ sl + 60 ≤ 7293034)
    (K : ∀ (ad9 : Nat → Nat) (g2 : MG), adE Z ad9 → LI (n + 1) g2 → Rl g2 g2 → V P room_1 (Z.wa ad9) (loL (Z.wa ad9) b n none none none none) 1332 [] g2 (cs + 6) (sl + 60)) : V P room_1 Z (loL Z b n none none none none) 948 [] g cs sl := by
  refine v_aload_n C dL_law_948 rfl rfl ?_
  refine v_aload_n C dL_law_949 rfl rfl ?_
  refine v_iload C dL_law_950 rfl ?_
  refine v_iconst (v := 1) C dL_law_952 (by decide) ?_
  refine v_iadd C dL_law_953 ?_
  refine v_topi (ixL n 1) ?_
  refine v_sld C hX hz ⟨by omega, by omega⟩ dL_law_954 ?_
  refine v_aload_n C dL_law_955 rfl rfl ?_
  refine v_iload C dL_law_956 rfl ?_
  refine v_iconst (v := 2) C dL_law_958 (by decide) ?_
  refine v_iadd C dL_law_959 ?_
  refine v_topi (ixL n 2) ?_
  refine v_sld C hX hz ⟨by omega, by omega⟩ dL_law_960 ?_
  refine v_aload_n C dL_law_961 rfl rfl ?_
  refine v_iload C dL_law_962 rfl ?_
  refine v_iconst (v := 3) C dL_law_964 (by decide) ?_
  refine v_iadd C dL_law_965 ?_
  refine v_topi (ixL n 3) ?_
  refine v_sld C hX hz ⟨by omega, by omega⟩ dL_law_966 ?_
  refine v_aload_n C dL_law_967 rfl rfl ?_
  refine v_callW (n := 5) (as := [.ref (Z.ad 30), .int (xs (4 * n + 1)), .int (xs (4 * n + 2)), .int (xs (4 * n + 3)), .ref (Z.ad 500)]) C hA (w_about _ hl9 Z (xs (4 * n + 1)) (xs (4 * n + 2)) (xs (4 * n + 3)) n g g hI hR) (gsw (tg3 145 rfl rfl) (tg3 146 rfl rfl) (tg1 0 rfl rfl) (tg3 147 rfl rfl)) (by decide +kernel) ⟨(Nat.le_of_ble_eq_true rfl), (Nat.le_of_ble_eq_true rfl)⟩ rfl rfl (Nat.le_of_ble_eq_true rfl) dL_law_968 ⟨(show cs + 1 ≤ 601024 by omega), (show sl + 6 ≤ 7293034 by omega)⟩ (fun r1 ad9 gu hp => ?_)
  obtain ⟨hr1, hE, g1, hR1, hF1, hu⟩ := hp
  have e26 : E26 gu g := by rw [show gu = _ from hu]; exact e26_law hF1
  refine v_lo (loL_wa hE b n none none none none) ?_
  have hz9 : b < (Z.wa ad9).z := hz
  refine v_istore (lo' := loL (Z.wa ad9) b n (some (.int r1)) none none none) (C.wa ad9) dL_law_971 (Nat.le_of_ble_eq_true rfl) rfl rfl ?_
  refine v_aload_n (C.wa ad9) dL_law_973 rfl rfl ?_
  refine v_aload_n (C.wa ad9) dL_law_974 rfl rfl ?_
  refine v_iload (C.wa ad9) dL_law_975 rfl ?_
  refine v_iconst (v := 1) (C.wa ad9) dL_law_977 (by decide) ?_
  refine v_iadd (C.wa ad9) dL_law_978 ?_
  refine v_topi (ixL n 1) ?_
  refine v_sld (C.wa ad9) hX hz ⟨by omega, by omega⟩ dL_law_979 ?_
  refine v_aload_n (C.wa ad9) dL_law_980 rfl rfl ?_
  refine v_iload (C.wa ad9) dL_law_981 rfl ?_
  refine v_iconst (v := 2) (C.wa ad9) dL_law_983 (by decide) ?_
  refine v_iadd (C.wa ad9) dL_law_984 ?_
  refine v_topi (ixL n 2) ?_
  refine v_sld (C.wa ad9) hX hz ⟨by omega, by omega⟩ dL_law_985 ?_
  refine v_aload_n (C.wa ad9) dL_law_986 rfl rfl ?_
  refine v_iload (C.wa ad9) dL_law_987 rfl ?_
  refine v_iconst (v := 3) (C.wa ad9) dL_law_989 (by decide) ?_
  refine v_iadd (C.wa ad9) dL_law_990 ?_
  refine v_topi (ixL n 3) ?_
  refine v_sld (C.wa ad9) hX hz ⟨by omega, by omega⟩ dL_law_991 ?_
  refine v_callVi (n := 3) (k := 0) (as := [.int (xs (4 * n + 1)), .int (xs (4 * n + 2)), .int (xs (4 * n + 3))]) (C.wa ad9) (c_about _ (Z.wa ad9) (xs (4 * n + 1)) (xs (4 * n + 2)) (xs (4 * n + 3)) gu (hI.1.e26 e26)) (gv (tg4 168 rfl rfl) (tg4 169 rfl rfl) (tg4 170 rfl rfl) (tg1 6 rfl rfl) (tg4 171 rfl rfl)) (by decide +kernel) ⟨(Nat.le_of_ble_eq_true rfl), (Nat.le_of_ble_eq_true rfl)⟩ rfl cx_M rfl rfl (Nat.le_of_ble_eq_true rfl) dL_law_992 ⟨(show cs + 1 ≤ 601024 by omega), (show sl + 6 ≤ 7293034 by omega)⟩ (fun r2 g2 hp2 => ?_)
  obtain ⟨t1, t2, t3, t4⟩ := turn (hI.rf (by omega)) hR1 hu (cong_about e26 (xs (4 * n + 1)) (xs (4 * n + 2)) (xs (4 * n + 3))) hp2
  refine v_istore (lo' := loL (Z.wa ad9) b n (some (.int r1)) (some (.int r2)) none none) (C.wa ad9) dL_law_995 (Nat.le_of_ble_eq_true rfl) rfl rfl ?_
  refine v_aload_n (C.wa ad9) dL_law_997 rfl rfl ?_
  refine v_callVi (n := 0) (k := 0) (as := []) (C.wa ad9) (c_thrown _ (Z.wa ad9) g2) (gv (tg4 37 rfl rfl) (tg4 38 rfl rfl) (tg4 39 rfl rfl) (tg1 6 rfl rfl) (tg4 40 rfl rfl)) (by decide +kernel) ⟨(Nat.le_of_ble_eq_true rfl), (Nat.le_of_ble_eq_true rfl)⟩ rfl cx_M rfl rfl (Nat.le_of_ble_eq_true rfl) dL_law_998 ⟨(show cs + 1 ≤ 601024 by omega), (show sl + 6 ≤ 7293034 by omega)⟩ (fun r3 g3 hp3 => ?_)
  obtain ⟨hr3, hg3⟩ := hp3
  subst hg3
  refine v_iload (C.wa ad9) dL_law_1001 rfl ?_
  refine v_icmp_eq (tgt := 1008) (C.wa ad9) dL_law_1003 (by decide) (fun _ => ?_) (fun h => absurd (hr3.trans (t1.trans hr1.symm)) h)
  refine v_iload (C.wa ad9) dL_law_1008 rfl ?_
  have fin : V P room_1 (Z.wa ad9) (loL (Z.wa ad9) b n (some (.int r1)) (some (.int r2)) none none) 1025 [] g3 (cs + 1) (sl + 6) := by
    refine v_goto (tgt := 1332) (C.wa ad9) dL_law_1025 (by decide) ?_
    refine v_wide (k := cs + 6) (n := sl + 60) (by omega) (by omega) ?_
    exact v_lw (lo' := loL (Z.wa ad9) b n none none none none) (Nat.le_of_ble_eq_true rfl) loL_no (K ad9 g3 hE t3 t4)
  refine v_if_ne (tgt := 1025) (C.wa ad9) dL_law_1010 (by decide) (fun _ => fin) (fun h => ?_)
  obtain ⟨t5, t6⟩ := t2 (nI_z3 (Nat.le_trans (le_about (xs (4 * n + 1)) (xs (4 * n + 2)) (xs (4 * n + 3)) g) (by decide)) (hr1.symm.trans h))
  refine v_aload_n (C.wa ad9) dL_law_1013 rfl rfl ?_
  refine v_iconst (v := 0) (C.wa ad9) dL_law_1014 (by decide) ?_
  refine v_lald0 (C.wa ad9) dL_law_1015 ?_
  refine v_iload (C.wa ad9) dL_law_1016 rfl ?_
  refine v_i2l (C.wa ad9) dL_law_1018 ?_
  refine v_lcmp (C.wa ad9) dL_law_1019 ?_
  refine v_if_eq (tgt := 1025) (C.wa ad9) dL_law_1020 (by decide) (fun _ => fin) (fun h => absurd (by rw [t6, t5]; exact lcmp_eq _) h)
set_option maxRecDepth 100000 in
theorem case_13 {P : Pm} {Z : Zc} {b L n cs sl : Nat} {xs : Nat → Int32} {g : MG} (hl9 : P.2.1.stackTraces = false) (C : Cx P Z cL_law "PosterTypesLaw") (hA : CxS P) (hX : CxX P b L xs) (hz : b < Z.z) (hn : 4 * n + 4 ≤ L) (hL : L ≤ 2048) (hI : LI n g) (hR : Rl g g) (hc : cs + 6 ≤ 601024 ∧ sl + 60 ≤ 7293034)
    (K : ∀ (ad9 : Nat → Nat) (g2 : MG), adE Z ad9 → LI (n + 1) g2 → Rl g2 g2 → V P room_1 (Z.wa ad9) (loL (Z.wa ad9) b n none none none none) 1332 [] g2 (cs + 6) (sl + 60)) : V P room_1 Z (loL Z b n none none none none) 1028 [] g cs sl := by
  refine v_aload_n C dL_law_1028 rfl rfl ?_
  refine v_aload_n C dL_law_1029 rfl rfl ?_
  refine v_iload C dL_law_1030 rfl ?_
  refine v_iconst (v := 1) C dL_law_1032 (by decide) ?_
  refine v_iadd C dL_law_1033 ?_
  refine v_topi (ixL n 1) ?_
  refine v_sld C hX hz ⟨by omega, by omega⟩ dL_law_1034 ?_
  refine v_aload_n C dL_law_1035 rfl rfl ?_
  refine v_callW (n := 3) (as := [.ref (Z.ad 30), .int (xs (4 * n + 1)), .ref (Z.ad 500)]) C hA (w_count _ hl9 Z (xs (4 * n + 1)) n g g hI hR) (gsw (tg3 149 rfl rfl) (tg3 150 rfl rfl) (tg1 0 rfl rfl) (tg3 151 rfl rfl)) (by decide +kernel) ⟨(Nat.le_of_ble_eq_true rfl), (Nat.le_of_ble_eq_true rfl)⟩ rfl rfl (Nat.le_of_ble_eq_true rfl) dL_law_1036 ⟨(show cs + 1 ≤ 601024 by omega), (show sl + 6 ≤ 7293034 by omega)⟩ (fun r1 ad9 gu hp => ?_)
  obtain ⟨hr1, hE, g1, hR1, hF1, hu⟩ := hp
  have e26 : E26 gu g := by rw [show gu = _ from hu]; exact e26_law hF1
  refine v_lo (loL_wa hE b n none none none none) ?_
  have hz9 : b < (Z.wa ad9).z := hz
  refine v_istore (lo' := loL (Z.wa ad9) b n (some (.int r1)) none none none) (C.wa ad9) dL_law_1039 (Nat.le_of_ble_eq_true rfl) rfl rfl ?_
  refine v_aload_n (C.wa ad9) dL_law_1041 rfl rfl ?_
  refine v_aload_n (C.wa ad9) dL_law_1042 rfl rfl ?_
  refine v_iload (C.wa ad9) dL_law_1043 rfl ?_
  refine v_iconst (v := 1) (C.wa ad9) dL_law_1045 (by decide) ?_
  refine v_iadd (C.wa ad9) dL_law_1046 ?_
  refine v_topi (ixL n 1) ?_
  refine v_sld (C.wa ad9) hX hz ⟨by omega, by omega⟩ dL_law_1047 ?_
  refine v_callVi (n := 1) (k := 0) (as := [.int (xs (4 * n + 1))]) (C.wa ad9) (c_count _ (Z.wa ad9) (xs (4 * n + 1)) gu (hI.1.e26 e26)) (gv (tg4 176 rfl rfl) (tg4 177 rfl rfl) (tg4 178 rfl rfl) (tg1 6 rfl rfl) (tg4 179 rfl rfl)) (by decide +kernel) ⟨(Nat.le_of_ble_eq_true rfl), (Nat.le_of_ble_eq_true rfl)⟩ rfl cx_M rfl rfl (Nat.le_of_ble_eq_true rfl) dL_law_1048 ⟨(show cs + 1 ≤ 601024 by omega), (show sl + 6 ≤ 7293034 by omega)⟩ (fun r2 g2 hp2 => ?_)
  obtain ⟨t1, t2, t3, t4⟩ := turn (hI.rf (by omega)) hR1 hu (cong_count e26 (xs (4 * n + 1))) hp2
  refine v_istore (lo' := loL (Z.wa ad9) b n (some (.int r1)) (some (.int r2)) none none) (C.wa ad9) dL_law_1051 (Nat.le_of_ble_eq_true rfl) rfl rfl ?_
  refine v_aload_n (C.wa ad9) dL_law_1053 rfl rfl ?_
  refine v_callVi (n := 0) (k := 0) (as := []) (C.wa ad9) (c_thrown _ (Z.wa ad9) g2) (gv (tg4 37 rfl rfl) (tg4 38 rfl rfl) (tg4 39 rfl rfl) (tg1 6 rfl rfl) (tg4 40 rfl rfl)) (by decide +kernel) ⟨(Nat.le_of_ble_eq_true rfl), (Nat.le_of_ble_eq_true rfl)⟩ rfl cx_M rfl rfl (Nat.le_of_ble_eq_true rfl) dL_law_1054 ⟨(show cs + 1 ≤ 601024 by omega), (show sl + 6 ≤ 7293034 by omega)⟩ (fun r3 g3 hp3 => ?_)
  obtain ⟨hr3, hg3⟩ := hp3
  subst hg3
  refine v_iload (C.wa ad9) dL_law_1057 rfl ?_
  refine v_icmp_eq (tgt := 1064) (C.wa ad9) dL_law_1059 (by decide) (fun _ => ?_) (fun h => absurd (hr3.trans (t1.trans hr1.symm)) h)
  refine v_iload (C.wa ad9) dL_law_1064 rfl ?_
  have fin : V P room_1 (Z.wa ad9) (loL (Z.wa ad9) b n (some (.int r1)) (some (.int r2)) none none) 1081 [] g3 (cs + 1) (sl + 6) := by
    refine v_goto (tgt := 1332) (C.wa ad9) dL_law_1081 (by decide) ?_
    refine v_wide (k := cs + 6) (n := sl + 60) (by omega) (by omega) ?_
    exact v_lw (lo' := loL (Z.wa ad9) b n none none none none) (Nat.le_of_ble_eq_true rfl) loL_no (K ad9 g3 hE t3 t4)
  refine v_if_ne (tgt := 1081) (C.wa ad9) dL_law_1066 (by decide) (fun _ => fin) (fun h => ?_)
  obtain ⟨t5, t6⟩ := t2 (nI_z3 (Nat.le_trans (le_count (xs (4 * n + 1)) g) (by decide)) (hr1.symm.trans h))
  refine v_aload_n (C.wa ad9) dL_law_1069 rfl rfl ?_
  refine v_iconst (v := 0) (C.wa ad9) dL_law_1070 (by decide) ?_
  refine v_lald0 (C.wa ad9) dL_law_1071 ?_
  refine v_iload (C.wa ad9) dL_law_1072 rfl ?_
  refine v_i2l (C.wa ad9) dL_law_1074 ?_
  refine v_lcmp (C.wa ad9) dL_law_1075 ?_
  refine v_if_eq (tgt := 1081) (C.wa ad9) dL_law_1076 (by decide) (fun _ => fin) (fun h => absurd (by rw [t6, t5]; exact lcmp_eq _) h)
set_option maxRecDepth 100000 in
theorem case_14 {P : Pm} {Z : Zc} {b L n cs sl : Nat} {xs : Nat → Int32} {g : MG} (hl9 : P.2.1.stackTraces = false) (C : Cx P Z cL_law "PosterTypesLaw") (hA : CxS P) (hX : CxX P b L xs) (hz : b < Z.z) (hn : 4 * n + 4 ≤ L) (hL : L ≤ 2048) (hI : LI n g) (hR : Rl g g) (hc : cs + 6 ≤ 601024 ∧ sl + 60 ≤ 7293034)
    (K : ∀ (ad9 : Nat → Nat) (g2 : MG), adE Z ad9 → LI (n + 1) g2 → Rl g2 g2 → V P room_1 (Z.wa ad9) (loL (Z.wa ad9) b n none none none none) 1332 [] g2 (cs + 6) (sl + 60)) : V P room_1 Z (loL Z b n none none none none) 1084 [] g cs sl := by
  refine v_aload_n C dL_law_1084 rfl rfl ?_
  refine v_aload_n C dL_law_1085 rfl rfl ?_
  refine v_iload C dL_law_1086 rfl ?_
  refine v_iconst (v := 1) C dL_law_1088 (by decide) ?_
  refine v_iadd C dL_law_1089 ?_
  refine v_topi (ixL n 1) ?_
  refine v_sld C hX hz ⟨by omega, by omega⟩ dL_law_1090 ?_
  refine v_aload_n C dL_law_1091 rfl rfl ?_
  refine v_iload C dL_law_1092 rfl ?_
  refine v_iconst (v := 2) C dL_law_1094 (by decide) ?_
  refine v_iadd C dL_law_1095 ?_
  refine v_topi (ixL n 2) ?_
  refine v_sld C hX hz ⟨by omega, by omega⟩ dL_law_1096 ?_
  refine v_aload_n C dL_law_1097 rfl rfl ?_
  refine v_callW (n := 4) (as := [.ref (Z.ad 30), .int (xs (4 * n + 1)), .int (xs (4 * n + 2)), .ref (Z.ad 500)]) C hA (w_would _ hl9 Z (xs (4 * n + 1)) (xs (4 * n + 2)) n g g hI hR) (gsw (tg3 153 rfl rfl) (tg3 154 rfl rfl) (tg1 0 rfl rfl) (tg3 155 rfl rfl)) (by decide +kernel) ⟨(Nat.le_of_ble_eq_true rfl), (Nat.le_of_ble_eq_true rfl)⟩ rfl rfl (Nat.le_of_ble_eq_true rfl) dL_law_1098 ⟨(show cs + 1 ≤ 601024 by omega), (show sl + 6 ≤ 7293034 by omega)⟩ (fun r1 ad9 gu hp => ?_)
  obtain ⟨hr1, hE, g1, hR1, hF1, hu⟩ := hp
  have e26 : E26 gu g := by rw [show gu = _ from hu]; exact e26_law hF1
  refine v_lo (loL_wa hE b n none none none none) ?_
  have hz9 : b < (Z.wa ad9).z := hz
  refine v_istore (lo' := loL (Z.wa ad9) b n (some (.int r1)) none none none) (C.wa ad9) dL_law_1101 (Nat.le_of_ble_eq_true rfl) rfl rfl ?_
  refine v_aload_n (C.wa ad9) dL_law_1103 rfl rfl ?_
  refine v_aload_n (C.wa ad9) dL_law_1104 rfl rfl ?_
  refine v_iload (C.wa ad9) dL_law_1105 rfl ?_
  refine v_iconst (v := 1) (C.wa ad9) dL_law_1107 (by decide) ?_
  refine v_iadd (C.wa ad9) dL_law_1108 ?_
  refine v_topi (ixL n 1) ?_
  refine v_sld (C.wa ad9) hX hz ⟨by omega, by omega⟩ dL_law_1109 ?_
  refine v_aload_n (C.wa ad9) dL_law_1110 rfl rfl ?_
  refine v_iload (C.wa ad9) dL_law_1111 rfl ?_
  refine v_iconst (v := 2) (C.wa ad9) dL_law_1113 (by decide) ?_
  refine v_iadd (C.wa ad9) dL_law_1114 ?_
  refine v_topi (ixL n 2) ?_
  refine v_sld (C.wa ad9) hX hz ⟨by omega, by omega⟩ dL_law_1115 ?_
  refine v_callVi (n := 2) (k := 0) (as := [.int (xs (4 * n + 1)), .int (xs (4 * n + 2))]) (C.wa ad9) (c_would _ (Z.wa ad9) (xs (4 * n + 1)) (xs (4 * n + 2)) gu (hI.1.e26 e26)) (gv (tg4 187 rfl rfl) (tg4 188 rfl rfl) (tg4 189 rfl rfl) (tg1 6 rfl rfl) (tg4 190 rfl rfl)) (by decide +kernel) ⟨(Nat.le_of_ble_eq_true rfl), (Nat.le_of_ble_eq_true rfl)⟩ rfl cx_M rfl rfl (Nat.le_of_ble_eq_true rfl) dL_law_1116 ⟨(show cs + 1 ≤ 601024 by omega), (show sl + 6 ≤ 7293034 by omega)⟩ (fun r2 g2 hp2 => ?_)
  obtain ⟨t1, t2, t3, t4⟩ := turn (hI.rf (by omega)) hR1 hu (cong_would e26 (xs (4 * n + 1)) (xs (4 * n + 2))) hp2
  refine v_istore (lo' := loL (Z.wa ad9) b n (some (.int r1)) (some (.int r2)) none none) (C.wa ad9) dL_law_1119 (Nat.le_of_ble_eq_true rfl) rfl rfl ?_
  refine v_aload_n (C.wa ad9) dL_law_1121 rfl rfl ?_
  refine v_callVi (n := 0) (k := 0) (as := []) (C.wa ad9) (c_thrown _ (Z.wa ad9) g2) (gv (tg4 37 rfl rfl) (tg4 38 rfl rfl) (tg4 39 rfl rfl) (tg1 6 rfl rfl) (tg4 40 rfl rfl)) (by decide +kernel) ⟨(Nat.le_of_ble_eq_true rfl), (Nat.le_of_ble_eq_true rfl)⟩ rfl cx_M rfl rfl (Nat.le_of_ble_eq_true rfl) dL_law_1122 ⟨(show cs + 1 ≤ 601024 by omega), (show sl + 6 ≤ 7293034 by omega)⟩ (fun r3 g3 hp3 => ?_)
  obtain ⟨hr3, hg3⟩ := hp3
  subst hg3
  refine v_iload (C.wa ad9) dL_law_1125 rfl ?_
  refine v_icmp_eq (tgt := 1132) (C.wa ad9) dL_law_1127 (by decide) (fun _ => ?_) (fun h => absurd (hr3.trans (t1.trans hr1.symm)) h)
  refine v_iload (C.wa ad9) dL_law_1132 rfl ?_
  have fin : V P room_1 (Z.wa ad9) (loL (Z.wa ad9) b n (some (.int r1)) (some (.int r2)) none none) 1149 [] g3 (cs + 1) (sl + 6) := by
    refine v_goto (tgt := 1332) (C.wa ad9) dL_law_1149 (by decide) ?_
    refine v_wide (k := cs + 6) (n := sl + 60) (by omega) (by omega) ?_
    exact v_lw (lo' := loL (Z.wa ad9) b n none none none none) (Nat.le_of_ble_eq_true rfl) loL_no (K ad9 g3 hE t3 t4)
  refine v_if_ne (tgt := 1149) (C.wa ad9) dL_law_1134 (by decide) (fun _ => fin) (fun h => ?_)
  obtain ⟨t5, t6⟩ := t2 (nI_z3 (Nat.le_trans (le_would (xs (4 * n + 1)) (xs (4 * n + 2)) g) (by decide)) (hr1.symm.trans h))
  refine v_aload_n (C.wa ad9) dL_law_1137 rfl rfl ?_
  refine v_iconst (v := 0) (C.wa ad9) dL_law_1138 (by decide) ?_
  refine v_lald0 (C.wa ad9) dL_law_1139 ?_
  refine v_iload (C.wa ad9) dL_law_1140 rfl ?_
  refine v_i2l (C.wa ad9) dL_law_1142 ?_
  refine v_lcmp (C.wa ad9) dL_law_1143 ?_
  refine v_if_eq (tgt := 1149) (C.wa ad9) dL_law_1144 (by decide) (fun _ => fin) (fun h => absurd (by rw [t6, t5]; exact lcmp_eq _) h)
set_option maxRecDepth 100000 in
theorem case_16 {P : Pm} {Z : Zc} {b L n cs sl : Nat} {xs : Nat → Int32} {g : MG} (hl9 : P.2.1.stackTraces = false) (C : Cx P Z cL_law "PosterTypesLaw") (hA : CxS P) (hX : CxX P b L xs) (hz : b < Z.z) (hn : 4 * n + 4 ≤ L) (hL : L ≤ 2048) (hI : LI n g) (hR : Rl g g) (hc : cs + 6 ≤ 601024 ∧ sl + 60 ≤ 7293034)
    (K : ∀ (ad9 : Nat → Nat) (g2 : MG), adE Z ad9 → LI (n + 1) g2 → Rl g2 g2 → V P room_1 (Z.wa ad9) (loL (Z.wa ad9) b n none none none none) 1332 [] g2 (cs + 6) (sl + 60)) : V P room_1 Z (loL Z b n none none none none) 1165 [] g cs sl := by
  refine v_aload_n C dL_law_1165 rfl rfl ?_
  refine v_aload_n C dL_law_1166 rfl rfl ?_
  refine v_iload C dL_law_1167 rfl ?_
  refine v_iconst (v := 1) C dL_law_1169 (by decide) ?_
  refine v_iadd C dL_law_1170 ?_
  refine v_topi (ixL n 1) ?_
  refine v_sld C hX hz ⟨by omega, by omega⟩ dL_law_1171 ?_
  refine v_aload_n C dL_law_1172 rfl rfl ?_
  refine v_callW (n := 3) (as := [.ref (Z.ad 30), .int (xs (4 * n + 1)), .ref (Z.ad 500)]) C hA (w_advise _ hl9 Z (xs (4 * n + 1)) n g g hI hR) (gsw (tg3 161 rfl rfl) (tg3 162 rfl rfl) (tg1 0 rfl rfl) (tg3 163 rfl rfl)) (by decide +kernel) ⟨(Nat.le_of_ble_eq_true rfl), (Nat.le_of_ble_eq_true rfl)⟩ rfl rfl (Nat.le_of_ble_eq_true rfl) dL_law_1173 ⟨(show cs + 1 ≤ 601024 by omega), (show sl + 6 ≤ 7293034 by omega)⟩ (fun r1 ad9 gu hp => ?_)
  obtain ⟨hr1, hE, g1, hR1, hF1, hu⟩ := hp
  have e26 : E26 gu g := by rw [show gu = _ from hu]; exact e26_law hF1
  refine v_lo (loL_wa hE b n none none none none) ?_
  have hz9 : b < (Z.wa ad9).z := hz
  refine v_istore (lo' := loL (Z.wa ad9) b n (some (.int r1)) none none none) (C.wa ad9) dL_law_1176 (Nat.le_of_ble_eq_true rfl) rfl rfl ?_
  refine v_aload_n (C.wa ad9) dL_law_1178 rfl rfl ?_
  refine v_aload_n (C.wa ad9) dL_law_1179 rfl rfl ?_
  refine v_iload (C.wa ad9) dL_law_1180 rfl ?_
  refine v_iconst (v := 1) (C.wa ad9) dL_law_1182 (by decide) ?_
  refine v_iadd (C.wa ad9) dL_law_1183 ?_
  refine v_topi (ixL n 1) ?_
  refine v_sld (C.wa ad9) hX hz ⟨by omega, by omega⟩ dL_law_1184 ?_
  refine v_callVi (n := 1) (k := 0) (as := [.int (xs (4 * n + 1))]) (C.wa ad9) (c_advise _ (Z.wa ad9) (xs (4 * n + 1)) gu (hI.1.e26 e26)) (gv (tg4 199 rfl rfl) (tg4 200 rfl rfl) (tg4 201 rfl rfl) (tg1 6 rfl rfl) (tg4 202 rfl rfl)) (by decide +kernel) ⟨(Nat.le_of_ble_eq_true rfl), (Nat.le_of_ble_eq_true rfl)⟩ rfl cx_M rfl rfl (Nat.le_of_ble_eq_true rfl) dL_law_1185 ⟨(show cs + 1 ≤ 601024 by omega), (show sl + 6 ≤ 7293034 by omega)⟩ (fun r2 g2 hp2 => ?_)
  obtain ⟨t1, t2, t3, t4⟩ := turn (hI.rf (by omega)) hR1 hu (cong_advise e26 (xs (4 * n + 1))) hp2
  refine v_istore (lo' := loL (Z.wa ad9) b n (some (.int r1)) (some (.int r2)) none none) (C.wa ad9) dL_law_1188 (Nat.le_of_ble_eq_true rfl) rfl rfl ?_
  refine v_aload_n (C.wa ad9) dL_law_1190 rfl rfl ?_
  refine v_callVi (n := 0) (k := 0) (as := []) (C.wa ad9) (c_thrown _ (Z.wa ad9) g2) (gv (tg4 37 rfl rfl) (tg4 38 rfl rfl) (tg4 39 rfl rfl) (tg1 6 rfl rfl) (tg4 40 rfl rfl)) (by decide +kernel) ⟨(Nat.le_of_ble_eq_true rfl), (Nat.le_of_ble_eq_true rfl)⟩ rfl cx_M rfl rfl (Nat.le_of_ble_eq_true rfl) dL_law_1191 ⟨(show cs + 1 ≤ 601024 by omega), (show sl + 6 ≤ 7293034 by omega)⟩ (fun r3 g3 hp3 => ?_)
  obtain ⟨hr3, hg3⟩ := hp3
  subst hg3
  refine v_iload (C.wa ad9) dL_law_1194 rfl ?_
  refine v_icmp_eq (tgt := 1201) (C.wa ad9) dL_law_1196 (by decide) (fun _ => ?_) (fun h => absurd (hr3.trans (t1.trans hr1.symm)) h)
  refine v_iload (C.wa ad9) dL_law_1201 rfl ?_
  have fin : V P room_1 (Z.wa ad9) (loL (Z.wa ad9) b n (some (.int r1)) (some (.int r2)) none none) 1218 [] g3 (cs + 1) (sl + 6) := by
    refine v_goto (tgt := 1332) (C.wa ad9) dL_law_1218 (by decide) ?_
    refine v_wide (k := cs + 6) (n := sl + 60) (by omega) (by omega) ?_
    exact v_lw (lo' := loL (Z.wa ad9) b n none none none none) (Nat.le_of_ble_eq_true rfl) loL_no (K ad9 g3 hE t3 t4)
  refine v_if_ne (tgt := 1218) (C.wa ad9) dL_law_1203 (by decide) (fun _ => fin) (fun h => ?_)
  obtain ⟨t5, t6⟩ := t2 (nI_z3 (Nat.le_trans (le_advise (xs (4 * n + 1)) g) (by decide)) (hr1.symm.trans h))
  refine v_aload_n (C.wa ad9) dL_law_1206 rfl rfl ?_
  refine v_iconst (v := 0) (C.wa ad9) dL_law_1207 (by decide) ?_
  refine v_lald0 (C.wa ad9) dL_law_1208 ?_
  refine v_iload (C.wa ad9) dL_law_1209 rfl ?_
  refine v_i2l (C.wa ad9) dL_law_1211 ?_
  refine v_lcmp (C.wa ad9) dL_law_1212 ?_
  refine v_if_eq (tgt := 1218) (C.wa ad9) dL_law_1213 (by decide) (fun _ => fin) (fun h => absurd (by rw [t6, t5]; exact lcmp_eq _) h)
set_option maxRecDepth 100000 in
theorem case_17 {P : Pm} {Z : Zc} {b L n cs sl : Nat} {xs : Nat → Int32} {g : MG} (hl9 : P.2.1.stackTraces = false) (C : Cx P Z cL_law "PosterTypesLaw") (hA : CxS P) (hX : CxX P b L xs) (hz : b < Z.z) (hn : 4 * n + 4 ≤ L) (hL : L ≤ 2048) (hI : LI n g) (hR : Rl g g) (hc : cs + 6 ≤ 601024 ∧ sl + 60 ≤ 7293034)
    (K : ∀ (ad9 : Nat → Nat) (g2 : MG), adE Z ad9 → LI (n + 1) g2 → Rl g2 g2 → V P room_1 (Z.wa ad9) (loL (Z.wa ad9) b n none none none none) 1332 [] g2 (cs + 6) (sl + 60)) : V P room_1 Z (loL Z b n none none none none) 1221 [] g cs sl := by
  refine v_aload_n C dL_law_1221 rfl rfl ?_
  refine v_aload_n C dL_law_1222 rfl rfl ?_
  refine v_iload C dL_law_1223 rfl ?_
  refine v_iconst (v := 1) C dL_law_1225 (by decide) ?_
  refine v_iadd C dL_law_1226 ?_
  refine v_topi (ixL n 1) ?_
  refine v_sld C hX hz ⟨by omega, by omega⟩ dL_law_1227 ?_
  refine v_aload_n C dL_law_1228 rfl rfl ?_
  refine v_callW (n := 3) (as := [.ref (Z.ad 30), .int (xs (4 * n + 1)), .ref (Z.ad 500)]) C hA (w_lasts _ hl9 Z (xs (4 * n + 1)) n g g hI hR) (gsw (tg3 175 rfl rfl) (tg3 176 rfl rfl) (tg1 0 rfl rfl) (tg3 177 rfl rfl)) (by decide +kernel) ⟨(Nat.le_of_ble_eq_true rfl), (Nat.le_of_ble_eq_true rfl)⟩ rfl rfl (Nat.le_of_ble_eq_true rfl) dL_law_1229 ⟨(show cs + 1 ≤ 601024 by omega), (show sl + 6 ≤ 7293034 by omega)⟩ (fun r1 ad9 gu hp => ?_)
  obtain ⟨hr1, hE, g1, hR1, hF1, hu⟩ := hp
  have e26 : E26 gu g := by rw [show gu = _ from hu]; exact e26_law hF1
  refine v_lo (loL_wa hE b n none none none none) ?_
  have hz9 : b < (Z.wa ad9).z := hz
  refine v_istore (lo' := loL (Z.wa ad9) b n (some (.int r1)) none none none) (C.wa ad9) dL_law_1232 (Nat.le_of_ble_eq_true rfl) rfl rfl ?_
  refine v_aload_n (C.wa ad9) dL_law_1234 rfl rfl ?_
  refine v_aload_n (C.wa ad9) dL_law_1235 rfl rfl ?_
  refine v_iload (C.wa ad9) dL_law_1236 rfl ?_
  refine v_iconst (v := 1) (C.wa ad9) dL_law_1238 (by decide) ?_
  refine v_iadd (C.wa ad9) dL_law_1239 ?_
  refine v_topi (ixL n 1) ?_
  refine v_sld (C.wa ad9) hX hz ⟨by omega, by omega⟩ dL_law_1240 ?_
  refine v_callVi (n := 1) (k := 0) (as := [.int (xs (4 * n + 1))]) (C.wa ad9) (c_lasts _ (Z.wa ad9) (xs (4 * n + 1)) gu (hI.1.e26 e26)) (gv (tg4 207 rfl rfl) (tg4 208 rfl rfl) (tg4 209 rfl rfl) (tg1 6 rfl rfl) (tg4 210 rfl rfl)) (by decide +kernel) ⟨(Nat.le_of_ble_eq_true rfl), (Nat.le_of_ble_eq_true rfl)⟩ rfl cx_M rfl rfl (Nat.le_of_ble_eq_true rfl) dL_law_1241 ⟨(show cs + 1 ≤ 601024 by omega), (show sl + 6 ≤ 7293034 by omega)⟩ (fun r2 g2 hp2 => ?_)
  obtain ⟨t1, t2, t3, t4⟩ := turn (hI.rf (by omega)) hR1 hu (cong_lasts e26 (xs (4 * n + 1))) hp2
  refine v_istore (lo' := loL (Z.wa ad9) b n (some (.int r1)) (some (.int r2)) none none) (C.wa ad9) dL_law_1244 (Nat.le_of_ble_eq_true rfl) rfl rfl ?_
  refine v_aload_n (C.wa ad9) dL_law_1246 rfl rfl ?_
  refine v_callVi (n := 0) (k := 0) (as := []) (C.wa ad9) (c_thrown _ (Z.wa ad9) g2) (gv (tg4 37 rfl rfl) (tg4 38 rfl rfl) (tg4 39 rfl rfl) (tg1 6 rfl rfl) (tg4 40 rfl rfl)) (by decide +kernel) ⟨(Nat.le_of_ble_eq_true rfl), (Nat.le_of_ble_eq_true rfl)⟩ rfl cx_M rfl rfl (Nat.le_of_ble_eq_true rfl) dL_law_1247 ⟨(show cs + 1 ≤ 601024 by omega), (show sl + 6 ≤ 7293034 by omega)⟩ (fun r3 g3 hp3 => ?_)
  obtain ⟨hr3, hg3⟩ := hp3
  subst hg3
  refine v_iload (C.wa ad9) dL_law_1250 rfl ?_
  refine v_icmp_eq (tgt := 1257) (C.wa ad9) dL_law_1252 (by decide) (fun _ => ?_) (fun h => absurd (hr3.trans (t1.trans hr1.symm)) h)
  refine v_iload (C.wa ad9) dL_law_1257 rfl ?_
  have fin : V P room_1 (Z.wa ad9) (loL (Z.wa ad9) b n (some (.int r1)) (some (.int r2)) none none) 1274 [] g3 (cs + 1) (sl + 6) := by
    refine v_goto (tgt := 1332) (C.wa ad9) dL_law_1274 (by decide) ?_
    refine v_wide (k := cs + 6) (n := sl + 60) (by omega) (by omega) ?_
    exact v_lw (lo' := loL (Z.wa ad9) b n none none none none) (Nat.le_of_ble_eq_true rfl) loL_no (K ad9 g3 hE t3 t4)
  refine v_if_ne (tgt := 1274) (C.wa ad9) dL_law_1259 (by decide) (fun _ => fin) (fun h => ?_)
  obtain ⟨t5, t6⟩ := t2 (nI_z3 (Nat.le_trans (le_lasts (xs (4 * n + 1)) g) (by decide)) (hr1.symm.trans h))
  refine v_aload_n (C.wa ad9) dL_law_1262 rfl rfl ?_
  refine v_iconst (v := 0) (C.wa ad9) dL_law_1263 (by decide) ?_
  refine v_lald0 (C.wa ad9) dL_law_1264 ?_
  refine v_iload (C.wa ad9) dL_law_1265 rfl ?_
  refine v_i2l (C.wa ad9) dL_law_1267 ?_
  refine v_lcmp (C.wa ad9) dL_law_1268 ?_
  refine v_if_eq (tgt := 1274) (C.wa ad9) dL_law_1269 (by decide) (fun _ => fin) (fun h => absurd (by rw [t6, t5]; exact lcmp_eq _) h)
