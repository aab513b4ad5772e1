/-! THE LAW ITSELF: next, mean, digest; its loop -/
set_option maxRecDepth 100000 in
theorem case_15 {P : Pm} {Z : Zc} {b L n cs sl : Nat} {xs : Nat → Int32} {g : MG} (hl9 : P.2.1.stackTraces = false) (C : Cx P Z cL_law "PosterTypesLaw") (hA : CxS P) (hX : CxX P b L xs) (hz : b < Z.z) (hn : 4 * n + 4 ≤ L) (hL : L ≤ 2048) (hI : LI n g) (hR : Rl g g) (hc : cs + 6 ≤ 601024 ∧ sl + 60 ≤ 7293034)
    (K : ∀ (ad9 : Nat → Nat) (g2 : MG), adE Z ad9 → LI (n + 1) g2 → Rl g2 g2 → V P room_1 (Z.wa ad9) (loL (Z.wa ad9) b n none none none none) 1332 [] g2 (cs + 6) (sl + 60)) : V P room_1 Z (loL Z b n none none none none) 1152 [] g cs sl := by
  refine v_aload_n C dL_law_1152 rfl rfl ?_
  refine v_callVi (n := 0) (k := 30) (as := []) C (m_next _ Z g g hI.1 n hI.2.2.2.2 hR) (gv (tg1 81 rfl rfl) (tg1 82 rfl rfl) (tg1 83 rfl rfl) (tg1 1 rfl rfl) (tg1 84 rfl rfl)) (by decide +kernel) ⟨(Nat.le_of_ble_eq_true rfl), (Nat.le_of_ble_eq_true rfl)⟩ rfl cx_T rfl rfl (Nat.le_of_ble_eq_true rfl) dL_law_1153 ⟨(show cs + 0 ≤ 601024 by omega), (show sl + 0 ≤ 7293034 by omega)⟩ (fun r1 g1 hp => ?_)
  obtain ⟨hr1, hR1, hF1⟩ := hp
  have e26 : E26 g1 g := fun k hk => hF1.1 k (by omega)
  refine v_aload_n C dL_law_1156 rfl rfl ?_
  refine v_callVi (n := 0) (k := 0) (as := []) C (c_next _ Z g1 (hI.1.e26 e26)) (gv (tg4 195 rfl rfl) (tg4 196 rfl rfl) (tg4 197 rfl rfl) (tg1 6 rfl rfl) (tg4 198 rfl rfl)) (by decide +kernel) ⟨(Nat.le_of_ble_eq_true rfl), (Nat.le_of_ble_eq_true rfl)⟩ rfl cx_M rfl rfl (Nat.le_of_ble_eq_true rfl) dL_law_1157 ⟨(show cs + 0 ≤ 601024 by omega), (show sl + 0 ≤ 7293034 by omega)⟩ (fun r2 g2 hp2 => ?_)
  obtain ⟨q1, q2⟩ := cong_next e26
  obtain ⟨p1, p2, p3, p4⟩ := hp2
  have hE := p3.e26 q2
  refine v_icmp_eq (tgt := 1332) C dL_law_1160 (by decide) (fun _ => ?_) (fun h => absurd (hr1.trans (q1.symm.trans (p2 rfl).symm)) h)
  refine v_wide (k := cs + 6) (n := sl + 60) (show cs + 0 + 0 ≤ cs + 6 by omega) (show sl + 0 + 0 ≤ sl + 60 by omega) ?_
  exact K Z.ad g2 adE.rf ((hI.rf (by omega)).RE hE) (hR1.RE hI.1 hE (fun q h1 _ => p4 q h1))
set_option maxRecDepth 100000 in
theorem case_19 {P : Pm} {Z : Zc} {b L n cs sl : Nat} {xs : Nat → Int32} {g : MG} (hl9 : P.2.1.stackTraces = false) (C : Cx P Z cL_law "PosterTypesLaw") (hA : CxS P) (hX : CxX P b L xs) (hz : b < Z.z) (hn : 4 * n + 4 ≤ L) (hL : L ≤ 2048) (hI : LI n g) (hR : Rl g g) (hc : cs + 6 ≤ 601024 ∧ sl + 60 ≤ 7293034)
    (K : ∀ (ad9 : Nat → Nat) (g2 : MG), adE Z ad9 → LI (n + 1) g2 → Rl g2 g2 → V P room_1 (Z.wa ad9) (loL (Z.wa ad9) b n none none none none) 1332 [] g2 (cs + 6) (sl + 60)) : V P room_1 Z (loL Z b n none none none none) 1318 [] g cs sl := by
  refine v_aload_n C dL_law_1318 rfl rfl ?_
  refine v_callVl (n := 0) (k := 30) (as := []) C (m_digest _ Z g g hI.1 hI.2.1 hR hI.2.2.1) (gv (tg1 192 rfl rfl) (tg1 193 rfl rfl) (tg1 194 rfl rfl) (tg1 1 rfl rfl) (tg1 195 rfl rfl)) (by decide +kernel) ⟨(Nat.le_of_ble_eq_true rfl), (Nat.le_of_ble_eq_true rfl)⟩ rfl cx_T rfl rfl (Nat.le_of_ble_eq_true rfl) dL_law_1319 ⟨(show cs + 0 ≤ 601024 by omega), (show sl + 0 ≤ 7293034 by omega)⟩ (fun r1 g1 hp => ?_)
  obtain ⟨hr1, hg1⟩ := hp
  subst hg1
  refine v_aload_n C dL_law_1322 rfl rfl ?_
  refine v_callVl (n := 0) (k := 0) (as := []) C (c_digest _ Z g1 hI.1) (gv (tg4 215 rfl rfl) (tg4 216 rfl rfl) (tg4 217 rfl rfl) (tg1 6 rfl rfl) (tg4 218 rfl rfl)) (by decide +kernel) ⟨(Nat.le_of_ble_eq_true rfl), (Nat.le_of_ble_eq_true rfl)⟩ rfl cx_M rfl rfl (Nat.le_of_ble_eq_true rfl) dL_law_1323 ⟨(show cs + 0 ≤ 601024 by omega), (show sl + 0 ≤ 7293034 by omega)⟩ (fun r2 g2 hp2 => ?_)
  obtain ⟨hr2, hg2⟩ := hp2
  subst hg2
  refine v_lcmp C dL_law_1326 ?_
  refine v_if_eq (tgt := 1332) C dL_law_1327 (by decide) (fun _ => ?_) (fun h => absurd (by rw [hr1, hr2, dgO_0]; exact lcmp_eq _) h)
  refine v_wide (k := cs + 6) (n := sl + 60) (show cs + 0 + 0 ≤ cs + 6 by omega) (show sl + 0 + 0 ≤ sl + 60 by omega) ?_
  exact K Z.ad _ adE.rf ((hI.rf (by omega)).RE (RE_0 g1 0)) (hR.RE hI.1 (RE_0 g1 0) (fun q h1 _ => wr_row _ _ _ _ (by omega)))
set_option maxRecDepth 100000 in
theorem case_18 {P : Pm} {Z : Zc} {b L n cs sl : Nat} {xs : Nat → Int32} {g : MG} (hl9 : P.2.1.stackTraces = false) (C : Cx P Z cL_law "PosterTypesLaw") (hA : CxS P) (hX : CxX P b L xs) (hz : b < Z.z) (hn : 4 * n + 4 ≤ L) (hL : L ≤ 2048) (hI : LI n g) (hR : Rl g g) (hc : cs + 6 ≤ 601024 ∧ sl + 60 ≤ 7293034)
    (K : ∀ (ad9 : Nat → Nat) (g2 : MG), adE Z ad9 → LI (n + 1) g2 → Rl g2 g2 → V P room_1 (Z.wa ad9) (loL (Z.wa ad9) b n none none none none) 1332 [] g2 (cs + 6) (sl + 60)) : V P room_1 Z (loL Z b n none none none none) 1277 [] g cs sl := by
  refine v_aload_n C dL_law_1277 rfl rfl ?_
  refine v_callVd (n := 0) (k := 30) (as := []) C (m_mean _ Z g g hI.1 hI.2.1 hR) (gv (tg1 184 rfl rfl) (tg1 185 rfl rfl) (tg1 186 rfl rfl) (tg1 1 rfl rfl) (tg1 187 rfl rfl)) (by decide +kernel) ⟨(Nat.le_of_ble_eq_true rfl), (Nat.le_of_ble_eq_true rfl)⟩ rfl cx_T rfl rfl (Nat.le_of_ble_eq_true rfl) dL_law_1278 ⟨(show cs + 0 ≤ 601024 by omega), (show sl + 0 ≤ 7293034 by omega)⟩ (fun r1 g1 hp => ?_)
  obtain ⟨hr1, hg1⟩ := hp
  subst hg1
  subst hr1
  refine v_dstore (lo' := loL Z b n (some (.double (anMean g1))) none none none) C dL_law_1281 (Nat.le_of_ble_eq_true rfl) rfl rfl ?_
  refine v_aload_n C dL_law_1283 rfl rfl ?_
  refine v_callVd (n := 0) (k := 0) (as := []) C (c_mean _ Z g1 hI.1) (gv (tg4 211 rfl rfl) (tg4 212 rfl rfl) (tg4 213 rfl rfl) (tg1 6 rfl rfl) (tg4 214 rfl rfl)) (by decide +kernel) ⟨(Nat.le_of_ble_eq_true rfl), (Nat.le_of_ble_eq_true rfl)⟩ rfl cx_M rfl rfl (Nat.le_of_ble_eq_true rfl) dL_law_1284 ⟨(show cs + 0 ≤ 601024 by omega), (show sl + 0 ≤ 7293034 by omega)⟩ (fun r2 g2 hp2 => ?_)
  obtain ⟨p1, hr2, p3, p4⟩ := hp2
  subst hr2
  refine v_dstore (lo' := loL Z b n (some (.double (anMean g1))) none (some (.double (anMean g1))) none) C dL_law_1287 (Nat.le_of_ble_eq_true rfl) rfl rfl ?_
  have fin : V P room_1 Z (loL Z b n (some (.double (anMean g1))) none (some (.double (anMean g1))) none) 1315 [] g2 (cs + 0 + 0) (sl + 0 + 0) := by
    refine v_goto (tgt := 1332) C dL_law_1315 (by decide) ?_
    refine v_wide (k := cs + 6) (n := sl + 60) (by omega) (by omega) ?_
    exact v_lw (lo' := loL Z b n none none none none) (Nat.le_of_ble_eq_true rfl) loL_no (K Z.ad g2 adE.rf ((hI.rf (by omega)).RE p3) (hR.RE hI.1 p3 (fun q h1 _ => p4 q h1)))
  refine v_dload C dL_law_1289 rfl ?_
  refine v_dload C dL_law_1291 rfl ?_
  refine v_dcmp C dL_law_1293 ?_
  refine v_if_eq (tgt := 1315) C dL_law_1294 (by decide) (fun _ => fin) (fun h => ?_)
  refine v_dload C dL_law_1297 rfl ?_
  refine v_dload C dL_law_1299 rfl ?_
  refine v_dcmp C dL_law_1301 ?_
  refine v_if_eq (tgt := 1313) C dL_law_1302 (by decide) (fun h2 => absurd h2 h) (fun _ => ?_)
  refine v_dload C dL_law_1305 rfl ?_
  refine v_dload C dL_law_1307 rfl ?_
  refine v_dcmp C dL_law_1309 ?_
  exact v_if_ne (tgt := 1315) C dL_law_1310 (by decide) (fun _ => fin) (fun h2 => absurd h2 h)
theorem lhead {L n : Nat} (hL : L ≤ 2048) (h4 : 4 * n ≤ L) (h : ¬ nI L - 4 < nI (4 * n)) : 4 * n + 4 ≤ L := by
  by_cases h5 : 4 ≤ L
  · rw [show (4 : Int32) = nI 4 from rfl, nI_sub h5, i_lt, nI_toInt (by omega), nI_toInt (by omega)] at h
    omega
  · exfalso
    apply h
    obtain rfl : n = 0 := by omega
    match L, h5 with
    | 0, _ => decide
    | 1, _ => decide
    | 2, _ => decide
    | 3, _ => decide
    | L + 4, h5 => exact absurd (Nat.le_add_left 4 L) h5
set_option maxRecDepth 100000 in
theorem law_loop {P : Pm} {Z0 : Zc} {b L c0 s0 : Nat} {xs : Nat → Int32} (hl9 : P.2.1.stackTraces = false) (C0 : Cx P Z0 cL_law "PosterTypesLaw") (hA : CxS P) (hX : CxX P b L xs) (hz : b < Z0.z) (hL : L ≤ 2048) (hc0 : c0 + 6 * 512 ≤ 601024 ∧ s0 + 60 * 512 ≤ 7293034)
    (ret : ∀ (ad : Nat → Nat) (lo : Lo) (g : MG), V P room_1 (Z0.wa ad) lo 1339 [.int 1] g 601024 7293034) :
    ∀ (f n : Nat) (ad : Nat → Nat) (g : MG), L - 4 * n < f → 4 * n ≤ L → LI n g → Rl g g → V P room_1 (Z0.wa ad) (loL (Z0.wa ad) b n none none none none) 23 [] g (c0 + 6 * n) (s0 + 60 * n) := by
  intro f
  induction f with
  | zero => intro n ad g hf; exact absurd hf (Nat.not_lt_zero _)
  | succ f ih =>
    intro n ad g hf h4 hI hR
    have C : Cx P (Z0.wa ad) cL_law "PosterTypesLaw" := C0.wa ad
    have hz9 : b < (Z0.wa ad).z := hz
    refine v_iload C dL_law_23 rfl ?_
    refine v_aload_n C dL_law_25 rfl rfl ?_
    refine v_slen C hX hz9 dL_law_26 ?_
    refine v_iconst (v := 4) C dL_law_27 (by decide) ?_
    refine v_isub C dL_law_28 ?_
    refine v_icmp_gt (tgt := 1338) C dL_law_29 (by decide) (fun _ => ?_) (fun hle => ?_)
    · refine v_iconst (v := 1) C dL_law_1338 (by decide) ?_
      exact v_wide (k := 601024) (n := 7293034) (by omega) (by omega) (ret ad _ g)
    · have hn := lhead hL h4 hle
      have K : ∀ (ad9 : Nat → Nat) (g2 : MG), adE (Z0.wa ad) ad9 → LI (n + 1) g2 → Rl g2 g2 → V P room_1 ((Z0.wa ad).wa ad9) (loL ((Z0.wa ad).wa ad9) b n none none none none) 1332 [] g2 (c0 + 6 * n + 6) (s0 + 60 * n + 60) := by
        intro ad9 g2 hE hI2 hR2
        refine v_iinc (v := nI (4 * (n + 1))) (lo' := loL (Z0.wa ad9) b (n + 1) none none none none) (C0.wa ad9) dL_law_1332 rfl (ixL n 4) rfl rfl ?_
        refine v_goto (tgt := 23) (C0.wa ad9) dL_law_1335 (by decide) ?_
        exact v_wide (by omega) (by omega) (ih (n + 1) ad9 g2 (by omega) (by omega) hI2 hR2)
      have hc : c0 + 6 * n + 6 ≤ 601024 ∧ s0 + 60 * n + 60 ≤ 7293034 := ⟨by omega, by omega⟩
      refine v_aload_n C dL_law_32 rfl rfl ?_
      refine v_iload C dL_law_33 rfl ?_
      refine v_sld C hX hz9 ⟨by omega, by omega⟩ dL_law_35 ?_
      refine v_bipush (v := 31) C dL_law_36 (by decide) ?_
      refine v_iand C dL_law_38 ?_
      generalize xs (4 * n) &&& 31 = x
      by_cases e0 : x.toInt = 0
      · refine v_tabIn (off := 93) (tgt := 132) C dL_law_39 (by rw [e0]; decide) (by rw [e0]; decide) (by rw [e0]; rfl) (by decide) ?_
        exact case_0 hl9 C hA hX hz9 hn hL hI hR hc K
      by_cases e1 : x.toInt = 1
      · refine v_tabIn (off := 149) (tgt := 188) C dL_law_39 (by rw [e1]; decide) (by rw [e1]; decide) (by rw [e1]; rfl) (by decide) ?_
        exact case_1 hl9 C hA hX hz9 hn hL hI hR hc K
      by_cases e2 : x.toInt = 2
      · refine v_tabIn (off := 229) (tgt := 268) C dL_law_39 (by rw [e2]; decide) (by rw [e2]; decide) (by rw [e2]; rfl) (by decide) ?_
        exact case_2 hl9 C hA hX hz9 hn hL hI hR hc K
      by_cases e3 : x.toInt = 3
      · refine v_tabIn (off := 297) (tgt := 336) C dL_law_39 (by rw [e3]; decide) (by rw [e3]; decide) (by rw [e3]; rfl) (by decide) ?_
        exact case_3 hl9 C hA hX hz9 hn hL hI hR hc K
      by_cases e4 : x.toInt = 4
      · refine v_tabIn (off := 365) (tgt := 404) C dL_law_39 (by rw [e4]; decide) (by rw [e4]; decide) (by rw [e4]; rfl) (by decide) ?_
        exact case_4 hl9 C hA hX hz9 hn hL hI hR hc K
      by_cases e5 : x.toInt = 5
      · refine v_tabIn (off := 445) (tgt := 484) C dL_law_39 (by rw [e5]; decide) (by rw [e5]; decide) (by rw [e5]; rfl) (by decide) ?_
        exact case_5 hl9 C hA hX hz9 hn hL hI hR hc K
      by_cases e6 : x.toInt = 6
      · refine v_tabIn (off := 513) (tgt := 552) C dL_law_39 (by rw [e6]; decide) (by rw [e6]; decide) (by rw [e6]; rfl) (by decide) ?_
        exact case_6 hl9 C hA hX hz9 hn hL hI hR hc K
      by_cases e7 : x.toInt = 7
      · refine v_tabIn (off := 581) (tgt := 620) C dL_law_39 (by rw [e7]; decide) (by rw [e7]; decide) (by rw [e7]; rfl) (by decide) ?_
        exact case_7 hl9 C hA hX hz9 hn hL hI hR hc K
      by_cases e8 : x.toInt = 8
      · refine v_tabIn (off := 637) (tgt := 676) C dL_law_39 (by rw [e8]; decide) (by rw [e8]; decide) (by rw [e8]; rfl) (by decide) ?_
        exact case_8 hl9 C hA hX hz9 hn hL hI hR hc K
      by_cases e9 : x.toInt = 9
      · refine v_tabIn (off := 705) (tgt := 744) C dL_law_39 (by rw [e9]; decide) (by rw [e9]; decide) (by rw [e9]; rfl) (by decide) ?_
        exact case_9 hl9 C hA hX hz9 hn hL hI hR hc K
      by_cases e10 : x.toInt = 10
      · refine v_tabIn (off := 761) (tgt := 800) C dL_law_39 (by rw [e10]; decide) (by rw [e10]; decide) (by rw [e10]; rfl) (by decide) ?_
        exact case_10 hl9 C hA hX hz9 hn hL hI hR hc K
      by_cases e11 : x.toInt = 11
      · refine v_tabIn (off := 841) (tgt := 880) C dL_law_39 (by rw [e11]; decide) (by rw [e11]; decide) (by rw [e11]; rfl) (by decide) ?_
        exact case_11 hl9 C hA hX hz9 hn hL hI hR hc K
      by_cases e12 : x.toInt = 12
      · refine v_tabIn (off := 909) (tgt := 948) C dL_law_39 (by rw [e12]; decide) (by rw [e12]; decide) (by rw [e12]; rfl) (by decide) ?_
        exact case_12 hl9 C hA hX hz9 hn hL hI hR hc K
      by_cases e13 : x.toInt = 13
      · refine v_tabIn (off := 989) (tgt := 1028) C dL_law_39 (by rw [e13]; decide) (by rw [e13]; decide) (by rw [e13]; rfl) (by decide) ?_
        exact case_13 hl9 C hA hX hz9 hn hL hI hR hc K
      by_cases e14 : x.toInt = 14
      · refine v_tabIn (off := 1045) (tgt := 1084) C dL_law_39 (by rw [e14]; decide) (by rw [e14]; decide) (by rw [e14]; rfl) (by decide) ?_
        exact case_14 hl9 C hA hX hz9 hn hL hI hR hc K
      by_cases e15 : x.toInt = 15
      · refine v_tabIn (off := 1113) (tgt := 1152) C dL_law_39 (by rw [e15]; decide) (by rw [e15]; decide) (by rw [e15]; rfl) (by decide) ?_
        exact case_15 hl9 C hA hX hz9 hn hL hI hR hc K
      by_cases e16 : x.toInt = 16
      · refine v_tabIn (off := 1126) (tgt := 1165) C dL_law_39 (by rw [e16]; decide) (by rw [e16]; decide) (by rw [e16]; rfl) (by decide) ?_
        exact case_16 hl9 C hA hX hz9 hn hL hI hR hc K
      by_cases e17 : x.toInt = 17
      · refine v_tabIn (off := 1182) (tgt := 1221) C dL_law_39 (by rw [e17]; decide) (by rw [e17]; decide) (by rw [e17]; rfl) (by decide) ?_
        exact case_17 hl9 C hA hX hz9 hn hL hI hR hc K
      by_cases e18 : x.toInt = 18
      · refine v_tabIn (off := 1238) (tgt := 1277) C dL_law_39 (by rw [e18]; decide) (by rw [e18]; decide) (by rw [e18]; rfl) (by decide) ?_
        exact case_18 hl9 C hA hX hz9 hn hL hI hR hc K
      by_cases e19 : x.toInt = 19
      · refine v_tabIn (off := 1279) (tgt := 1318) C dL_law_39 (by rw [e19]; decide) (by rw [e19]; decide) (by rw [e19]; rfl) (by decide) ?_
        exact case_19 hl9 C hA hX hz9 hn hL hI hR hc K
      refine v_tabOut (tgt := 1332) C dL_law_39 (by omega) (by decide) ?_
      exact v_wide (by omega) (by omega) (K ad g adE.rf (hI.rf (by omega)) hR)
