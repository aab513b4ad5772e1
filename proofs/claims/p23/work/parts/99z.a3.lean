/-! THE LAW'S act: setOther, set, print, strike -/
theorem Cn_id {s m : MG} (hI : IvM s) (hR : SimR s m) : Cn s m id := by
  obtain ⟨a1, -, -, -, a5, a6, -⟩ := id hR
  exact Cn_mk hI hR (fun _ _ _ _ => rfl) (fun _ _ _ _ _ _ => rfl) rfl (fun _ _ _ => rfl) a1 a5 a6 (fun p hp => CnP_c hI hR hp (fun _ _ _ => rfl) (fun _ _ _ => rfl) ⟨rfl, rfl, rfl, rfl, rfl⟩ (fun _ _ => ⟨rfl, rfl, rfl, rfl⟩))
/-- the shop alone: what no row of it refers to is let go -/
theorem l_clean {P : Pm} {R : Room} {Z : Zc} {lo : Lo} {pc : Nat} {st : List Value} {g : MG} {cs sl : Nat} {ad : Nat → Nat} {s m : MG} (hI : IvM s) (hR : SimR s m) (kk : ∀ (ad' : Nat → Nat) (m' : MG), (∀ k, ad' k = ad k) → SimR s m' → Fr m' 900 → V P R (Z.wl ad' m') lo pc st g cs sl) : V P R (Z.wl ad m) lo pc st g cs sl := by
  have hC := Cn_id hI hR
  have hf5 := (IvM_nf hI).1
  have hp6 := (IvM_np hI).1
  have h4 : ∀ p, p < npO s → nlO s p ≤ 4 := fun p hp => (IvM_nl hI (by omega)).2
  refine l_canon hC hf5 hp6 h4 (fun k k1 k2 => ⟨k1, Nat.lt_trans k2 (by decide)⟩) (fun a b _ _ _ _ _ _ h => h) ?_
  exact kk _ _ (fun k => by show (if k < 600 then ad k else ad k) = ad k; exact ite_self _) (Cn_Sim hC hf5 hp6 h4) (Cn_Fr hC hf5 hp6 h4 (fun k k1 k2 => ⟨k1, Nat.lt_trans k2 (by decide)⟩))
theorem st_nf {s s' : MG} (h : s' 0 = s 0) : nfO s ≤ nfO s' ∧ npO s ≤ npO s' := by unfold nfO npO; rw [h]; exact ⟨Nat.le_refl _, Nat.le_refl _⟩
theorem cdOth_0 {k o : Nat} (hk : k < 10) (ho : o < 6) (hne : ¬ nI o - 1 = nI k) : cdSetOther (nI k) (nI o - 1) = 0 := by
  unfold cdSetOther
  rw [isN_of hk (by decide)]
  have h2 : ¬ (¬ nI o - 1 = -1 ∧ isN 10 (nI o - 1) = false) := by
    rintro ⟨h1, h2⟩
    rcases o with _ | o
    · exact h1 rfl
    · rw [show nI (o + 1) - 1 = nI o by rw [show (1 : Int32) = nI 1 from rfl, nI_sub (by omega), Nat.add_sub_cancel], isN_of (by omega) (by decide)] at h2
      cases h2
  rw [if_neg (by rintro (h | h); · cases h
                 · exact h2 h), if_neg (fun z => hne z.symm)]
set_option maxRecDepth 100000 in
theorem act_oth {P : Pm} {Z : Zc} {ad : Nat → Nat} {N : Nat} {s m g : MG} (hP9 : P.2.1.stackTraces = false) (C : Cx P Z cL_act "PosterTypesLaw") (hW9 : CxW P Z) (hT : CxT P hhA) (hN : N + 1 ≤ 2048) (hE : LE N s) (hR : SimR s m) (hF : Fr m 900) (hRl : Rl s g) (x : Int32) (f k p : Nat) (hf : f < nfO s) (hk : k < 10) (hp : p < npO s) (ret : RetA P Z ad N s)  : V P RA (Z.wl ad m) [some (.ref (ad 30)), some (.ref (ad 600)), some (.int x), some (.int (nI f)), some (.int (nI k)), some (.int (nI p)), some (.ref (ad (700 + 20 * p))), none, none, none, none, none, none, none, none] 269 [] g 0 0 := by
  have hI := hE.1.1
  have hf5 := (IvM_nf hI).1
  have hp6 := (IvM_np hI).1
  have h4 := (IvM_nl hI (show p < 6 by omega)).2
  obtain ⟨hPF, hPL, hPX⟩ := hR.L hp
  refine v_iload_n (C.wl _ _) dL_act_269 rfl rfl ?_
  refine v_bipush (v := 8) (C.wl _ _) dL_act_270 (by decide) ?_
  refine v_ishr (C.wl _ _) dL_act_272 ?_
  refine v_bipush (v := 6) (C.wl _ _) dL_act_273 (by decide) ?_
  refine v_callSi (n := 2) (as := [.int (x >>> (8 &&& 31)), .int (nI 6)]) (C.wl _ _) (l_below _ Z ad m (x >>> (8 &&& 31)) 6 ⟨by omega, by omega⟩ g) (gs (tg3 17 rfl rfl) (tg3 18 rfl rfl) (tg1 0 rfl rfl) (tg3 19 rfl rfl)) (by decide +kernel) ⟨Nat.le_of_ble_eq_true rfl, Nat.le_of_ble_eq_true rfl⟩ rfl rfl (Nat.le_of_ble_eq_true rfl) dL_act_275 ⟨(by show 0 + 0 ≤ 70; omega), (by show 0 + 0 ≤ 700; omega)⟩ (fun r275 gg275 hp275 => ?_)
  obtain ⟨hr275, hgg275⟩ := hp275
  rw [hr275, hgg275]
  have bo : bwN (x >>> (8 &&& 31)) 6 < 6 := bwN_lt _ (by omega)
  generalize bwN (x >>> (8 &&& 31)) 6 = o at bo ⊢
  refine v_iconst (v := 1) (C.wl _ _) dL_act_278 (by decide) ?_
  refine v_isub (C.wl _ _) dL_act_279 ?_
  refine v_istore (lo' := [some (.ref (ad 30)), some (.ref (ad 600)), some (.int x), some (.int (nI f)), some (.int (nI k)), some (.int (nI p)), some (.ref (ad (700 + 20 * p))), none, none, some (.int ((nI o) - 1)), none, none, none, none, none]) (C.wl _ _) dL_act_280 (Nat.le_of_ble_eq_true rfl) rfl rfl ?_
  refine v_iload (C.wl _ _) dL_act_282 rfl ?_
  refine v_iload (C.wl _ _) dL_act_284 rfl ?_
  refine v_icmp_ne (tgt := 291) (C.wl _ _) dL_act_286 (by decide) (fun h286 => ?_) (fun h286 => ?_)
  · have hcd := cdOth_0 hk bo h286
    refine v_aload_n (C.wl _ _) dL_act_291 rfl rfl ?_
    refine l_get (k := 600) C inG5 (ci := 6) rfl 4 (by decide) (tg5 10 rfl rfl) rfl ⟨by decide, by decide⟩ (cW_6 hR.1.1) (sm_r (by decide) hR.1.2.2.2.2.2.1 ⟨by decide, by decide⟩) dL_act_292 ?_
    refine v_iload (C.wl _ _) dL_act_295 rfl ?_
    refine l_iald (k := 603) (n := 10) (a := k) C ⟨by decide, by decide⟩ hR.2.2.2.1.1.1 hR.2.2.2.1.1.2 ⟨hk, by decide⟩ dL_act_297 ?_
    refine v_topi (y := s 9 k) (hR.2.2.2.1.2 k hk) ?_
    refine v_istore (lo' := [some (.ref (ad 30)), some (.ref (ad 600)), some (.int x), some (.int (nI f)), some (.int (nI k)), some (.int (nI p)), some (.ref (ad (700 + 20 * p))), none, some (.int (s 9 k)), some (.int ((nI o) - 1)), none, none, none, none, none]) (C.wl _ _) dL_act_298 (Nat.le_of_ble_eq_true rfl) rfl rfl ?_
    refine v_aload_n (C.wl _ _) dL_act_300 rfl rfl ?_
    refine l_get (k := 600) C inG5 (ci := 6) rfl 4 (by decide) (tg5 10 rfl rfl) rfl ⟨by decide, by decide⟩ (cW_6 hR.1.1) (sm_r (by decide) hR.1.2.2.2.2.2.1 ⟨by decide, by decide⟩) dL_act_301 ?_
    refine v_iload (C.wl _ _) dL_act_304 rfl ?_
    refine v_iload (C.wl _ _) dL_act_306 rfl ?_
    refine l_iast (k := 603) (n := 10) (a := k) C ⟨by decide, by decide⟩ hR.2.2.2.1.1.1 hR.2.2.2.1.1.2 ⟨hk, by decide⟩ dL_act_308 ?_
    have hst : stSetOther s (nI k) (nI o - 1) = wr s 9 k (nI o - 1) := by unfold stSetOther; rw [if_pos hcd, iz_nI (by omega)]
    have hSim : SimR (stSetOther s (nI k) (nI o - 1)) (wr m 603 k ((nI o) - 1)) := by rw [hst]; exact Sim_oth hI hR hk
    have hF2 : Fr (wr m 603 k ((nI o) - 1)) 900 := hF.wi (by decide) (by omega) hR.2.2.2.1.1.1
    refine v_aload_n (C.wl _ _) dL_act_309 rfl rfl ?_
    refine v_iload (C.wl _ _) dL_act_310 rfl ?_
    refine v_iload (C.wl _ _) dL_act_312 rfl ?_
    refine v_callX (n := 2) (k := 30) (as := [.int (nI k), .int ((nI o) - 1)]) (C.wl _ _) hW9.S (x_setOther _ hP9 (Z.wl ad (wr m 603 k ((nI o) - 1))) (nI k) ((nI o) - 1) s g hE.1.1 hRl) (gv (tg3 56 rfl rfl) (tg3 57 rfl rfl) (tg3 58 rfl rfl) (tg1 1 rfl rfl) (tg3 59 rfl rfl)) (by decide +kernel) ⟨Nat.le_of_ble_eq_true rfl, Nat.le_of_ble_eq_true rfl⟩ rfl cx_T rfl rfl (Nat.le_of_ble_eq_true rfl) dL_act_314 ⟨(by show 0 + 1 ≤ 70; omega), (by show 0 + 6 ≤ 700; omega)⟩ (fun E q g314 hp314 => absurd hcd hp314.1) (fun r314 g314 hp314 => ?_)
    obtain ⟨-, hr314, hRl314, hK314⟩ := hp314
    refine v_topi (y := s 9 k) (hr314.trans (by rw [iz_nI (by omega)])) ?_
    refine v_iload (C.wl _ _) dL_act_317 rfl ?_
    refine v_icmp_ne (tgt := 326) (C.wl _ _) dL_act_319 (by decide) (fun h => absurd rfl h) (fun _ => ?_)
    refine v_iconst (v := 1) (C.wl _ _) dL_act_322 (by decide) ?_
    refine v_goto (tgt := 327) (C.wl _ _) dL_act_323 (by decide) ?_
    refine v_wide (k := 70) (n := 700) (by show 0 + 1 ≤ 70; omega) (by show 0 + 6 ≤ 700; omega) ?_
    exact ret _ _ _ _ _ dL_act_327 ⟨⟨rfl, rfl⟩, _, (LE_setOther hE hN (nI k) (nI o - 1)).1, (LE_setOther hE hN (nI k) (nI o - 1)).2, hSim, hF2, hRl314, (by rw [hst]; exact (st_nf (wr_row _ _ _ _ (by decide))).1), (by rw [hst]; exact (st_nf (wr_row _ _ _ _ (by decide))).2)⟩
  · refine v_iconst (v := 1) (C.wl _ _) dL_act_289 (by decide) ?_
    refine v_wide (k := 70) (n := 700) (by show 0 ≤ 70; omega) (by show 0 ≤ 700; omega) ?_
    exact ret _ _ _ _ _ dL_act_290 ⟨⟨rfl, rfl⟩, s, (LE.rf hE hN).1, (LE.rf hE hN).2, hR, hF, hRl, (Nat.le_refl _), (Nat.le_refl _)⟩
set_option maxRecDepth 100000 in
theorem act_print {P : Pm} {Z : Zc} {ad : Nat → Nat} {N : Nat} {s m g : MG} (hP9 : P.2.1.stackTraces = false) (C : Cx P Z cL_act "PosterTypesLaw") (hW9 : CxW P Z) (hT : CxT P hhA) (hN : N + 1 ≤ 2048) (hE : LE N s) (hR : SimR s m) (hF : Fr m 900) (hRl : Rl s g) (x : Int32) (f k p : Nat) (hf : f < nfO s) (hk : k < 10) (hp : p < npO s) (ret : RetA P Z ad N s)  : V P RA (Z.wl ad m) [some (.ref (ad 30)), some (.ref (ad 600)), some (.int x), some (.int (nI f)), some (.int (nI k)), some (.int (nI p)), some (.ref (ad (700 + 20 * p))), none, none, none, none, none, none, none, none] 703 [] g 0 0 := by
  have hI := hE.1.1
  have hf5 := (IvM_nf hI).1
  have hp6 := (IvM_np hI).1
  have h4 := (IvM_nl hI (show p < 6 by omega)).2
  obtain ⟨hPF, hPL, hPX⟩ := hR.L hp
  refine v_aload (C.wl _ _) dL_act_703 rfl ?_
  refine l_get (k := 700 + 20 * p) C inG4 (ci := 5) rfl 3 (by decide) (tg2 185 rfl rfl) rfl ⟨by omega, by omega⟩ (cW_5 hPF.1) rfl dL_act_705 ?_
  refine v_topi (y := s 15 p) hPF.2.2.2.2.1 ?_
  refine v_if_ne (tgt := 713) (C.wl _ _) dL_act_708 (by decide) (fun h708 => ?_) (fun h708 => ?_)
  · have h15 : s 15 p = 1 := (IvM_01 hI (show p < 6 by omega)).resolve_left h708
    refine v_iconst (v := 1) (C.wl _ _) dL_act_713 (by decide) ?_
    refine v_iload_n (C.wl _ _) dL_act_714 rfl rfl ?_
    refine v_bipush (v := 6) (C.wl _ _) dL_act_715 (by decide) ?_
    refine v_ishr (C.wl _ _) dL_act_717 ?_
    refine v_iload_n (C.wl _ _) dL_act_718 rfl rfl ?_
    refine v_bipush (v := 8) (C.wl _ _) dL_act_719 (by decide) ?_
    refine v_ishr (C.wl _ _) dL_act_721 ?_
    refine v_iconst (v := 3) (C.wl _ _) dL_act_722 (by decide) ?_
    refine v_callSi (n := 2) (as := [.int (x >>> (8 &&& 31)), .int (nI 3)]) (C.wl _ _) (l_below _ Z ad m (x >>> (8 &&& 31)) 3 ⟨by omega, by omega⟩ g) (gs (tg3 17 rfl rfl) (tg3 18 rfl rfl) (tg1 0 rfl rfl) (tg3 19 rfl rfl)) (by decide +kernel) ⟨Nat.le_of_ble_eq_true rfl, Nat.le_of_ble_eq_true rfl⟩ rfl rfl (Nat.le_of_ble_eq_true rfl) dL_act_723 ⟨(by show 0 + 0 ≤ 70; omega), (by show 0 + 0 ≤ 700; omega)⟩ (fun r723 gg723 hp723 => ?_)
    obtain ⟨hr723, hgg723⟩ := hp723
    rw [hr723, hgg723]
    have bb : bwN (x >>> (8 &&& 31)) 3 < 3 := bwN_lt _ (by omega)
    generalize bwN (x >>> (8 &&& 31)) 3 = b at bb ⊢
    have J726 : ∀ nn : Nat, (nn = 500 ∨ nn = 150) → V P RA (Z.wl ad m) [some (.ref (ad 30)), some (.ref (ad 600)), some (.int x), some (.int (nI f)), some (.int (nI k)), some (.int (nI p)), some (.ref (ad (700 + 20 * p))), none, none, none, none, none, none, none, none] 738 [.int (nI nn), .int (x >>> (6 &&& 31)), .int 1] g (0) (0) := by
      intro nn hnn
      refine v_callSi (n := 2) (as := [.int (x >>> (6 &&& 31)), .int (nI nn)]) (C.wl _ _) (l_below _ Z ad m (x >>> (6 &&& 31)) nn ⟨by omega, by omega⟩ g) (gs (tg3 17 rfl rfl) (tg3 18 rfl rfl) (tg1 0 rfl rfl) (tg3 19 rfl rfl)) (by decide +kernel) ⟨Nat.le_of_ble_eq_true rfl, Nat.le_of_ble_eq_true rfl⟩ rfl rfl (Nat.le_of_ble_eq_true rfl) dL_act_738 ⟨(by show 0 + 0 ≤ 70; omega), (by show 0 + 0 ≤ 700; omega)⟩ (fun r738 gg738 hp738 => ?_)
      obtain ⟨hr738, hgg738⟩ := hp738
      rw [hr738, hgg738]
      have bv : bwN (x >>> (6 &&& 31)) nn < nn := bwN_lt _ (by omega)
      generalize bwN (x >>> (6 &&& 31)) nn = v at bv ⊢
      refine v_iadd (C.wl _ _) dL_act_741 ?_
      refine v_topi (y := nI (1 + v)) (by rw [show (1 : Int32) = nI 1 from rfl, nI_add]) ?_
      have hcd : cdPrint s (nI p) (nI (1 + v)) = 0 := by
        have k2 : inB (nI (1 + v)) 1 500 = true := inB_t.mpr (by rw [nI_toInt (by omega)]; exact ⟨by show (1 : Int) ≤ (1 + v : Nat); omega, by show ((1 + v : Nat) : Int) ≤ 500; omega⟩)
        unfold cdPrint
        rw [isN_of hp (by omega), k2, iz_nI (by omega), h15]
        rfl
      refine v_istore (lo' := [some (.ref (ad 30)), some (.ref (ad 600)), some (.int x), some (.int (nI f)), some (.int (nI k)), some (.int (nI p)), some (.ref (ad (700 + 20 * p))), none, none, some (.int (nI (1 + v))), none, none, none, none, none]) (C.wl _ _) dL_act_742 (Nat.le_of_ble_eq_true rfl) rfl rfl ?_
      refine v_aload_n (C.wl _ _) dL_act_744 rfl rfl ?_
      refine v_iload (C.wl _ _) dL_act_745 rfl ?_
      refine v_iload (C.wl _ _) dL_act_747 rfl ?_
      refine v_callX (n := 2) (k := 30) (as := [.int (nI p), .int (nI (1 + v))]) (C.wl _ _) hW9.S (x_print _ hP9 (Z.wl ad m) (nI p) (nI (1 + v)) s g hE.1.1 hE.1.2.1 hRl) (gv (tg4 215 rfl rfl) (tg4 216 rfl rfl) (tg4 217 rfl rfl) (tg1 1 rfl rfl) (tg4 218 rfl rfl)) (by decide +kernel) ⟨Nat.le_of_ble_eq_true rfl, Nat.le_of_ble_eq_true rfl⟩ rfl cx_T rfl rfl (Nat.le_of_ble_eq_true rfl) dL_act_749 ⟨(by show 0 + 1 ≤ 70; omega), (by show 0 + 6 ≤ 700; omega)⟩ (fun E q g749 hp749 => absurd hcd hp749.1) (fun r749 g749 hp749 => ?_)
      obtain ⟨-, hr749, hRl749, hK749⟩ := hp749
      refine v_topi (y := gtO s p (nI (1 + v))) (hr749.trans (by rw [iz_nI (by omega)])) ?_
      refine v_aload_n (C.wl _ _) dL_act_752 rfl rfl ?_
      refine v_iload (C.wl _ _) dL_act_753 rfl ?_
      refine v_iload (C.wl _ _) dL_act_755 rfl ?_
      refine l_callVi (n := 2) (k := 600) (as := [.int (nI p), .int (nI (1 + v))]) C hW9 (l_print _ Z ad s m g749 p hI hE.1.2.1 hR hp h15 (nI (1 + v)) hcd) (gv (tg4 224 rfl rfl) (tg4 225 rfl rfl) (tg4 226 rfl rfl) (tg1 6 rfl rfl) (tg4 227 rfl rfl)) (by decide +kernel) ⟨Nat.le_of_ble_eq_true rfl, Nat.le_of_ble_eq_true rfl⟩ rfl (by decide) (cW_6 hR.1.1) rfl rfl (Nat.le_of_ble_eq_true rfl) dL_act_757 ⟨(by show 0 + 1 + 0 ≤ 70; omega), (by show 0 + 6 + 0 ≤ 700; omega)⟩ (fun r757 ad757 m757 gg757 hp757 => ?_)
      obtain ⟨rfl, ea757, hS757, -, eg757⟩ := hp757
      rw [eg757, ea757]
      refine l_clean (LE_print hE hN (nI p) (nI (1 + v))).1.1.1 hS757 (fun ad9 m9 hA9 hS9 hF9 => ?_)
      have h0 : ∀ j, j ≠ 3 → stPrint s (nI p) (nI (1 + v)) 0 j = s 0 j := fun j hj => by unfold stPrint; rw [if_pos hcd, wr_row _ _ _ _ (by decide), wr_ne _ _ _ _ (Or.inr hj), rwr_ne _ _ _ (by decide)]
      refine v_icmp_ne (tgt := 767) (C.wl _ _) dL_act_760 (by decide) (fun h => absurd rfl h) (fun _ => ?_)
      refine v_iconst (v := 1) (C.wl _ _) dL_act_763 (by decide) ?_
      refine v_goto (tgt := 768) (C.wl _ _) dL_act_764 (by decide) ?_
      refine v_wide (k := 70) (n := 700) (by show 0 + 1 + 0 ≤ 70; omega) (by show 0 + 6 + 0 ≤ 700; omega) ?_
      exact ret _ _ _ _ _ dL_act_768 ⟨⟨hA9 _, hA9 _⟩, _, (LE_print hE hN (nI p) (nI (1 + v))).1, (LE_print hE hN (nI p) (nI (1 + v))).2, hS9, hF9, hRl749, (by unfold nfO; rw [h0 1 (by decide)]; exact Nat.le_refl _), (by unfold npO; rw [h0 2 (by decide)]; exact Nat.le_refl _)⟩
    refine v_if_ne (tgt := 735) (C.wl _ _) dL_act_726 (by decide) (fun _ => ?_) (fun _ => ?_)
    · exact v_sipush (v := nI 150) (C.wl _ _) dL_act_735 rfl (J726 150 (Or.inr rfl))
    · refine v_sipush (v := nI 500) (C.wl _ _) dL_act_729 rfl ?_
      exact v_goto (tgt := 738) (C.wl _ _) dL_act_732 (by decide) (J726 500 (Or.inl rfl))
  · refine v_iconst (v := 1) (C.wl _ _) dL_act_711 (by decide) ?_
    refine v_wide (k := 70) (n := 700) (by show 0 ≤ 70; omega) (by show 0 ≤ 700; omega) ?_
    exact ret _ _ _ _ _ dL_act_712 ⟨⟨rfl, rfl⟩, s, (LE.rf hE hN).1, (LE.rf hE hN).2, hR, hF, hRl, (Nat.le_refl _), (Nat.le_refl _)⟩
set_option maxRecDepth 100000 in
theorem act_strike {P : Pm} {Z : Zc} {ad : Nat → Nat} {N : Nat} {s m g : MG} (hP9 : P.2.1.stackTraces = false) (C : Cx P Z cL_act "PosterTypesLaw") (hW9 : CxW P Z) (hT : CxT P hhA) (hN : N + 1 ≤ 2048) (hE : LE N s) (hR : SimR s m) (hF : Fr m 900) (hRl : Rl s g) (x : Int32) (f k p : Nat) (hf : f < nfO s) (hk : k < 10) (hp : p < npO s) (ret : RetA P Z ad N s)  : V P RA (Z.wl ad m) [some (.ref (ad 30)), some (.ref (ad 600)), some (.int x), some (.int (nI f)), some (.int (nI k)), some (.int (nI p)), some (.ref (ad (700 + 20 * p))), none, none, none, none, none, none, none, none] 769 [] g 0 0 := by
  have hI := hE.1.1
  have hf5 := (IvM_nf hI).1
  have hp6 := (IvM_np hI).1
  have h4 := (IvM_nl hI (show p < 6 by omega)).2
  obtain ⟨hPF, hPL, hPX⟩ := hR.L hp
  refine v_aload (C.wl _ _) dL_act_769 rfl ?_
  refine l_get (k := 700 + 20 * p) C inG4 (ci := 5) rfl 3 (by decide) (tg2 185 rfl rfl) rfl ⟨by omega, by omega⟩ (cW_5 hPF.1) rfl dL_act_771 ?_
  refine v_topi (y := s 15 p) hPF.2.2.2.2.1 ?_
  refine v_if_ne (tgt := 779) (C.wl _ _) dL_act_774 (by decide) (fun h774 => ?_) (fun h774 => ?_)
  · have h15 : s 15 p = 1 := (IvM_01 hI (show p < 6 by omega)).resolve_left h774
    refine v_aload_n (C.wl _ _) dL_act_779 rfl rfl ?_
    have hcd : cdStrike s (nI p) = 0 := by
      unfold cdStrike
      rw [isN_of hp (by omega), iz_nI (by omega), h15]
      rfl
    refine v_iload (C.wl _ _) dL_act_780 rfl ?_
    refine v_callX (n := 1) (k := 30) (as := [.int (nI p)]) (C.wl _ _) hW9.S (x_strike _ hP9 (Z.wl ad m) (nI p) s g hE.1.1 hE.1.2.1 hE.1.2.2.1 hRl) (gv (tg2 18 rfl rfl) (tg2 19 rfl rfl) (tg2 20 rfl rfl) (tg1 1 rfl rfl) (tg2 21 rfl rfl)) (by decide +kernel) ⟨Nat.le_of_ble_eq_true rfl, Nat.le_of_ble_eq_true rfl⟩ rfl cx_T rfl rfl (Nat.le_of_ble_eq_true rfl) dL_act_782 ⟨(by show 0 + 1 ≤ 70; omega), (by show 0 + 6 ≤ 700; omega)⟩ (fun E q g782 hp782 => absurd hcd hp782.1) (fun r782 g782 hp782 => ?_)
    obtain ⟨-, hr782, hRl782, hK782⟩ := hp782
    refine v_topi (y := sumI (brO s p) 50) (hr782.trans (by rw [iz_nI (by omega)])) ?_
    refine v_aload_n (C.wl _ _) dL_act_785 rfl rfl ?_
    refine v_iload (C.wl _ _) dL_act_786 rfl ?_
    refine l_callVi (n := 1) (k := 600) (as := [.int (nI p)]) C hW9 (l_strike _ Z ad s m g782 N p hI hE.1.2.1 hR hp h15 hE.1.2.2.1 hE.1.2.2.2.2) (gv (tg2 232 rfl rfl) (tg2 233 rfl rfl) (tg2 234 rfl rfl) (tg1 6 rfl rfl) (tg2 235 rfl rfl)) (by decide +kernel) ⟨Nat.le_of_ble_eq_true rfl, Nat.le_of_ble_eq_true rfl⟩ rfl (by decide) (cW_6 hR.1.1) rfl rfl (Nat.le_of_ble_eq_true rfl) dL_act_788 ⟨(by show 0 + 1 + 0 ≤ 70; omega), (by show 0 + 6 + 0 ≤ 700; omega)⟩ (fun r788 ad788 m788 gg788 hp788 => ?_)
    obtain ⟨rfl, ea788, hS788, -, eg788⟩ := hp788
    rw [eg788, ea788]
    refine l_clean (LE_strike hE hN (nI p)).1.1.1 hS788 (fun ad9 m9 hA9 hS9 hF9 => ?_)
    have h0 : ∀ j, j ≠ 4 → stStrike s (nI p) 0 j = s 0 j := fun j hj => by unfold stStrike; rw [if_pos hcd, if_neg (by decide), if_neg (by decide), if_neg (by decide), if_neg (by decide), if_pos rfl, if_neg hj]
    refine v_icmp_ne (tgt := 798) (C.wl _ _) dL_act_791 (by decide) (fun h => absurd rfl h) (fun _ => ?_)
    refine v_iconst (v := 1) (C.wl _ _) dL_act_794 (by decide) ?_
    refine v_goto (tgt := 799) (C.wl _ _) dL_act_795 (by decide) ?_
    refine v_wide (k := 70) (n := 700) (by show 0 + 1 + 0 ≤ 70; omega) (by show 0 + 6 + 0 ≤ 700; omega) ?_
    exact ret _ _ _ _ _ dL_act_799 ⟨⟨hA9 _, hA9 _⟩, _, (LE_strike hE hN (nI p)).1, (LE_strike hE hN (nI p)).2, hS9, hF9, hRl782, (by unfold nfO; rw [h0 1 (by decide)]; exact Nat.le_refl _), (by unfold npO; rw [h0 2 (by decide)]; exact Nat.le_refl _)⟩
  · refine v_iconst (v := 1) (C.wl _ _) dL_act_777 (by decide) ?_
    refine v_wide (k := 70) (n := 700) (by show 0 ≤ 70; omega) (by show 0 ≤ 700; omega) ?_
    exact ret _ _ _ _ _ dL_act_778 ⟨⟨rfl, rfl⟩, s, (LE.rf hE hN).1, (LE.rf hE hN).2, hR, hF, hRl, (Nat.le_refl _), (Nat.le_refl _)⟩
set_option maxRecDepth 100000 in
theorem act_set {P : Pm} {Z : Zc} {ad : Nat → Nat} {N : Nat} {s m g : MG} (hP9 : P.2.1.stackTraces = false) (C : Cx P Z cL_act "PosterTypesLaw") (hW9 : CxW P Z) (hT : CxT P hhA) (hN : N + 1 ≤ 2048) (hE : LE N s) (hR : SimR s m) (hF : Fr m 900) (hRl : Rl s g) (x : Int32) (f k p : Nat) (hf : f < nfO s) (hk : k < 10) (hp : p < npO s) (ret : RetA P Z ad N s)  : V P RA (Z.wl ad m) [some (.ref (ad 30)), some (.ref (ad 600)), some (.int x), some (.int (nI f)), some (.int (nI k)), some (.int (nI p)), some (.ref (ad (700 + 20 * p))), none, none, none, none, none, none, none, none] 656 [] g 0 0 := by
  have hI := hE.1.1
  have hf5 := (IvM_nf hI).1
  have hp6 := (IvM_np hI).1
  have h4 := (IvM_nl hI (show p < 6 by omega)).2
  obtain ⟨hPF, hPL, hPX⟩ := hR.L hp
  refine v_aload_n (C.wl _ _) dL_act_656 rfl rfl ?_
  refine l_get (k := 600) C inG5 (ci := 6) rfl 6 (by decide) (tg5 14 rfl rfl) rfl ⟨by decide, by decide⟩ (cW_6 hR.1.1) (sm_r (by decide) hR.1.2.2.2.2.2.2.2 ⟨by decide, by decide⟩) dL_act_657 ?_
  refine l_len (k := 605) (n := npO s) C ⟨by decide, by decide⟩ (Or.inr (Or.inr (Or.inr hR.2.2.2.2.2.1.1.1))) hR.2.2.2.2.2.1.1.2 (by omega) dL_act_660 ?_
  refine v_if_ne (tgt := 666) (C.wl _ _) dL_act_661 (by decide) (fun h661 => ?_) (fun h661 => ?_)
  · refine v_aload_n (C.wl _ _) dL_act_666 rfl rfl ?_
    refine v_iload (C.wl _ _) dL_act_667 rfl ?_
    refine l_callVi (n := 1) (k := 600) (as := [.int (nI p)]) C hW9 (l_set _ Z ad s m g p hF hI hR hp) (gv (tg2 155 rfl rfl) (tg2 156 rfl rfl) (tg2 157 rfl rfl) (tg1 6 rfl rfl) (tg2 158 rfl rfl)) (by decide +kernel) ⟨Nat.le_of_ble_eq_true rfl, Nat.le_of_ble_eq_true rfl⟩ rfl (by decide) (cW_6 hR.1.1) rfl rfl (Nat.le_of_ble_eq_true rfl) dL_act_669 ⟨(by show 0 + 60 ≤ 70; omega), (by show 0 + 600 ≤ 700; omega)⟩ (fun r669 ad669 m669 gg669 hp669 => ?_)
    obtain ⟨rfl, ea669, hS669, hF669, eg669⟩ := hp669
    rw [eg669]
    refine v_lo (lo' := [some (.ref (ad669 30)), some (.ref (ad669 600)), some (.int x), some (.int (nI f)), some (.int (nI k)), some (.int (nI p)), some (.ref (ad (700 + 20 * p))), none, none, none, none, none, none, none, none]) (by rw [ea669 600 (by decide), ea669 30 (by decide)]) ?_
    refine v_istore (lo' := [some (.ref (ad669 30)), some (.ref (ad669 600)), some (.int x), some (.int (nI f)), some (.int (nI k)), some (.int (nI p)), some (.ref (ad (700 + 20 * p))), none, some (.int (wdF (plO s p))), none, none, none, none, none, none]) (C.wl _ _) dL_act_672 (Nat.le_of_ble_eq_true rfl) rfl rfl ?_
    refine v_aload_n (C.wl _ _) dL_act_674 rfl rfl ?_
    refine v_iload (C.wl _ _) dL_act_675 rfl ?_
    have h0 : stSet s (nI p) 0 = s 0 := by
      unfold stSet
      split
      · rfl
      · cases plO s (iz (nI p)) with
        | none => rfl
        | some a => exact setG_r (by decide)
    cases hpl : plO s (iz (nI p)) with
    | some a =>
      have hcd : cdSet s (nI p) = 0 := by unfold cdSet; rw [isN_of hp (by omega), hpl]; rfl
      refine v_callX (n := 1) (k := 30) (as := [.int (nI p)]) (C.wl _ _) hW9.S (x_set _ hP9 (Z.wl ad669 m669) (nI p) s g hE.1.1 _ hE.1.2.2.2.2 hRl) (gv (tg1 89 rfl rfl) (tg1 90 rfl rfl) (tg1 91 rfl rfl) (tg1 1 rfl rfl) (tg1 92 rfl rfl)) (by decide +kernel) ⟨Nat.le_of_ble_eq_true rfl, Nat.le_of_ble_eq_true rfl⟩ rfl cx_T rfl rfl (Nat.le_of_ble_eq_true rfl) dL_act_677 ⟨(by show 0 + 60 + 1 ≤ 70; omega), (by show 0 + 600 + 6 ≤ 700; omega)⟩ (fun E q g677 hp677 => absurd hcd hp677.1) (fun r677 g677 hp677 => ?_)
      obtain ⟨-, hr677, hRl677, hK677⟩ := hp677
      refine v_topi (y := wdF (plO s p)) (hr677.trans (by rw [iz_nI (by omega)])) ?_
      refine v_istore (lo' := [some (.ref (ad669 30)), some (.ref (ad669 600)), some (.int x), some (.int (nI f)), some (.int (nI k)), some (.int (nI p)), some (.ref (ad (700 + 20 * p))), some (.int (wdF (plO s p))), some (.int (wdF (plO s p))), none, none, none, none, none, none]) (C.wl _ _) dL_act_680 (Nat.le_of_ble_eq_true rfl) rfl rfl ?_
      refine v_goto (tgt := 690) (C.wl _ _) dL_act_682 (by decide) ?_
      refine v_iload (C.wl _ _) dL_act_690 rfl ?_
      refine v_iload (C.wl _ _) dL_act_692 rfl ?_
      refine v_icmp_ne (tgt := 701) (C.wl _ _) dL_act_694 (by decide) (fun h => absurd rfl h) (fun _ => ?_)
      refine v_iconst (v := 1) (C.wl _ _) dL_act_697 (by decide) ?_
      refine v_goto (tgt := 702) (C.wl _ _) dL_act_698 (by decide) ?_
      refine v_wide (k := 70) (n := 700) (by show 0 + 60 + 1 ≤ 70; omega) (by show 0 + 600 + 6 ≤ 700; omega) ?_
      exact ret _ _ _ _ _ dL_act_702 ⟨⟨ea669 30 (by decide), ea669 600 (by decide)⟩, _, (LE_set hE hN (nI p)).1, (LE_set hE hN (nI p)).2, hS669, hF669, hRl677, (st_nf h0).1, (st_nf h0).2⟩
    | none =>
      have hcd : cdSet s (nI p) = 2 := by unfold cdSet; rw [isN_of hp (by omega), hpl]; rfl
      have hw : wdF (plO s p) = -1 := by rw [iz_nI (by omega)] at hpl; rw [hpl]; rfl
      refine v_callX (n := 1) (k := 30) (as := [.int (nI p)]) (C.wl _ _) hW9.S (x_set _ hP9 (Z.wl ad669 m669) (nI p) s g hE.1.1 _ hE.1.2.2.2.2 hRl) (gv (tg1 89 rfl rfl) (tg1 90 rfl rfl) (tg1 91 rfl rfl) (tg1 1 rfl rfl) (tg1 92 rfl rfl)) (by decide +kernel) ⟨Nat.le_of_ble_eq_true rfl, Nat.le_of_ble_eq_true rfl⟩ rfl cx_T rfl rfl (Nat.le_of_ble_eq_true rfl) dL_act_677 ⟨(by show 0 + 60 + 1 ≤ 70; omega), (by show 0 + 600 + 6 ≤ 700; omega)⟩ (fun E q677 g677 hp677 => ?_) (fun r677 g677 hp677 => absurd (hcd.symm.trans hp677.1) (by decide))
      obtain ⟨-, hX677, hRl677, -⟩ := hp677
      rw [hcd] at hX677
      have hX677 : E = exC 2 := hX677
      subst hX677
      refine v_catchU (k := 2) (C.wl _ _) hW9.S hT 3 rfl (by decide) (by decide) (tg3 28 rfl rfl) (List.mem_of_getElem? (i := 5) rfl) (fun j hj => by rcases j with _ | _ | _ | j <;> first | exact ⟨_, rfl, by decide⟩ | omega) ?_
      refine v_astore (lo' := [some (.ref (ad669 30)), some (.ref (ad669 600)), some (.int x), some (.int (nI f)), some (.int (nI k)), some (.int (nI p)), some (.ref (ad (700 + 20 * p))), none, some (.int (wdF (plO s p))), some (.ref q677), none, none, none, none, none]) (C.wl _ _) dL_act_685 (Nat.le_of_ble_eq_true rfl) rfl rfl ?_
      refine v_iconst (v := (-1)) (C.wl _ _) dL_act_687 (by decide) ?_
      refine v_istore (lo' := [some (.ref (ad669 30)), some (.ref (ad669 600)), some (.int x), some (.int (nI f)), some (.int (nI k)), some (.int (nI p)), some (.ref (ad (700 + 20 * p))), some (.int (-1)), some (.int (wdF (plO s p))), some (.ref q677), none, none, none, none, none]) (C.wl _ _) dL_act_688 (Nat.le_of_ble_eq_true rfl) rfl rfl ?_
      refine v_iload (C.wl _ _) dL_act_690 rfl ?_
      refine v_iload (C.wl _ _) dL_act_692 rfl ?_
      rw [hw]
      refine v_icmp_ne (tgt := 701) (C.wl _ _) dL_act_694 (by decide) (fun h => absurd rfl h) (fun _ => ?_)
      refine v_iconst (v := 1) (C.wl _ _) dL_act_697 (by decide) ?_
      refine v_goto (tgt := 702) (C.wl _ _) dL_act_698 (by decide) ?_
      refine v_wide (k := 70) (n := 700) (by show 0 + 60 + 1 ≤ 70; omega) (by show 0 + 600 + 6 ≤ 700; omega) ?_
      exact ret _ _ _ _ _ dL_act_702 ⟨⟨ea669 30 (by decide), ea669 600 (by decide)⟩, _, (LE_set hE hN (nI p)).1, (LE_set hE hN (nI p)).2, hS669, hF669, hRl677, (st_nf h0).1, (st_nf h0).2⟩
  · exact absurd ((nI_eq (b := 0) (by omega) (by decide)).mp h661) (by omega)
