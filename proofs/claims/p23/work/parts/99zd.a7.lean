/-! THE LAW'S act -/
set_option maxRecDepth 100000 in
theorem l_act (l : Launch) (hl9 : l.stackTraces = false) (Z : Zc) (ad : Nat → Nat) (N : Nat) (s m g : MG) (hN : N + 1 ≤ 2048) (hE : LE N s) (hR : SimR s m) (hF : Fr m 900) (hRl : Rl s g) (hnf : 1 ≤ nfO s) (hnp : 1 ≤ npO s) (x : Int32) : LMw l yL_act cL_act 15 hhA RA Z [.ref (ad 30), .ref (ad 600), .int x] ad m g (fun r ad' m' g' => r = 1 ∧ ActP ad N s ad' m' g') := by
  have hI := hE.1.1
  have hf5 := (IvM_nf hI).1
  have hp6 := (IvM_np hI).1
  refine ent_lw (own := "PosterTypesLaw") (lo := [some (.ref (ad 30)), some (.ref (ad 600)), some (.int x), none, none, none, none, none, none, none, none, none, none, none, none]) (by decide) rfl (by simp [lg_sl, Value.category]) rfl (fun P hl C hW9 hT ret => ?_)
  have hP9 : P.2.1.stackTraces = false := by rw [hl]; exact hl9
  have ret9 : RetA P Z ad N s := fun pc lo' ad' m' g' hd hA => ret pc lo' 1 ad' m' g' hd (Or.inr rfl) ⟨rfl, hA⟩
  refine v_iload_n (C.wl _ _) dL_act_0 rfl rfl ?_
  refine v_iconst (v := 4) (C.wl _ _) dL_act_1 (by decide) ?_
  refine v_ishr (C.wl _ _) dL_act_2 ?_
  refine v_aload_n (C.wl _ _) dL_act_3 rfl rfl ?_
  refine l_get (k := 600) C inG5 (ci := 6) rfl 2 (by decide) (tg5 6 rfl rfl) rfl ⟨by decide, by decide⟩ (cW_6 hR.1.1) (sm_r (by decide) hR.1.2.2.2.1 ⟨by decide, by decide⟩) dL_act_4 ?_
  refine l_len (k := 601) (n := nfO s) C ⟨by decide, by decide⟩ (Or.inl hR.2.1.1.1.1) hR.2.1.1.1.2 (by omega) dL_act_7 ?_
  refine v_callSi (n := 2) (as := [.int (x >>> (4 &&& 31)), .int (nI (nfO s))]) (C.wl _ _) (l_below _ Z ad m (x >>> (4 &&& 31)) (nfO s) ⟨by omega, by omega⟩ g) (gs (tg3 17 rfl rfl) (tg3 18 rfl rfl) (tg1 0 rfl rfl) (tg3 19 rfl rfl)) (by decide +kernel) ⟨Nat.le_of_ble_eq_true rfl, Nat.le_of_ble_eq_true rfl⟩ rfl rfl (Nat.le_of_ble_eq_true rfl) dL_act_8 ⟨(by show 0 + 0 ≤ 70; omega), (by show 0 + 0 ≤ 700; omega)⟩ (fun r8 gg8 hp8 => ?_)
  obtain ⟨hr8, hgg8⟩ := hp8
  rw [hr8, hgg8]
  have bf : bwN (x >>> (4 &&& 31)) (nfO s) < (nfO s) := bwN_lt _ (by omega)
  generalize bwN (x >>> (4 &&& 31)) (nfO s) = f at bf ⊢
  refine v_istore_n (lo' := [some (.ref (ad 30)), some (.ref (ad 600)), some (.int x), some (.int (nI f)), none, none, none, none, none, none, none, none, none, none, none]) (C.wl _ _) dL_act_11 rfl (Nat.le_of_ble_eq_true rfl) rfl rfl ?_
  refine v_iload_n (C.wl _ _) dL_act_12 rfl rfl ?_
  refine v_bipush (v := 6) (C.wl _ _) dL_act_13 (by decide) ?_
  refine v_ishr (C.wl _ _) dL_act_15 ?_
  refine v_iload_n (C.wl _ _) dL_act_16 rfl rfl ?_
  refine v_iconst (v := 3) (C.wl _ _) dL_act_17 (by decide) ?_
  refine v_callSi (n := 2) (as := [.int x, .int (nI 3)]) (C.wl _ _) (l_below _ Z ad m x 3 ⟨by omega, by omega⟩ g) (gs (tg3 17 rfl rfl) (tg3 18 rfl rfl) (tg1 0 rfl rfl) (tg3 19 rfl rfl)) (by decide +kernel) ⟨Nat.le_of_ble_eq_true rfl, Nat.le_of_ble_eq_true rfl⟩ rfl rfl (Nat.le_of_ble_eq_true rfl) dL_act_18 ⟨(by show 0 + 0 ≤ 70; omega), (by show 0 + 0 ≤ 700; omega)⟩ (fun r18 gg18 hp18 => ?_)
  obtain ⟨hr18, hgg18⟩ := hp18
  rw [hr18, hgg18]
  have bb : bwN x 3 < 3 := bwN_lt _ (by omega)
  generalize bwN x 3 = b at bb ⊢
  have J21 : ∀ nn : Nat, (nn = 10 ∨ nn = 4) → V P RA (Z.wl ad m) [some (.ref (ad 30)), some (.ref (ad 600)), some (.int x), some (.int (nI f)), none, none, none, none, none, none, none, none, none, none, none] 30 [.int (nI nn), .int (x >>> (6 &&& 31))] g (0) (0) := by
    intro nn hnn
    refine v_callSi (n := 2) (as := [.int (x >>> (6 &&& 31)), .int (nI nn)]) (C.wl _ _) (l_below _ Z ad m (x >>> (6 &&& 31)) nn ⟨by omega, by omega⟩ g) (gs (tg3 17 rfl rfl) (tg3 18 rfl rfl) (tg1 0 rfl rfl) (tg3 19 rfl rfl)) (by decide +kernel) ⟨Nat.le_of_ble_eq_true rfl, Nat.le_of_ble_eq_true rfl⟩ rfl rfl (Nat.le_of_ble_eq_true rfl) dL_act_30 ⟨(by show 0 + 0 ≤ 70; omega), (by show 0 + 0 ≤ 700; omega)⟩ (fun r30 gg30 hp30 => ?_)
    obtain ⟨hr30, hgg30⟩ := hp30
    rw [hr30, hgg30]
    have bk : bwN (x >>> (6 &&& 31)) nn < nn := bwN_lt _ (by omega)
    generalize bwN (x >>> (6 &&& 31)) nn = k at bk ⊢
    refine v_istore (lo' := [some (.ref (ad 30)), some (.ref (ad 600)), some (.int x), some (.int (nI f)), some (.int (nI k)), none, none, none, none, none, none, none, none, none, none]) (C.wl _ _) dL_act_33 (Nat.le_of_ble_eq_true rfl) rfl rfl ?_
    refine v_aload_n (C.wl _ _) dL_act_35 rfl rfl ?_
    refine l_get (k := 600) C inG5 (ci := 6) rfl 6 (by decide) (tg5 14 rfl rfl) rfl ⟨by decide, by decide⟩ (cW_6 hR.1.1) (sm_r (by decide) hR.1.2.2.2.2.2.2.2 ⟨by decide, by decide⟩) dL_act_36 ?_
    refine l_len (k := 605) (n := npO s) C ⟨by decide, by decide⟩ (Or.inr (Or.inr (Or.inr hR.2.2.2.2.2.1.1.1))) hR.2.2.2.2.2.1.1.2 (by omega) dL_act_39 ?_
    refine v_if_ne (tgt := 47) (C.wl _ _) dL_act_40 (by decide) (fun h40 => ?_) (fun h40 => ?_)
    · refine v_iload_n (C.wl _ _) dL_act_47 rfl rfl ?_
      refine v_iconst (v := 4) (C.wl _ _) dL_act_48 (by decide) ?_
      refine v_ishr (C.wl _ _) dL_act_49 ?_
      refine v_aload_n (C.wl _ _) dL_act_50 rfl rfl ?_
      refine l_get (k := 600) C inG5 (ci := 6) rfl 6 (by decide) (tg5 14 rfl rfl) rfl ⟨by decide, by decide⟩ (cW_6 hR.1.1) (sm_r (by decide) hR.1.2.2.2.2.2.2.2 ⟨by decide, by decide⟩) dL_act_51 ?_
      refine l_len (k := 605) (n := npO s) C ⟨by decide, by decide⟩ (Or.inr (Or.inr (Or.inr hR.2.2.2.2.2.1.1.1))) hR.2.2.2.2.2.1.1.2 (by omega) dL_act_54 ?_
      refine v_callSi (n := 2) (as := [.int (x >>> (4 &&& 31)), .int (nI (npO s))]) (C.wl _ _) (l_below _ Z ad m (x >>> (4 &&& 31)) (npO s) ⟨by omega, by omega⟩ g) (gs (tg3 17 rfl rfl) (tg3 18 rfl rfl) (tg1 0 rfl rfl) (tg3 19 rfl rfl)) (by decide +kernel) ⟨Nat.le_of_ble_eq_true rfl, Nat.le_of_ble_eq_true rfl⟩ rfl rfl (Nat.le_of_ble_eq_true rfl) dL_act_55 ⟨(by show 0 + 0 ≤ 70; omega), (by show 0 + 0 ≤ 700; omega)⟩ (fun r55 gg55 hp55 => ?_)
      obtain ⟨hr55, hgg55⟩ := hp55
      rw [hr55, hgg55]
      have bp : bwN (x >>> (4 &&& 31)) (npO s) < (npO s) := bwN_lt _ (by omega)
      generalize bwN (x >>> (4 &&& 31)) (npO s) = p at bp ⊢
      refine v_istore (lo' := [some (.ref (ad 30)), some (.ref (ad 600)), some (.int x), some (.int (nI f)), some (.int (nI k)), some (.int (nI p)), none, none, none, none, none, none, none, none, none]) (C.wl _ _) dL_act_58 (Nat.le_of_ble_eq_true rfl) rfl rfl ?_
      refine v_aload_n (C.wl _ _) dL_act_60 rfl rfl ?_
      refine l_get (k := 600) C inG5 (ci := 6) rfl 6 (by decide) (tg5 14 rfl rfl) rfl ⟨by decide, by decide⟩ (cW_6 hR.1.1) (sm_r (by decide) hR.1.2.2.2.2.2.2.2 ⟨by decide, by decide⟩) dL_act_61 ?_
      refine l_len (k := 605) (n := npO s) C ⟨by decide, by decide⟩ (Or.inr (Or.inr (Or.inr hR.2.2.2.2.2.1.1.1))) hR.2.2.2.2.2.1.1.2 (by omega) dL_act_64 ?_
      refine v_if_ne (tgt := 78) (C.wl _ _) dL_act_65 (by decide) (fun h65 => ?_) (fun h65 => ?_)
      · refine v_aload_n (C.wl _ _) dL_act_78 rfl rfl ?_
        refine l_get (k := 600) C inG5 (ci := 6) rfl 6 (by decide) (tg5 14 rfl rfl) rfl ⟨by decide, by decide⟩ (cW_6 hR.1.1) (sm_r (by decide) hR.1.2.2.2.2.2.2.2 ⟨by decide, by decide⟩) dL_act_79 ?_
        refine v_iload (C.wl _ _) dL_act_82 rfl ?_
        refine l_aald (k := 605) (n := npO s) (a := p) (k2 := 700 + 20 * p) C ⟨by decide, by decide⟩ (Or.inr (Or.inr hR.2.2.2.2.2.1.1.1)) hR.2.2.2.2.2.1.1.2 ⟨bp, by omega⟩ (hR.2.2.2.2.2.1.2 _ bp) ⟨by omega, by omega⟩ dL_act_84 ?_
        refine v_astore (lo' := [some (.ref (ad 30)), some (.ref (ad 600)), some (.int x), some (.int (nI f)), some (.int (nI k)), some (.int (nI p)), some (.ref (ad (700 + 20 * p))), none, none, none, none, none, none, none, none]) (C.wl _ _) dL_act_85 (Nat.le_of_ble_eq_true rfl) rfl rfl ?_
        refine v_iload_n (C.wl _ _) dL_act_87 rfl rfl ?_
        refine v_bipush (v := 16) (C.wl _ _) dL_act_88 (by decide) ?_
        refine v_callSi (n := 2) (as := [.int x, .int (nI 16)]) (C.wl _ _) (l_below _ Z ad m x 16 ⟨by omega, by omega⟩ g) (gs (tg3 17 rfl rfl) (tg3 18 rfl rfl) (tg1 0 rfl rfl) (tg3 19 rfl rfl)) (by decide +kernel) ⟨Nat.le_of_ble_eq_true rfl, Nat.le_of_ble_eq_true rfl⟩ rfl rfl (Nat.le_of_ble_eq_true rfl) dL_act_90 ⟨(by show 0 + 0 ≤ 70; omega), (by show 0 + 0 ≤ 700; omega)⟩ (fun r90 gg90 hp90 => ?_)
        obtain ⟨hr90, hgg90⟩ := hp90
        rw [hr90, hgg90]
        have bc : bwN x 16 < 16 := bwN_lt _ (by omega)
        generalize bwN x 16 = c at bc ⊢
        obtain rfl | rfl | rfl | rfl | rfl | rfl | rfl | rfl | rfl | rfl | rfl | rfl | rfl | rfl | rfl | rfl := (show c = 0 ∨ c = 1 ∨ c = 2 ∨ c = 3 ∨ c = 4 ∨ c = 5 ∨ c = 6 ∨ c = 7 ∨ c = 8 ∨ c = 9 ∨ c = 10 ∨ c = 11 ∨ c = 12 ∨ c = 13 ∨ c = 14 ∨ c = 15 by omega)
        · refine v_tabIn (off := 75) (tgt := 168) (C.wl _ _) dL_act_93 (by decide) (by decide) rfl (by decide) ?_
          exact act_buy hP9 C hW9 hT hN hE hR hF hRl x f k p bf (by omega) bp ret9
        · refine v_tabIn (off := 176) (tgt := 269) (C.wl _ _) dL_act_93 (by decide) (by decide) rfl (by decide) ?_
          exact act_oth hP9 C hW9 hT hN hE hR hF hRl x f k p bf (by omega) bp ret9
        · refine v_tabIn (off := 176) (tgt := 269) (C.wl _ _) dL_act_93 (by decide) (by decide) rfl (by decide) ?_
          exact act_oth hP9 C hW9 hT hN hE hR hF hRl x f k p bf (by omega) bp ret9
        · refine v_tabIn (off := 235) (tgt := 328) (C.wl _ _) dL_act_93 (by decide) (by decide) rfl (by decide) ?_
          exact act_town hP9 C hW9 hT hN hE hR hF hRl x f k p bf (by omega) bp ret9
        · refine v_tabIn (off := 332) (tgt := 425) (C.wl _ _) dL_act_93 (by decide) (by decide) rfl (by decide) ?_
          exact act_post hP9 C hW9 hT hN hE hR hF hRl x f k p bf (by omega) bp ret9
        · refine v_tabIn (off := 461) (tgt := 554) (C.wl _ _) dL_act_93 (by decide) (by decide) rfl (by decide) ?_
          exact act_line hP9 C hW9 hT hN hE hR hF hRl x f k p bf (by omega) bp ret9
        · refine v_tabIn (off := 461) (tgt := 554) (C.wl _ _) dL_act_93 (by decide) (by decide) rfl (by decide) ?_
          exact act_line hP9 C hW9 hT hN hE hR hF hRl x f k p bf (by omega) bp ret9
        · refine v_tabIn (off := 563) (tgt := 656) (C.wl _ _) dL_act_93 (by decide) (by decide) rfl (by decide) ?_
          exact act_set hP9 C hW9 hT hN hE hR hF hRl x f k p bf (by omega) bp ret9
        · refine v_tabIn (off := 563) (tgt := 656) (C.wl _ _) dL_act_93 (by decide) (by decide) rfl (by decide) ?_
          exact act_set hP9 C hW9 hT hN hE hR hF hRl x f k p bf (by omega) bp ret9
        · refine v_tabIn (off := 563) (tgt := 656) (C.wl _ _) dL_act_93 (by decide) (by decide) rfl (by decide) ?_
          exact act_set hP9 C hW9 hT hN hE hR hF hRl x f k p bf (by omega) bp ret9
        · refine v_tabIn (off := 563) (tgt := 656) (C.wl _ _) dL_act_93 (by decide) (by decide) rfl (by decide) ?_
          exact act_set hP9 C hW9 hT hN hE hR hF hRl x f k p bf (by omega) bp ret9
        · refine v_tabIn (off := 610) (tgt := 703) (C.wl _ _) dL_act_93 (by decide) (by decide) rfl (by decide) ?_
          exact act_print hP9 C hW9 hT hN hE hR hF hRl x f k p bf (by omega) bp ret9
        · refine v_tabIn (off := 610) (tgt := 703) (C.wl _ _) dL_act_93 (by decide) (by decide) rfl (by decide) ?_
          exact act_print hP9 C hW9 hT hN hE hR hF hRl x f k p bf (by omega) bp ret9
        · refine v_tabIn (off := 610) (tgt := 703) (C.wl _ _) dL_act_93 (by decide) (by decide) rfl (by decide) ?_
          exact act_print hP9 C hW9 hT hN hE hR hF hRl x f k p bf (by omega) bp ret9
        · refine v_tabIn (off := 676) (tgt := 769) (C.wl _ _) dL_act_93 (by decide) (by decide) rfl (by decide) ?_
          exact act_strike hP9 C hW9 hT hN hE hR hF hRl x f k p bf (by omega) bp ret9
        · refine v_tabOut (tgt := 800) (C.wl _ _) dL_act_93 (Or.inr (by decide)) (by decide) ?_
          exact act_all hP9 C hW9 hT hN hE hR hF hRl x f k p bf (by omega) bp ret9
      · exact absurd ((nI_eq (b := 0) (by omega) (by decide)).mp h65) (by omega)
    · exact absurd ((nI_eq (b := 0) (by omega) (by decide)).mp h40) (by omega)
  refine v_if_ne (tgt := 29) (C.wl _ _) dL_act_21 (by decide) (fun _ => ?_) (fun _ => ?_)
  · exact v_iconst (v := nI 4) (C.wl _ _) dL_act_29 rfl (J21 4 (Or.inr rfl))
  · refine v_bipush (v := nI 10) (C.wl _ _) dL_act_24 rfl ?_
    exact v_goto (tgt := 30) (C.wl _ _) dL_act_26 (by decide) (J21 10 (Or.inl rfl))
