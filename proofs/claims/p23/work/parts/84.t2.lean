/-! THE LAW'S METHODS that try: a poster -/
/-- what the law's try of a poster answers and leaves -/
def trQ (s m : MG) (p T : Nat) (o : Option (List (Nat × TS) × (Nat → Int32))) (v : Option Nat) (ad' : Nat → Nat) (m' : MG) : Prop := match o with
  | none => v = none ∧ m' = m
  | some a => v = some (ad' T) ∧ TrO s m m' p T (nlO s p) (nfO s) ∧ a.1.length = nlO s p ∧ ∃ ky pt, TrL m' T (nfO s) a.1 (fun i => szw (wdO s (4 * p + i))) ky pt ∧ Fr m' pt ∧ pt ≤ T + 40
set_option maxRecDepth 100000 in
theorem l_tried (l : Launch) (Z : Zc) (ad : Nat → Nat) (s m g : MG) (T p : Nat) (hF : Fr m T) (hT : T + 40 ≤ 1200) (hT8 : 830 ≤ T) (hI : IvM s) (hR : SimR s m) (hp : p < npO s) : LMq l yX5_tried cX5_tried 10 (some (.object "PosterTypesLaw$Poster")) (rmz 3 120 60 600) Z [.ref (ad 600), .int (nI p)] ad m g (fun v ad' m' g' => trQ s m p T (plO s p) v ad' m' ∧ (∀ k, k < T → ad' k = ad k) ∧ g' = g) := by
  have hp6 := (IvM_np hI).1
  have hf5 := (IvM_nf hI).1
  have h4 := (IvM_nl hI (show p < 6 by omega)).2
  obtain ⟨hPF, hPL, hPX⟩ := hR.L hp
  have h01 := hI.2.2.2.2.2.1 p (by omega)
  have h6 := hF.1.1
  have hot := hI.2.2.1
  refine ent_lq (own := RX5) (lo := [some (.ref (ad 600)), some (.int (nI p)), none, none, none, none, none, none, none, none]) (Or.inl ⟨_, rfl⟩) (by decide) rfl (by simp [lg_sl, Value.category]) rfl (fun P hl C hW9 ret => ?_)
  refine v_aload_n (C.wl _ _) dX5_tried_0 rfl rfl ?_
  refine l_get (k := 600) C inG5 (ci := 6) rfl 6 (by decide) (tg5 13 rfl rfl) rfl ⟨by decide, by decide⟩ (cW_6 hR.1.1) (sm_r (by decide) hR.1.2.2.2.2.2.2.2 ⟨by decide, by decide⟩) dX5_tried_1 ?_
  refine v_iload_n (C.wl _ _) dX5_tried_4 rfl rfl ?_
  refine l_aald (k := 605) (n := npO s) (a := p) (k2 := 700 + 20 * p) C ⟨by decide, by decide⟩ (Or.inr (Or.inr hR.2.2.2.2.2.1.1.1)) hR.2.2.2.2.2.1.1.2 ⟨hp, by omega⟩ (hR.2.2.2.2.2.1.2 _ hp) ⟨by omega, by omega⟩ dX5_tried_5 ?_
  obtain ⟨q1, q2, q3, q4, q5, q6, q7, q8, q9⟩ := hPF
  refine l_callVq (n := 0) (as := []) C hW9 (l_copy _ Z ad m g T hF (700 + 20 * p) (701 + 20 * p) (702 + 20 * p) (703 + 20 * p) (704 + 20 * p) (by omega) ⟨by omega, by omega⟩ q1 ⟨q4, by omega, by omega⟩ ⟨q7, by omega, by omega⟩ ⟨q8, by omega, by omega⟩ ⟨q9, by omega, by omega⟩ (by rw [q5]; exact h01)) (gv (tg2 163 rfl rfl) (tg2 164 rfl rfl) (tg2 165 rfl rfl) (tg1 19 rfl rfl) (tg2 166 rfl rfl)) (by decide +kernel) ⟨Nat.le_of_ble_eq_true rfl, Nat.le_of_ble_eq_true rfl⟩ rfl ⟨by omega, by omega⟩ (cW_5 q1) rfl rfl (Nat.le_of_ble_eq_true rfl) dX5_tried_6 ⟨Nat.le_of_ble_eq_true rfl, Nat.le_of_ble_eq_true rfl⟩ (fun v6 ad6 m6 g6 hp6' => ?_)
  obtain ⟨rfl, hA6, hm6, hF6, rfl⟩ := hp6'
  have c0 : ∀ k, k ≠ T → m6 k = m k := fun k hk => by rw [hm6, rwr_ne _ _ _ hk]
  have cT : ∀ j, j < 8 → m6 T j = m (700 + 20 * p) j := fun j hj => by rw [hm6, rwr_same]; exact if_pos hj
  have cK : m6 T 100000 = 5 := by rw [hm6, rwr_same]; rfl
  refine v_st (st' := [.ref (ad6 T)]) rfl ?_
  refine v_lo (lo' := [some (.ref (ad6 600)), some (.int (nI p)), none, none, none, none, none, none, none, none]) (by rw [hA6 600 (by omega)]) ?_
  refine v_astore_n (lo' := [some (.ref (ad6 600)), some (.int (nI p)), some (.ref (ad6 T)), none, none, none, none, none, none, none]) (C.wl _ _) dX5_tried_9 rfl (Nat.le_of_ble_eq_true rfl) rfl rfl ?_
  refine v_aload_n (C.wl _ _) dX5_tried_10 rfl rfl ?_
  refine l_get (k := T) C inG4 (ci := 5) rfl 3 (by decide) (tg2 186 rfl rfl) rfl ⟨by omega, by omega⟩ (cW_5 cK) rfl dX5_tried_11 ?_
  refine v_topi (y := s 15 p) ((cT 3 (by decide)).trans q5) ?_
  refine v_if_ne (tgt := 25) (C.wl _ _) dX5_tried_14 (by decide) (fun h14 => ?_) (fun h14 => ?_)
  · have hno : plO s p = none := by unfold plO plM; rw [if_pos (Or.inl (h01.resolve_left h14))]
    refine l_drop (ad0 := ad6) hF (fun _ _ => rfl) (fun k _ hk => c0 k (by omega)) ?_
    refine v_null (C.wl _ _) dX5_tried_25 ?_
    refine v_wide (k := 60) (n := 600) (Nat.le_of_ble_eq_true rfl) (Nat.le_of_ble_eq_true rfl) ?_
    exact ret _ _ none _ _ _ dX5_tried_26 ⟨by rw [hno]; exact ⟨rfl, rfl⟩, hA6, rfl⟩
  · have h15 : ¬ s 15 p = 1 := by rw [h14]; decide
    refine v_aload_n (C.wl _ _) dX5_tried_17 rfl rfl ?_
    refine l_get (k := T) C inG4 (ci := 5) rfl 2 (by decide) (tg2 183 rfl rfl) rfl ⟨by omega, by omega⟩ (cW_5 cK) (ps_r (by decide) ((cT 2 (by decide)).trans q4) ⟨by omega, by omega⟩) dX5_tried_18 ?_
    refine l_len (k := 701 + 20 * p) (n := nlO s p) C ⟨by omega, by omega⟩ (Or.inr (Or.inl ((congrFun (c0 _ (by omega)) _).trans hPL.1.1))) ((congrFun (c0 _ (by omega)) _).trans hPL.1.2) (by omega) dX5_tried_21 ?_
    refine v_if_ne (tgt := 27) (C.wl _ _) dX5_tried_22 (by decide) (fun h22 => ?_) (fun h22 => ?_)
    · have hnl0 : ¬ nlO s p = 0 := fun z => h22 (by rw [z]; rfl)
      refine v_aload_n (C.wl _ _) dX5_tried_27 rfl rfl ?_
      refine l_get (k := 600) C inG5 (ci := 6) rfl 3 (by decide) (tg5 7 rfl rfl) rfl ⟨by decide, by decide⟩ (cW_6 ((congrFun (c0 _ (by omega)) _).trans hR.1.1)) (sm_r (by decide) ((congrFun (c0 _ (by omega)) _).trans hR.1.2.2.2.2.1) ⟨by decide, by decide⟩) dX5_tried_28 ?_
      refine l_len (k := 602) (n := nfO s) C ⟨by decide, by decide⟩ (Or.inr (Or.inr (Or.inl ((congrFun (c0 _ (by omega)) _).trans hR.2.1.2.1.1.1)))) ((congrFun (c0 _ (by omega)) _).trans hR.2.1.2.1.1.2) (by omega) dX5_tried_31 ?_
      refine v_bipush (v := 10) (C.wl _ _) dX5_tried_32 (by decide) ?_
      refine l_multi2 (T := T + 1) (N := nfO s) (K := 10) C hW9.L hF6 (by omega) (by decide) (tg2 212 rfl rfl) (by show 0 + 5 + (1 + nfO s) ≤ 60; omega) (by show 0 + 20 + (nfO s + nfO s * 10) ≤ 600; omega) dX5_tried_34 (fun ad34 hA34 => ?_)
      have hF34 := Fr_m2M (N := nfO s) (K := 10) hF6 (by omega) (by omega)
      generalize hm34 : m2M m6 (T + 1) (nfO s) 10 = m34 at hF34 ⊢
      have d0 : ∀ k, k < T + 1 → m34 k = m6 k := fun k hk => by rw [← hm34]; unfold m2M mM; rw [rwr_ne _ _ _ (by omega), if_neg (by omega)]
      have d1 : ∀ f, f < nfO s → m34 (T + 1 + f) = rN 1 10 := fun f hf => by rw [← hm34]; unfold m2M mM; rw [rwr_ne _ _ _ (by omega), if_pos (by omega)]
      have d2 : m34 (T + 1 + nfO s) = rO (T + 1) (nfO s) := by rw [← hm34]; unfold m2M; rw [rwr_same]
      have d3 : ∀ f, f < nfO s → rO (T + 1) (nfO s) f = nI (T + 1 + f) := fun f hf => by unfold rO; rw [if_neg (by omega), if_neg (by omega), if_pos hf]
      refine v_lo (lo' := [some (.ref (ad34 600)), some (.int (nI p)), some (.ref (ad34 T)), none, none, none, none, none, none, none]) (by rw [hA34 600 (by omega), hA34 T (by omega)]) ?_
      refine v_astore_n (lo' := [some (.ref (ad34 600)), some (.int (nI p)), some (.ref (ad34 T)), some (.ref (ad34 (T + 1 + nfO s))), none, none, none, none, none, none]) (C.wl _ _) dX5_tried_38 rfl (Nat.le_of_ble_eq_true rfl) rfl rfl ?_
      refine v_iconst (v := 0) (C.wl _ _) dX5_tried_39 (by decide) ?_
      refine v_istore (lo' := [some (.ref (ad34 600)), some (.int (nI p)), some (.ref (ad34 T)), some (.ref (ad34 (T + 1 + nfO s))), some (.int 0), none, none, none, none, none]) (C.wl _ _) dX5_tried_40 (Nat.le_of_ble_eq_true rfl) rfl rfl ?_
      have hE : ∀ (m3 : MG), (∀ q, (q < T + 1 ∨ T + 1 + nfO s ≤ q) → m3 q = m34 q) → (∀ f j, f < nfO s → 10 ≤ j → m3 (T + 1 + f) j = m34 (T + 1 + f) j) → (∀ f d, f < nfO s → d < 10 → m3 (T + 1 + f) d = s 6 (10 * f + d) - s 7 (10 * f + d)) → Fr m3 (T + 1 + nfO s + 1) → ∀ v5 : Option Value, V P (rmz 3 120 60 600) (Z.wl ad34 m3) [some (.ref (ad34 600)), some (.int (nI p)), some (.ref (ad34 T)), some (.ref (ad34 (T + 1 + nfO s))), some (.int (nI (nfO s))), v5, none, none, none, none] 106 [] g6 (0 + 5 + 1 + nfO s) (0 + 20 + nfO s + nfO s * 10) := ?_
      · have loopF : ∀ (n f : Nat) (m3 : MG) (v5 : Option Value), nfO s - f < n → f ≤ nfO s → (∀ q, (q < T + 1 ∨ T + 1 + nfO s ≤ q) → m3 q = m34 q) → (∀ f j, f < nfO s → 10 ≤ j → m3 (T + 1 + f) j = m34 (T + 1 + f) j) → (∀ f' d, f' < f → d < 10 → m3 (T + 1 + f') d = s 6 (10 * f' + d) - s 7 (10 * f' + d)) → Fr m3 (T + 1 + nfO s + 1) → V P (rmz 3 120 60 600) (Z.wl ad34 m3) [some (.ref (ad34 600)), some (.int (nI p)), some (.ref (ad34 T)), some (.ref (ad34 (T + 1 + nfO s))), some (.int (nI f)), v5, none, none, none, none] 42 [] g6 (0 + 5 + 1 + nfO s) (0 + 20 + nfO s + nfO s * 10) := by
          intro n
          induction n with
          | zero => intro f m3 v5 hn; exact absurd hn (Nat.not_lt_zero _)
          | succ n ihF =>
            intro f m3 v5 hn hf w0 w1 w2 hF3
            refine v_iload (C.wl _ _) dX5_tried_42 rfl ?_
            refine v_aload_n (C.wl _ _) dX5_tried_44 rfl rfl ?_
            refine l_get (k := 600) C inG5 (ci := 6) rfl 3 (by decide) (tg5 7 rfl rfl) rfl ⟨by decide, by decide⟩ (cW_6 ((congrFun (w0 _ (Or.inl (by omega))) _).trans ((congrFun (d0 _ (by omega)) _).trans ((congrFun (c0 _ (by omega)) _).trans hR.1.1)))) (sm_r (by decide) ((congrFun (w0 _ (Or.inl (by omega))) _).trans ((congrFun (d0 _ (by omega)) _).trans ((congrFun (c0 _ (by omega)) _).trans hR.1.2.2.2.2.1))) ⟨by decide, by decide⟩) dX5_tried_45 ?_
            refine l_len (k := 602) (n := nfO s) C ⟨by decide, by decide⟩ (Or.inr (Or.inr (Or.inl ((congrFun (w0 _ (Or.inl (by omega))) _).trans ((congrFun (d0 _ (by omega)) _).trans ((congrFun (c0 _ (by omega)) _).trans hR.2.1.2.1.1.1)))))) ((congrFun (w0 _ (Or.inl (by omega))) _).trans ((congrFun (d0 _ (by omega)) _).trans ((congrFun (c0 _ (by omega)) _).trans hR.2.1.2.1.1.2))) (by omega) dX5_tried_48 ?_
            refine v_icmp_ge (tgt := 106) (C.wl _ _) dX5_tried_49 (by decide) (fun h49 => ?_) (fun h49 => ?_)
            · have hkn49 : f = nfO s := Nat.le_antisymm hf ((nI_leI (by omega) (by omega)).mp h49)
              subst hkn49
              exact hE m3 w0 w1 w2 hF3 v5
            · have hkn49 : f < nfO s := Nat.lt_of_not_le fun q => h49 ((nI_leI (by omega) (by omega)).mpr q)
              refine v_iconst (v := 0) (C.wl _ _) dX5_tried_52 (by decide) ?_
              refine v_istore (lo' := [some (.ref (ad34 600)), some (.int (nI p)), some (.ref (ad34 T)), some (.ref (ad34 (T + 1 + nfO s))), some (.int (nI f)), some (.int 0), none, none, none, none]) (C.wl _ _) dX5_tried_53 (Nat.le_of_ble_eq_true rfl) rfl rfl ?_
              have loopK : ∀ (n k : Nat) (m3 : MG), 10 - k < n → k ≤ 10 → (∀ q, (q < T + 1 ∨ T + 1 + nfO s ≤ q) → m3 q = m34 q) → (∀ f j, f < nfO s → 10 ≤ j → m3 (T + 1 + f) j = m34 (T + 1 + f) j) → (∀ f' d, f' < nfO s → d < 10 → (f' < f ∨ (f' = f ∧ d < k)) → m3 (T + 1 + f') d = s 6 (10 * f' + d) - s 7 (10 * f' + d)) → Fr m3 (T + 1 + nfO s + 1) → V P (rmz 3 120 60 600) (Z.wl ad34 m3) [some (.ref (ad34 600)), some (.int (nI p)), some (.ref (ad34 T)), some (.ref (ad34 (T + 1 + nfO s))), some (.int (nI f)), some (.int (nI k)), none, none, none, none] 55 [] g6 (0 + 5 + 1 + nfO s) (0 + 20 + nfO s + nfO s * 10) := by
                intro n2
                induction n2 with
                | zero => intro k m3 hn; exact absurd hn (Nat.not_lt_zero _)
                | succ n2 ihK =>
                  intro k m3 hn2 hk w0 w1 w2 hF3
                  refine v_iload (C.wl _ _) dX5_tried_55 rfl ?_
                  refine v_bipush (v := 10) (C.wl _ _) dX5_tried_57 (by decide) ?_
                  refine v_topi (y := nI 10) rfl ?_
                  refine v_icmp_ge (tgt := 100) (C.wl _ _) dX5_tried_59 (by decide) (fun h59 => ?_) (fun h59 => ?_)
                  · have hkn59 : k = 10 := Nat.le_antisymm hk ((nI_leI (by omega) (by omega)).mp h59)
                    subst hkn59
                    refine v_iinc (lo' := [some (.ref (ad34 600)), some (.int (nI p)), some (.ref (ad34 T)), some (.ref (ad34 (T + 1 + nfO s))), some (.int ((nI f) + 1)), some (.int (nI 10)), none, none, none, none]) (C.wl _ _) dX5_tried_100 rfl rfl rfl rfl ?_
                    refine v_goto (tgt := 42) (C.wl _ _) dX5_tried_103 (by decide) ?_
                    refine v_lo (lo' := [some (.ref (ad34 600)), some (.int (nI p)), some (.ref (ad34 T)), some (.ref (ad34 (T + 1 + nfO s))), some (.int (nI (f + 1))), some (.int (nI 10)), none, none, none, none]) (by rw [nI_succ f]) ?_
                    exact ihF (f + 1) m3 _ (by omega) (by omega) w0 w1 (fun f' d hf' hd => w2 f' d (by omega) hd (by omega)) hF3
                  · have hkn59 : k < 10 := Nat.lt_of_not_le fun q => h59 ((nI_leI (by omega) (by omega)).mpr q)
                    refine v_aload_n (C.wl _ _) dX5_tried_62 rfl rfl ?_
                    refine v_iload (C.wl _ _) dX5_tried_63 rfl ?_
                    refine l_aald (k := T + 1 + nfO s) (n := nfO s) (a := f) (k2 := T + 1 + f) C ⟨by omega, by omega⟩ (Or.inl ((congrFun ((w0 _ (Or.inr (by omega))).trans d2) _).trans rfl)) ((congrFun ((w0 _ (Or.inr (by omega))).trans d2) _).trans rfl) (by omega) ((congrFun ((w0 _ (Or.inr (by omega))).trans d2) _).trans (d3 _ hkn49)) ⟨by omega, by omega⟩ dX5_tried_65 ?_
                    refine v_iload (C.wl _ _) dX5_tried_66 rfl ?_
                    refine v_aload_n (C.wl _ _) dX5_tried_68 rfl rfl ?_
                    refine l_get (k := 600) C inG5 (ci := 6) rfl 3 (by decide) (tg5 7 rfl rfl) rfl ⟨by decide, by decide⟩ (cW_6 ((congrFun (w0 _ (Or.inl (by omega))) _).trans ((congrFun (d0 _ (by omega)) _).trans ((congrFun (c0 _ (by omega)) _).trans hR.1.1)))) (sm_r (by decide) ((congrFun (w0 _ (Or.inl (by omega))) _).trans ((congrFun (d0 _ (by omega)) _).trans ((congrFun (c0 _ (by omega)) _).trans hR.1.2.2.2.2.1))) ⟨by decide, by decide⟩) dX5_tried_69 ?_
                    refine v_iload (C.wl _ _) dX5_tried_72 rfl ?_
                    refine l_aald (k := 602) (n := nfO s) (a := f) (k2 := 610 + f) C ⟨by decide, by decide⟩ (Or.inr (Or.inl ((congrFun (w0 _ (Or.inl (by omega))) _).trans ((congrFun (d0 _ (by omega)) _).trans ((congrFun (c0 _ (by omega)) _).trans hR.2.1.2.1.1.1))))) ((congrFun (w0 _ (Or.inl (by omega))) _).trans ((congrFun (d0 _ (by omega)) _).trans ((congrFun (c0 _ (by omega)) _).trans hR.2.1.2.1.1.2))) (by omega) ((congrFun (w0 _ (Or.inl (by omega))) _).trans ((congrFun (d0 _ (by omega)) _).trans ((congrFun (c0 _ (by omega)) _).trans (hR.2.1.2.1.2 _ hkn49)))) ⟨by omega, by omega⟩ dX5_tried_74 ?_
                    refine v_iload (C.wl _ _) dX5_tried_75 rfl ?_
                    refine l_aald (k := 610 + f) (n := 10) (a := k) (k2 := 620 + (10 * f + k)) C ⟨by omega, by omega⟩ (Or.inl ((congrFun (w0 _ (Or.inl (by omega))) _).trans ((congrFun (d0 _ (by omega)) _).trans ((congrFun (c0 _ (by omega)) _).trans (hR.2.1.2.2 _ hkn49).1.1)))) ((congrFun (w0 _ (Or.inl (by omega))) _).trans ((congrFun (d0 _ (by omega)) _).trans ((congrFun (c0 _ (by omega)) _).trans (hR.2.1.2.2 _ hkn49).1.2))) (by omega) (((congrFun (w0 _ (Or.inl (by omega))) _).trans ((congrFun (d0 _ (by omega)) _).trans ((congrFun (c0 _ (by omega)) _).trans ((hR.2.1.2.2 _ hkn49).2 _ hkn59)))).trans (congrArg nI (Nat.add_assoc _ _ _))) ⟨by omega, by omega⟩ dX5_tried_77 ?_
                    refine v_iconst (v := 0) (C.wl _ _) dX5_tried_78 (by decide) ?_
                    refine l_iald (k := 620 + (10 * f + k)) (n := 3) (a := 0) C ⟨by omega, by omega⟩ ((congrFun (w0 _ (Or.inl (by omega))) _).trans ((congrFun (d0 _ (by omega)) _).trans ((congrFun (c0 _ (by omega)) _).trans ((Nat.add_assoc 620 (10 * f) k) ▸ hR.2.2.1 _ _ hkn49 hkn59).1.1))) ((congrFun (w0 _ (Or.inl (by omega))) _).trans ((congrFun (d0 _ (by omega)) _).trans ((congrFun (c0 _ (by omega)) _).trans ((Nat.add_assoc 620 (10 * f) k) ▸ hR.2.2.1 _ _ hkn49 hkn59).1.2))) (by decide) dX5_tried_79 ?_
                    refine v_topi (y := s 6 (10 * f + k)) ((congrFun (w0 _ (Or.inl (by omega))) _).trans ((congrFun (d0 _ (by omega)) _).trans ((congrFun (c0 _ (by omega)) _).trans ((Nat.add_assoc 620 (10 * f) k) ▸ (hR.2.2.1 _ _ hkn49 hkn59).2.1)))) ?_
                    refine v_aload_n (C.wl _ _) dX5_tried_80 rfl rfl ?_
                    refine l_get (k := 600) C inG5 (ci := 6) rfl 3 (by decide) (tg5 7 rfl rfl) rfl ⟨by decide, by decide⟩ (cW_6 ((congrFun (w0 _ (Or.inl (by omega))) _).trans ((congrFun (d0 _ (by omega)) _).trans ((congrFun (c0 _ (by omega)) _).trans hR.1.1)))) (sm_r (by decide) ((congrFun (w0 _ (Or.inl (by omega))) _).trans ((congrFun (d0 _ (by omega)) _).trans ((congrFun (c0 _ (by omega)) _).trans hR.1.2.2.2.2.1))) ⟨by decide, by decide⟩) dX5_tried_81 ?_
                    refine v_iload (C.wl _ _) dX5_tried_84 rfl ?_
                    refine l_aald (k := 602) (n := nfO s) (a := f) (k2 := 610 + f) C ⟨by decide, by decide⟩ (Or.inr (Or.inl ((congrFun (w0 _ (Or.inl (by omega))) _).trans ((congrFun (d0 _ (by omega)) _).trans ((congrFun (c0 _ (by omega)) _).trans hR.2.1.2.1.1.1))))) ((congrFun (w0 _ (Or.inl (by omega))) _).trans ((congrFun (d0 _ (by omega)) _).trans ((congrFun (c0 _ (by omega)) _).trans hR.2.1.2.1.1.2))) (by omega) ((congrFun (w0 _ (Or.inl (by omega))) _).trans ((congrFun (d0 _ (by omega)) _).trans ((congrFun (c0 _ (by omega)) _).trans (hR.2.1.2.1.2 _ hkn49)))) ⟨by omega, by omega⟩ dX5_tried_86 ?_
                    refine v_iload (C.wl _ _) dX5_tried_87 rfl ?_
                    refine l_aald (k := 610 + f) (n := 10) (a := k) (k2 := 620 + (10 * f + k)) C ⟨by omega, by omega⟩ (Or.inl ((congrFun (w0 _ (Or.inl (by omega))) _).trans ((congrFun (d0 _ (by omega)) _).trans ((congrFun (c0 _ (by omega)) _).trans (hR.2.1.2.2 _ hkn49).1.1)))) ((congrFun (w0 _ (Or.inl (by omega))) _).trans ((congrFun (d0 _ (by omega)) _).trans ((congrFun (c0 _ (by omega)) _).trans (hR.2.1.2.2 _ hkn49).1.2))) (by omega) (((congrFun (w0 _ (Or.inl (by omega))) _).trans ((congrFun (d0 _ (by omega)) _).trans ((congrFun (c0 _ (by omega)) _).trans ((hR.2.1.2.2 _ hkn49).2 _ hkn59)))).trans (congrArg nI (Nat.add_assoc _ _ _))) ⟨by omega, by omega⟩ dX5_tried_89 ?_
                    refine v_iconst (v := 1) (C.wl _ _) dX5_tried_90 (by decide) ?_
                    refine l_iald (k := 620 + (10 * f + k)) (n := 3) (a := 1) C ⟨by omega, by omega⟩ ((congrFun (w0 _ (Or.inl (by omega))) _).trans ((congrFun (d0 _ (by omega)) _).trans ((congrFun (c0 _ (by omega)) _).trans ((Nat.add_assoc 620 (10 * f) k) ▸ hR.2.2.1 _ _ hkn49 hkn59).1.1))) ((congrFun (w0 _ (Or.inl (by omega))) _).trans ((congrFun (d0 _ (by omega)) _).trans ((congrFun (c0 _ (by omega)) _).trans ((Nat.add_assoc 620 (10 * f) k) ▸ hR.2.2.1 _ _ hkn49 hkn59).1.2))) (by decide) dX5_tried_91 ?_
                    refine v_topi (y := s 7 (10 * f + k)) ((congrFun (w0 _ (Or.inl (by omega))) _).trans ((congrFun (d0 _ (by omega)) _).trans ((congrFun (c0 _ (by omega)) _).trans ((Nat.add_assoc 620 (10 * f) k) ▸ (hR.2.2.1 _ _ hkn49 hkn59).2.2.1)))) ?_
                    refine v_isub (C.wl _ _) dX5_tried_92 ?_
                    refine l_iast (k := T + 1 + f) (n := 10) (a := k) C ⟨by omega, by omega⟩ ((w1 _ _ hkn49 (by decide)).trans ((congrFun (d1 _ hkn49) _).trans (rN_k _ _))) ((w1 _ _ hkn49 (by decide)).trans ((congrFun (d1 _ hkn49) _).trans (rN_l _ _))) (by omega) dX5_tried_93 ?_
                    refine v_iinc (lo' := [some (.ref (ad34 600)), some (.int (nI p)), some (.ref (ad34 T)), some (.ref (ad34 (T + 1 + nfO s))), some (.int (nI f)), some (.int ((nI k) + 1)), none, none, none, none]) (C.wl _ _) dX5_tried_94 rfl rfl rfl rfl ?_
                    refine v_goto (tgt := 55) (C.wl _ _) dX5_tried_97 (by decide) ?_
                    refine v_lo (lo' := [some (.ref (ad34 600)), some (.int (nI p)), some (.ref (ad34 T)), some (.ref (ad34 (T + 1 + nfO s))), some (.int (nI f)), some (.int (nI (k + 1))), none, none, none, none]) (by rw [nI_succ k]) ?_
                    exact ihK (k + 1) _ (by omega) (by omega) (fun q hq => by rw [wr_row _ _ _ _ (by omega)]; exact w0 q hq) (fun f' j hf' hj => by rw [wr_ne _ _ _ _ (Or.inr (by omega))]; exact w1 f' j hf' hj) (fun f' d hf' hd hfd => by
                      by_cases hx : f' = f ∧ d = k
                      · rw [hx.1, hx.2, wr_same]
                      · rw [wr_ne _ _ _ _ (by omega)]; exact w2 f' d hf' hd (by omega)) (hF3.wi (by omega) (by omega) ((w1 _ _ hkn49 (by decide)).trans ((congrFun (d1 _ hkn49) _).trans (rN_k _ _))))
              exact loopK _ 0 m3 (Nat.lt_succ_self _) (Nat.zero_le _) w0 w1 (fun f' d hf' hd hfd => w2 f' d (by omega) hd) hF3
        exact loopF _ 0 m34 _ (Nat.lt_succ_self _) (Nat.zero_le _) (fun _ _ => rfl) (fun _ _ _ _ => rfl) (fun f' d hf' => absurd hf' (Nat.not_lt_zero _)) hF34
      intro m3 w0 w1 w2 hF3 v5
      have hF3 : Fr m3 (T + nfO s + 2) := by rw [show T + nfO s + 2 = T + 1 + nfO s + 1 by omega]; exact hF3
      refine v_aload_n (C.wl _ _) dX5_tried_106 rfl rfl ?_
      refine v_aload_n (C.wl _ _) dX5_tried_107 rfl rfl ?_
      refine l_get (k := T) C inG4 (ci := 5) rfl 2 (by decide) (tg2 183 rfl rfl) rfl ⟨by omega, by omega⟩ (cW_5 ((congrFun (w0 _ (by omega)) _).trans ((congrFun (d0 _ (by omega)) _).trans cK))) (ps_r (by decide) ((congrFun (w0 _ (by omega)) _).trans ((congrFun (d0 _ (by omega)) _).trans ((cT 2 (by decide)).trans q4))) ⟨by omega, by omega⟩) dX5_tried_108 ?_
      refine l_len (k := 701 + 20 * p) (n := nlO s p) C ⟨by omega, by omega⟩ (Or.inr (Or.inl ((congrFun (w0 _ (by omega)) _).trans ((congrFun (d0 _ (by omega)) _).trans ((congrFun (c0 _ (by omega)) _).trans hPL.1.1))))) ((congrFun (w0 _ (by omega)) _).trans ((congrFun (d0 _ (by omega)) _).trans ((congrFun (c0 _ (by omega)) _).trans hPL.1.2))) (by omega) dX5_tried_111 ?_
      refine l_newi (T := T + nfO s + 2) (N := (nlO s p)) C hF3 (by omega) (by omega) dX5_tried_112 (by show _ ≤ 60; omega) (by show _ ≤ 600; omega) (fun ad112 hA112 => ?_)
      have hF112 := hF3.new (by omega) (rN_R (kd := 1) (n := (nlO s p)) (by omega) (by decide) (by omega))
      refine v_lo (lo' := [some (.ref (ad112 600)), some (.int (nI p)), some (.ref (ad112 T)), some (.ref (ad112 (T + 1 + nfO s))), some (.int (nI (nfO s))), v5, none, none, none, none]) (by rw [hA112 600 (by omega), hA112 T (by omega), hA112 (T + 1 + nfO s) (by omega)]) ?_
      refine v_st (st' := [.ref (ad112 (T + nfO s + 2)), .ref (ad112 T)]) (by rw [hA112 T (by omega)]) ?_
      refine l_put (k := T) (x := nI (T + nfO s + 2)) C inG4 (ci := 5) rfl tyX4 tyX4_ok nmX4 5 (by decide) (tg2 190 rfl rfl) rfl rfl rfl rfl rfl ⟨by omega, by omega⟩ (cW_5 ((congrFun (rwr_ne _ _ _ (by omega)) _).trans ((congrFun (w0 _ (by omega)) _).trans ((congrFun (d0 _ (by omega)) _).trans cK)))) (Nat.le_of_ble_eq_true rfl) ((cW_5 (show upd (rwr m3 (T + nfO s + 2) (rN 1 (nlO s p)) T) 5 (nI (T + nfO s + 2)) 100000 = 5 from (if_neg (by decide : ¬ (100000 : Nat) = 5)).trans ((congrFun (rwr_ne _ _ _ (by omega)) _).trans ((congrFun (w0 _ (by omega)) _).trans ((congrFun (d0 _ (by omega)) _).trans cK))))).trans (congrArg (fun q => some (Sum.inr (5, q))) (ps_put (by decide) ⟨by omega, by omega⟩))) dX5_tried_114 ?_
      have hF114w := hF112.wn (k := T) (j := 5) (k2 := T + nfO s + 2) (by omega) (by omega) (by omega)
      refine v_aload_n (C.wl _ _) dX5_tried_117 rfl rfl ?_
      refine v_aload_n (C.wl _ _) dX5_tried_118 rfl rfl ?_
      refine l_get (k := T) C inG4 (ci := 5) rfl 2 (by decide) (tg2 183 rfl rfl) rfl ⟨by omega, by omega⟩ (cW_5 ((wr_ne _ _ _ _ (by omega)).trans ((congrFun (rwr_ne _ _ _ (by omega)) _).trans ((congrFun (w0 _ (by omega)) _).trans ((congrFun (d0 _ (by omega)) _).trans cK))))) (ps_r (by decide) ((wr_ne _ _ _ _ (by omega)).trans ((congrFun (rwr_ne _ _ _ (by omega)) _).trans ((congrFun (w0 _ (by omega)) _).trans ((congrFun (d0 _ (by omega)) _).trans ((cT 2 (by decide)).trans q4))))) ⟨by omega, by omega⟩) dX5_tried_119 ?_
      refine l_len (k := 701 + 20 * p) (n := nlO s p) C ⟨by omega, by omega⟩ (Or.inr (Or.inl ((wr_ne _ _ _ _ (by omega)).trans ((congrFun (rwr_ne _ _ _ (by omega)) _).trans ((congrFun (w0 _ (by omega)) _).trans ((congrFun (d0 _ (by omega)) _).trans ((congrFun (c0 _ (by omega)) _).trans hPL.1.1))))))) ((wr_ne _ _ _ _ (by omega)).trans ((congrFun (rwr_ne _ _ _ (by omega)) _).trans ((congrFun (w0 _ (by omega)) _).trans ((congrFun (d0 _ (by omega)) _).trans ((congrFun (c0 _ (by omega)) _).trans hPL.1.2))))) (by omega) dX5_tried_122 ?_
      refine l_newi (T := T + nfO s + 3) (N := (nlO s p)) C hF114w (by omega) (by omega) dX5_tried_123 (by show _ ≤ 60; omega) (by show _ ≤ 600; omega) (fun ad123 hA123 => ?_)
      have hF123 := hF114w.new (by omega) (rN_R (kd := 1) (n := (nlO s p)) (by omega) (by decide) (by omega))
      refine v_lo (lo' := [some (.ref (ad123 600)), some (.int (nI p)), some (.ref (ad123 T)), some (.ref (ad123 (T + 1 + nfO s))), some (.int (nI (nfO s))), v5, none, none, none, none]) (by rw [hA123 600 (by omega), hA123 T (by omega), hA123 (T + 1 + nfO s) (by omega)]) ?_
      refine v_st (st' := [.ref (ad123 (T + nfO s + 3)), .ref (ad123 T)]) (by rw [hA123 T (by omega)]) ?_
      refine l_put (k := T) (x := nI (T + nfO s + 3)) C inG4 (ci := 5) rfl tyX4 tyX4_ok nmX4 6 (by decide) (tg2 192 rfl rfl) rfl rfl rfl rfl rfl ⟨by omega, by omega⟩ (cW_5 ((congrFun (rwr_ne _ _ _ (by omega)) _).trans ((wr_ne _ _ _ _ (by omega)).trans ((congrFun (rwr_ne _ _ _ (by omega)) _).trans ((congrFun (w0 _ (by omega)) _).trans ((congrFun (d0 _ (by omega)) _).trans cK)))))) (Nat.le_of_ble_eq_true rfl) ((cW_5 (show upd (rwr (wr (rwr m3 (T + nfO s + 2) (rN 1 (nlO s p))) T 5 (nI (T + nfO s + 2))) (T + nfO s + 3) (rN 1 (nlO s p)) T) 6 (nI (T + nfO s + 3)) 100000 = 5 from (if_neg (by decide : ¬ (100000 : Nat) = 6)).trans ((congrFun (rwr_ne _ _ _ (by omega)) _).trans ((wr_ne _ _ _ _ (by omega)).trans ((congrFun (rwr_ne _ _ _ (by omega)) _).trans ((congrFun (w0 _ (by omega)) _).trans ((congrFun (d0 _ (by omega)) _).trans cK))))))).trans (congrArg (fun q => some (Sum.inr (5, q))) (ps_put (by decide) ⟨by omega, by omega⟩))) dX5_tried_125 ?_
      have hF125w := hF123.wn (k := T) (j := 6) (k2 := T + nfO s + 3) (by omega) (by omega) (by omega)
      refine v_aload_n (C.wl _ _) dX5_tried_128 rfl rfl ?_
      refine v_aload_n (C.wl _ _) dX5_tried_129 rfl rfl ?_
      refine l_get (k := T) C inG4 (ci := 5) rfl 2 (by decide) (tg2 183 rfl rfl) rfl ⟨by omega, by omega⟩ (cW_5 ((wr_ne _ _ _ _ (by omega)).trans ((congrFun (rwr_ne _ _ _ (by omega)) _).trans ((wr_ne _ _ _ _ (by omega)).trans ((congrFun (rwr_ne _ _ _ (by omega)) _).trans ((congrFun (w0 _ (by omega)) _).trans ((congrFun (d0 _ (by omega)) _).trans cK))))))) (ps_r (by decide) ((wr_ne _ _ _ _ (by omega)).trans ((congrFun (rwr_ne _ _ _ (by omega)) _).trans ((wr_ne _ _ _ _ (by omega)).trans ((congrFun (rwr_ne _ _ _ (by omega)) _).trans ((congrFun (w0 _ (by omega)) _).trans ((congrFun (d0 _ (by omega)) _).trans ((cT 2 (by decide)).trans q4))))))) ⟨by omega, by omega⟩) dX5_tried_130 ?_
      refine l_len (k := 701 + 20 * p) (n := nlO s p) C ⟨by omega, by omega⟩ (Or.inr (Or.inl ((wr_ne _ _ _ _ (by omega)).trans ((congrFun (rwr_ne _ _ _ (by omega)) _).trans ((wr_ne _ _ _ _ (by omega)).trans ((congrFun (rwr_ne _ _ _ (by omega)) _).trans ((congrFun (w0 _ (by omega)) _).trans ((congrFun (d0 _ (by omega)) _).trans ((congrFun (c0 _ (by omega)) _).trans hPL.1.1))))))))) ((wr_ne _ _ _ _ (by omega)).trans ((congrFun (rwr_ne _ _ _ (by omega)) _).trans ((wr_ne _ _ _ _ (by omega)).trans ((congrFun (rwr_ne _ _ _ (by omega)) _).trans ((congrFun (w0 _ (by omega)) _).trans ((congrFun (d0 _ (by omega)) _).trans ((congrFun (c0 _ (by omega)) _).trans hPL.1.2))))))) (by omega) dX5_tried_133 ?_
      refine l_newA (T := T + nfO s + 4) (N := (nlO s p)) C hW9.L hF125w (by omega) (by omega) (tg2 213 rfl rfl) dX5_tried_134 (by show _ ≤ 60; omega) (by show _ ≤ 600; omega) (fun ad134 hA134 => ?_)
      have hF134 := hF125w.new (by omega) (rN_R (kd := 2) (n := (nlO s p)) (by omega) (by decide) (by omega))
      refine v_lo (lo' := [some (.ref (ad134 600)), some (.int (nI p)), some (.ref (ad134 T)), some (.ref (ad134 (T + 1 + nfO s))), some (.int (nI (nfO s))), v5, none, none, none, none]) (by rw [hA134 600 (by omega), hA134 T (by omega), hA134 (T + 1 + nfO s) (by omega)]) ?_
      refine v_st (st' := [.ref (ad134 (T + nfO s + 4)), .ref (ad134 T)]) (by rw [hA134 T (by omega)]) ?_
      refine l_put (k := T) (x := nI (T + nfO s + 4)) C inG4 (ci := 5) rfl tyX4 tyX4_ok nmX4 7 (by decide) (tg2 194 rfl rfl) rfl rfl rfl rfl rfl ⟨by omega, by omega⟩ (cW_5 ((congrFun (rwr_ne _ _ _ (by omega)) _).trans ((wr_ne _ _ _ _ (by omega)).trans ((congrFun (rwr_ne _ _ _ (by omega)) _).trans ((wr_ne _ _ _ _ (by omega)).trans ((congrFun (rwr_ne _ _ _ (by omega)) _).trans ((congrFun (w0 _ (by omega)) _).trans ((congrFun (d0 _ (by omega)) _).trans cK)))))))) (Nat.le_of_ble_eq_true rfl) ((cW_5 (show upd (rwr (wr (rwr (wr (rwr m3 (T + nfO s + 2) (rN 1 (nlO s p))) T 5 (nI (T + nfO s + 2))) (T + nfO s + 3) (rN 1 (nlO s p))) T 6 (nI (T + nfO s + 3))) (T + nfO s + 4) (rN 2 (nlO s p)) T) 7 (nI (T + nfO s + 4)) 100000 = 5 from (if_neg (by decide : ¬ (100000 : Nat) = 7)).trans ((congrFun (rwr_ne _ _ _ (by omega)) _).trans ((wr_ne _ _ _ _ (by omega)).trans ((congrFun (rwr_ne _ _ _ (by omega)) _).trans ((wr_ne _ _ _ _ (by omega)).trans ((congrFun (rwr_ne _ _ _ (by omega)) _).trans ((congrFun (w0 _ (by omega)) _).trans ((congrFun (d0 _ (by omega)) _).trans cK))))))))).trans (congrArg (fun q => some (Sum.inr (5, q))) (ps_put (by decide) ⟨by omega, by omega⟩))) dX5_tried_137 ?_
      have hF137w := hF134.wn (k := T) (j := 7) (k2 := T + nfO s + 4) (by omega) (by omega) (by omega)
      refine v_aload_n (C.wl _ _) dX5_tried_140 rfl rfl ?_
      refine v_iconst (v := 1) (C.wl _ _) dX5_tried_141 (by decide) ?_
      refine l_put (k := T) (x := 1) C inG4 (ci := 5) rfl tyX4 tyX4_ok nmX4 3 (by decide) (tg2 186 rfl rfl) rfl rfl rfl rfl rfl ⟨by omega, by omega⟩ (cW_5 ((wr_ne _ _ _ _ (by omega)).trans ((congrFun (rwr_ne _ _ _ (by omega)) _).trans ((wr_ne _ _ _ _ (by omega)).trans ((congrFun (rwr_ne _ _ _ (by omega)) _).trans ((wr_ne _ _ _ _ (by omega)).trans ((congrFun (rwr_ne _ _ _ (by omega)) _).trans ((congrFun (w0 _ (by omega)) _).trans ((congrFun (d0 _ (by omega)) _).trans cK))))))))) (Nat.le_of_ble_eq_true rfl) ((cW_5 (show upd (wr (rwr (wr (rwr (wr (rwr m3 (T + nfO s + 2) (rN 1 (nlO s p))) T 5 (nI (T + nfO s + 2))) (T + nfO s + 3) (rN 1 (nlO s p))) T 6 (nI (T + nfO s + 3))) (T + nfO s + 4) (rN 2 (nlO s p))) T 7 (nI (T + nfO s + 4)) T) 3 (1) 100000 = 5 from (if_neg (by decide : ¬ (100000 : Nat) = 3)).trans ((wr_ne _ _ _ _ (by omega)).trans ((congrFun (rwr_ne _ _ _ (by omega)) _).trans ((wr_ne _ _ _ _ (by omega)).trans ((congrFun (rwr_ne _ _ _ (by omega)) _).trans ((wr_ne _ _ _ _ (by omega)).trans ((congrFun (rwr_ne _ _ _ (by omega)) _).trans ((congrFun (w0 _ (by omega)) _).trans ((congrFun (d0 _ (by omega)) _).trans cK)))))))))).trans rfl) dX5_tried_142 ?_
      have hF142w := hF137w.put (k := T) (j := 3) (x := 1) (by omega) (by omega) (fun z => by rw [((wr_ne _ _ _ _ (by omega)).trans ((congrFun (rwr_ne _ _ _ (by omega)) _).trans ((wr_ne _ _ _ _ (by omega)).trans ((congrFun (rwr_ne _ _ _ (by omega)) _).trans ((wr_ne _ _ _ _ (by omega)).trans ((congrFun (rwr_ne _ _ _ (by omega)) _).trans ((congrFun (w0 _ (by omega)) _).trans ((congrFun (d0 _ (by omega)) _).trans cK))))))))] at z; exact absurd z (by decide))
      refine v_iconst (v := 0) (C.wl _ _) dX5_tried_145 (by decide) ?_
      refine v_istore (lo' := [some (.ref (ad134 600)), some (.int (nI p)), some (.ref (ad134 T)), some (.ref (ad134 (T + 1 + nfO s))), some (.int 0), v5, none, none, none, none]) (C.wl _ _) dX5_tried_146 (Nat.le_of_ble_eq_true rfl) rfl rfl ?_
      have hAA : ∀ k, k < T → ad134 k = ad k := fun k hk => by rw [hA134 k (by omega), hA123 k (by omega), hA112 k (by omega), hA34 k (by omega), hA6 k hk]
      generalize hm9 : wr (wr (rwr (wr (rwr (wr (rwr m3 (T + nfO s + 2) (rN 1 (nlO s p))) T 5 (nI (T + nfO s + 2))) (T + nfO s + 3) (rN 1 (nlO s p))) T 6 (nI (T + nfO s + 3))) (T + nfO s + 4) (rN 2 (nlO s p))) T 7 (nI (T + nfO s + 4))) T 3 1 = m9 at hF142w ⊢
      have y1 : ∀ k, k ≠ T → k ≠ T + nfO s + 2 → k ≠ T + nfO s + 3 → k ≠ T + nfO s + 4 → m9 k = m3 k := fun k a b c d => by rw [← hm9, wr_row _ _ _ _ a, wr_row _ _ _ _ a, rwr_ne _ _ _ d, wr_row _ _ _ _ a, rwr_ne _ _ _ c, wr_row _ _ _ _ a, rwr_ne _ _ _ b]
      have y2 : m9 (T + nfO s + 2) = rN 1 (nlO s p) := by rw [← hm9, wr_row _ _ _ _ (by omega), wr_row _ _ _ _ (by omega), rwr_ne _ _ _ (by omega), wr_row _ _ _ _ (by omega), rwr_ne _ _ _ (by omega), wr_row _ _ _ _ (by omega), rwr_same]
      have y3 : m9 (T + nfO s + 3) = rN 1 (nlO s p) := by rw [← hm9, wr_row _ _ _ _ (by omega), wr_row _ _ _ _ (by omega), rwr_ne _ _ _ (by omega), wr_row _ _ _ _ (by omega), rwr_same]
      have y4 : m9 (T + nfO s + 4) = rN 2 (nlO s p) := by rw [← hm9, wr_row _ _ _ _ (by omega), wr_row _ _ _ _ (by omega), rwr_same]
      have y5 : ∀ j, j ≠ 3 → j ≠ 5 → j ≠ 6 → j ≠ 7 → m9 T j = m6 T j := fun j j3 j5 j6 j7 => by rw [← hm9, wr_ne _ _ _ _ (Or.inr j3), wr_ne _ _ _ _ (Or.inr j7), rwr_ne _ _ _ (by omega), wr_ne _ _ _ _ (Or.inr j6), rwr_ne _ _ _ (by omega), wr_ne _ _ _ _ (Or.inr j5), rwr_ne _ _ _ (by omega), w0 T (by omega), d0 T (by omega)]
      have y53 : m9 T 3 = 1 := by rw [← hm9, wr_same]
      have y57 : m9 T 7 = nI (T + nfO s + 4) := by rw [← hm9, wr_ne _ _ _ _ (Or.inr (by decide)), wr_same]
      have y56 : m9 T 6 = nI (T + nfO s + 3) := by rw [← hm9, wr_ne _ _ _ _ (Or.inr (by decide)), wr_ne _ _ _ _ (Or.inr (by decide)), rwr_ne _ _ _ (by omega), wr_same]
      have y55 : m9 T 5 = nI (T + nfO s + 2) := by rw [← hm9, wr_ne _ _ _ _ (Or.inr (by decide)), wr_ne _ _ _ _ (Or.inr (by decide)), rwr_ne _ _ _ (by omega), wr_ne _ _ _ _ (Or.inr (by decide)), rwr_ne _ _ _ (by omega), wr_same]
      have hO9 : TrO s m m9 p T (nlO s p) (nfO s) := by
        refine ⟨fun k k1 k2 => by rw [y1 k (by omega) (by omega) (by omega) (by omega), w0 k (by omega), d0 k (by omega), c0 k (by omega)], ⟨(y5 _ (by decide) (by decide) (by decide) (by decide)).trans cK, (y5 0 (by decide) (by decide) (by decide) (by decide)).trans ((cT 0 (by decide)).trans q2), (y5 1 (by decide) (by decide) (by decide) (by decide)).trans ((cT 1 (by decide)).trans q3), (y5 2 (by decide) (by decide) (by decide) (by decide)).trans ((cT 2 (by decide)).trans q4), y53, (y5 4 (by decide) (by decide) (by decide) (by decide)).trans ((cT 4 (by decide)).trans q6), y55, y56, y57⟩, ⟨by rw [y2]; rfl, by rw [y2]; rfl⟩, ⟨by rw [y3]; rfl, by rw [y3]; rfl⟩, ⟨by rw [y4]; rfl, by rw [y4]; rfl⟩, ⟨⟨?_, ?_⟩, fun f hf => ?_⟩, fun f hf => ⟨?_, ?_⟩⟩
        · rw [y1 _ (by omega) (by omega) (by omega) (by omega), w0 _ (by omega), d2]; rfl
        · rw [y1 _ (by omega) (by omega) (by omega) (by omega), w0 _ (by omega), d2]; rfl
        · rw [y1 _ (by omega) (by omega) (by omega) (by omega), w0 _ (by omega), d2]; exact d3 f hf
        · rw [y1 _ (by omega) (by omega) (by omega) (by omega), w1 f _ hf (by decide), d1 f hf]; rfl
        · rw [y1 _ (by omega) (by omega) (by omega) (by omega), w1 f _ hf (by decide), d1 f hf]; rfl
      have hTF9 : TrF s m9 (moZ s) T (nfO s) := fun f d hf hd => by
        rw [y1 _ (by omega) (by omega) (by omega) (by omega), w2 f d hf hd]
        unfold FrV moZ
        rw [if_pos (by omega), Int32.sub_zero]
      have hpl9 : plO s p = plA (okA (s 6) (s 7)) (s 9) (s 5) (s 13 p) (nfO s) (wds (wdO s) p 0 (nlO s p)) [] (moZ s) := by
        unfold plO plM
        rw [if_neg (by rintro (z | z); (· exact h15 z); (· exact hnl0 z))]
      have hF9 : Fr m9 (T + nfO s + 5) := hF142w
      clear hm9
      have loopI : ∀ (n i : Nat) (ad1 : Nat → Nat) (m1 : MG) (acc : List (Nat × TS)) (mo : Nat → Int32) (ky : Nat → Nat) (pt : Nat) (v5 v6 v7 v8 v9 : Option Value), nlO s p - i < n → i ≤ nlO s p → acc.length = i → plO s p = plA (okA (s 6) (s 7)) (s 9) (s 5) (s 13 p) (nfO s) (wds (wdO s) p i (nlO s p)) acc mo → (∀ k, k < T → ad1 k = ad k) → TrO s m m1 p T (nlO s p) (nfO s) → TrF s m1 mo T (nfO s) → TrL m1 T (nfO s) acc (fun i => szw (wdO s (4 * p + i))) ky pt → Fr m1 pt → (T + nfO s + 5 ≤ pt ∧ pt ≤ T + nfO s + 5 + 5 * i) → V P (rmz 3 120 60 600) (Z.wl ad1 m1) [some (.ref (ad1 600)), some (.int (nI p)), some (.ref (ad1 T)), some (.ref (ad1 (T + 1 + nfO s))), some (.int (nI i)), v5, v6, v7, v8, v9] 148 [] g6 (20 + 10 * i) (100 + 100 * i) := by
        intro n
        induction n with
        | zero => intro i ad1 m1 acc mo ky pt v5 v6 v7 v8 v9 hn; exact absurd hn (Nat.not_lt_zero _)
        | succ n ihI =>
          intro i ad1 m1 acc mo ky pt v5 v6 v7 v8 v9 hn hi hl hpl hA1 hO hTF hTL hFr hpt
          refine v_iload (C.wl _ _) dX5_tried_148 rfl ?_
          refine v_aload_n (C.wl _ _) dX5_tried_150 rfl rfl ?_
          refine l_get (k := T) C inG4 (ci := 5) rfl 2 (by decide) (tg2 183 rfl rfl) rfl ⟨by omega, by omega⟩ (cW_5 hO.2.1.1) (ps_r (by decide) hO.2.1.2.2.2.1 ⟨by omega, by omega⟩) dX5_tried_151 ?_
          refine l_len (k := 701 + 20 * p) (n := nlO s p) C ⟨by omega, by omega⟩ (Or.inr (Or.inl ((congrFun (hO.1 _ (by omega) (by omega)) _).trans hPL.1.1))) ((congrFun (hO.1 _ (by omega) (by omega)) _).trans hPL.1.2) (by omega) dX5_tried_154 ?_
          refine v_icmp_ge (tgt := 378) (C.wl _ _) dX5_tried_155 (by decide) (fun h155 => ?_) (fun h155 => ?_)
          · have hkn155 : i = nlO s p := Nat.le_antisymm hi ((nI_leI (by omega) (by omega)).mp h155)
            rw [wds_nil _ _ (by omega)] at hpl
            have hpl : plO s p = some (acc, mo) := hpl
            refine v_aload_n (C.wl _ _) dX5_tried_378 rfl rfl ?_
            refine v_wide (k := 60) (n := 600) (by show 20 + 10 * i ≤ 60; omega) (by show 100 + 100 * i ≤ 600; omega) ?_
            exact ret _ _ (some (ad1 T)) _ _ _ dX5_tried_379 ⟨by rw [hpl]; exact ⟨rfl, hO, by show acc.length = _; omega, ky, pt, hTL, hFr, by omega⟩, hA1, rfl⟩
          · have hkn155 : i < nlO s p := Nat.lt_of_not_le fun q => h155 ((nI_leI (by omega) (by omega)).mpr q)
            have hw8 : wdO s (4 * p + i) ≤ 99999999 := IvM_w8 hI (by omega)
            have hsz8 := szw_8 hw8
            generalize hw : wdO s (4 * p + i) = w at hw8 hsz8
            have hwc : wds (wdO s) p i (nlO s p) = w :: wds (wdO s) p (i + 1) (nlO s p) := by rw [wds_cons _ _ hkn155, hw]
            rw [hwc] at hpl
            have hLn := (hPL.2 i hkn155).2; rw [hw] at hLn
            refine v_iconst (v := (-1)) (C.wl _ _) dX5_tried_158 (by decide) ?_
            refine v_istore (lo' := [some (.ref (ad1 600)), some (.int (nI p)), some (.ref (ad1 T)), some (.ref (ad1 (T + 1 + nfO s))), some (.int (nI i)), some (.int (-1)), v6, v7, v8, v9]) (C.wl _ _) dX5_tried_159 (Nat.le_of_ble_eq_true rfl) rfl rfl ?_
            refine v_aload_n (C.wl _ _) dX5_tried_161 rfl rfl ?_
            refine l_get (k := 600) C inG5 (ci := 6) rfl 3 (by decide) (tg5 7 rfl rfl) rfl ⟨by decide, by decide⟩ (cW_6 ((congrFun (hO.1 _ (by omega) (by omega)) _).trans hR.1.1)) (sm_r (by decide) ((congrFun (hO.1 _ (by omega) (by omega)) _).trans hR.1.2.2.2.2.1) ⟨by decide, by decide⟩) dX5_tried_162 ?_
            refine l_len (k := 602) (n := nfO s) C ⟨by decide, by decide⟩ (Or.inr (Or.inr (Or.inl ((congrFun (hO.1 _ (by omega) (by omega)) _).trans hR.2.1.2.1.1.1)))) ((congrFun (hO.1 _ (by omega) (by omega)) _).trans hR.2.1.2.1.1.2) (by omega) dX5_tried_165 ?_
            refine v_iconst (v := 1) (C.wl _ _) dX5_tried_166 (by decide) ?_
            refine v_isub (C.wl _ _) dX5_tried_167 ?_
            refine v_topi (y := nI (nfO s) + (-1)) (Int32.sub_eq_add_neg _ _) ?_
            refine v_istore (lo' := [some (.ref (ad1 600)), some (.int (nI p)), some (.ref (ad1 T)), some (.ref (ad1 (T + 1 + nfO s))), some (.int (nI i)), some (.int (-1)), some (.int (nI (nfO s) + (-1))), v7, v8, v9]) (C.wl _ _) dX5_tried_168 (Nat.le_of_ble_eq_true rfl) rfl rfl ?_
            have loopF : ∀ (n F : Nat) (ad2 : Nat → Nat) (m2 : MG) (b : Int32) (kb pt2 : Nat) (v7 v8 v9 : Option Value), F < n → F ≤ nfO s → (∀ k, k < T → ad2 k = ad k) → TrO s m m2 p T (nlO s p) (nfO s) → TrF s m2 mo T (nfO s) → TrL m2 T (nfO s) acc (fun i => szw (wdO s (4 * p + i))) ky pt → TrB s m2 mo T (nfO s) i w b kb pt pt2 → BsQ (fun x => F ≤ x ∧ x < nfO s) (fvF (okA (s 6) (s 7)) (s 9) mo w) (s 5) (s 13 p) (m2 (T + nfO s + 3) i, b) → Fr m2 pt2 → (pt ≤ pt2 ∧ pt2 + F ≤ pt + nfO s) → V P (rmz 3 120 60 600) (Z.wl ad2 m2) [some (.ref (ad2 600)), some (.int (nI p)), some (.ref (ad2 T)), some (.ref (ad2 (T + 1 + nfO s))), some (.int (nI i)), some (.int b), some (.int (nI F + (-1))), v7, v8, v9] 170 [] g6 (20 + 10 * i + 2 * (nfO s - F)) (100 + 100 * i + 20 * (nfO s - F)) := by
              intro n
              induction n with
              | zero => intro F ad2 m2 b kb pt2 v7 v8 v9 hn; exact absurd hn (Nat.not_lt_zero _)
              | succ n ihF =>
                intro F ad2 m2 b kb pt2 v7 v8 v9 hnF hFl hA2 hO hTF hTL hTB hBs hFr hpt2
                refine v_iload (C.wl _ _) dX5_tried_170 rfl ?_
                refine v_if_lt (tgt := 308) (C.wl _ _) dX5_tried_172 (by decide) (fun h172 => ?_) (fun h172 => ?_)
                · have hF0 : F = 0 := by
                    refine Nat.eq_zero_of_not_pos fun z => ?_
                    rw [nI_dec z] at h172
                    exact nI_pos (by omega) h172
                  subst hF0
                  have hbo := bo_is hf5 (hBs.set (fun x => by omega))
                  rcases hTB with hb | ⟨b', sB, aB, hb, hbl, htl, hfl', htk, hkb, hwB, haB, hLB⟩
                  · subst hb
                    refine v_iload (C.wl _ _) dX5_tried_308 rfl ?_
                    refine v_if_ge (tgt := 315) (C.wl _ _) dX5_tried_310 (by decide) (fun h310 => ?_) (fun h310 => ?_)
                    · exact absurd h310 (by decide)
                    · have hno : plO s p = none := by
                        have e1 : pl1 (okA (s 6) (s 7)) (s 9) (s 5) (s 13 p) (nfO s) mo w = none := by unfold pl1; exact if_pos hbo
                        rw [hpl, plA, e1]; rfl
                      refine l_drop (ad0 := ad2) hF (fun _ _ => rfl) (fun k k1 hk => hO.1 k k1 hk) ?_
                      refine v_null (C.wl _ _) dX5_tried_313 ?_
                      refine v_wide (k := 60) (n := 600) (by show 20 + 10 * i + 2 * (nfO s - 0) ≤ 60; omega) (by show 100 + 100 * i + 20 * (nfO s - 0) ≤ 600; omega) ?_
                      exact ret _ _ none _ _ _ dX5_tried_314 ⟨by rw [hno]; exact ⟨rfl, rfl⟩, hA2, rfl⟩
                  · subst hb
                    refine v_iload (C.wl _ _) dX5_tried_308 rfl ?_
                    refine v_if_ge (tgt := 315) (C.wl _ _) dX5_tried_310 (by decide) (fun h310 => ?_) (fun h310 => ?_)
                    · refine v_aload_n (C.wl _ _) dX5_tried_315 rfl rfl ?_
                      refine l_get (k := T) C inG4 (ci := 5) rfl 5 (by decide) (tg2 190 rfl rfl) rfl ⟨by omega, by omega⟩ (cW_5 hO.2.1.1) (ps_r (by decide) hO.2.1.2.2.2.2.2.2.1 ⟨by omega, by omega⟩) dX5_tried_316 ?_
                      refine v_iload (C.wl _ _) dX5_tried_319 rfl ?_
                      refine v_iload (C.wl _ _) dX5_tried_321 rfl ?_
                      refine l_iast (k := T + nfO s + 2) (n := nlO s p) (a := i) C ⟨by omega, by omega⟩ hO.2.2.1.1 hO.2.2.1.2 (by omega) dX5_tried_323 ?_
                      generalize hm5 : wr m2 (T + nfO s + 2) i (nI b') = m5
                      have z1 : ∀ k, k ≠ T + nfO s + 2 → m5 k = m2 k := fun k a => by rw [← hm5, wr_row _ _ _ _ a]
                      have z2 : ∀ j, j ≠ i → m5 (T + nfO s + 2) j = m2 (T + nfO s + 2) j := fun j hj => by rw [← hm5, wr_ne _ _ _ _ (Or.inr hj)]
                      have z2i : m5 (T + nfO s + 2) i = nI b' := by rw [← hm5, wr_same]
                      have hF5 : Fr m5 pt2 := by rw [← hm5]; exact hFr.wi (by omega) (by omega) hO.2.2.1.1
                      have hO5 : TrO s m m5 p T (nlO s p) (nfO s) := hO.c (fun k k1 k2 => ⟨fun j hk hj => by by_cases hx : k = T + nfO s + 2; (· rw [hx]; exact z2 j (by omega)); (· exact congrFun (z1 k hx) j), fun hk => z1 k (by omega)⟩) (by omega)
                      refine v_aload_n (C.wl _ _) dX5_tried_324 rfl rfl ?_
                      refine l_get (k := T) C inG4 (ci := 5) rfl 7 (by decide) (tg2 194 rfl rfl) rfl ⟨by omega, by omega⟩ (cW_5 hO5.2.1.1) (ps_r (by decide) hO5.2.1.2.2.2.2.2.2.2.2 ⟨by omega, by omega⟩) dX5_tried_325 ?_
                      refine v_iload (C.wl _ _) dX5_tried_328 rfl ?_
                      refine l_aald (k := T + nfO s + 4) (n := nlO s p) (a := i) (k2 := kb) C ⟨by omega, by omega⟩ (Or.inl hO5.2.2.2.2.1.1) hO5.2.2.2.2.1.2 (by omega) ((congrFun (z1 _ (by omega)) _).trans htk) ⟨by omega, by omega⟩ dX5_tried_330 ?_
                      refine v_astore (lo' := [some (.ref (ad2 600)), some (.int (nI p)), some (.ref (ad2 T)), some (.ref (ad2 (T + 1 + nfO s))), some (.int (nI i)), some (.int (nI b')), some (.ref (ad2 kb)), v7, v8, v9]) (C.wl _ _) dX5_tried_331 (Nat.le_of_ble_eq_true rfl) rfl rfl ?_
                      refine v_aload (C.wl _ _) dX5_tried_333 rfl ?_
                      refine l_len (k := kb) (n := szw w) C ⟨by omega, by omega⟩ (Or.inl ((congrFun (z1 _ (by omega)) _).trans hLB.1.1)) ((congrFun (z1 _ (by omega)) _).trans hLB.1.2) (by omega) dX5_tried_335 ?_
                      refine v_istore (lo' := [some (.ref (ad2 600)), some (.int (nI p)), some (.ref (ad2 T)), some (.ref (ad2 (T + 1 + nfO s))), some (.int (nI i)), some (.int (nI b')), some (.ref (ad2 kb)), some (.int (nI (szw w))), v8, v9]) (C.wl _ _) dX5_tried_336 (Nat.le_of_ble_eq_true rfl) rfl rfl ?_
                      refine v_iconst (v := 0) (C.wl _ _) dX5_tried_338 (by decide) ?_
                      refine v_istore (lo' := [some (.ref (ad2 600)), some (.int (nI p)), some (.ref (ad2 T)), some (.ref (ad2 (T + 1 + nfO s))), some (.int (nI i)), some (.int (nI b')), some (.ref (ad2 kb)), some (.int (nI (szw w))), some (.int 0), v9]) (C.wl _ _) dX5_tried_339 (Nat.le_of_ble_eq_true rfl) rfl rfl ?_
                      have loopJ : ∀ (n j : Nat) (m3 : MG) (v9 : Option Value), szw w - j < n → j ≤ szw w → (∀ k, k ≠ T + 1 + b' → m3 k = m5 k) → (∀ x, 10 ≤ x → m3 (T + 1 + b') x = m5 (T + 1 + b') x) → (∀ d, d < 10 → m3 (T + 1 + b') d = addL (-1) 0 (szw w) aB (FrV s mo b') j d) → Fr m3 pt2 → V P (rmz 3 120 60 600) (Z.wl ad2 m3) [some (.ref (ad2 600)), some (.int (nI p)), some (.ref (ad2 T)), some (.ref (ad2 (T + 1 + nfO s))), some (.int (nI i)), some (.int (nI b')), some (.ref (ad2 kb)), some (.int (nI (szw w))), some (.int (nI j)), v9] 341 [] g6 (20 + 10 * i + 2 * (nfO s - 0)) (100 + 100 * i + 20 * (nfO s - 0)) := by
                        intro n2
                        induction n2 with
                        | zero => intro j m3 v9 hn; exact absurd hn (Nat.not_lt_zero _)
                        | succ n2 ihJ =>
                          intro j m3 v9 hn2 hj u1 u2 u3 hF3
                          have hO3 : TrO s m m3 p T (nlO s p) (nfO s) := hO5.c (fun k k1 k2 => ⟨fun x hk hx => by by_cases hz : k = T + 1 + b'; (· rw [hz]; exact u2 x (by omega)); (· exact congrFun (u1 k hz) x), fun hk => u1 k (by omega)⟩) (by omega)
                          refine v_iload (C.wl _ _) dX5_tried_341 rfl ?_
                          refine v_iload (C.wl _ _) dX5_tried_343 rfl ?_
                          refine v_icmp_ge (tgt := 372) (C.wl _ _) dX5_tried_345 (by decide) (fun h345 => ?_) (fun h345 => ?_)
                          · have hkn345 : j = szw w := Nat.le_antisymm hj ((nI_leI (by omega) (by omega)).mp h345)
                            refine v_iinc (lo' := [some (.ref (ad2 600)), some (.int (nI p)), some (.ref (ad2 T)), some (.ref (ad2 (T + 1 + nfO s))), some (.int ((nI i) + 1)), some (.int (nI b')), some (.ref (ad2 kb)), some (.int (nI (szw w))), some (.int (nI j)), v9]) (C.wl _ _) dX5_tried_372 rfl rfl rfl rfl ?_
                            refine v_goto (tgt := 148) (C.wl _ _) dX5_tried_375 (by decide) ?_
                            refine v_lo (lo' := [some (.ref (ad2 600)), some (.int (nI p)), some (.ref (ad2 T)), some (.ref (ad2 (T + 1 + nfO s))), some (.int (nI (i + 1))), some (.int (nI b')), some (.ref (ad2 kb)), some (.int (nI (szw w))), some (.int (nI j)), v9]) (by rw [nI_succ i]) ?_
                            have hTS := TSI_run hot w (szw w) 0 ts0 sB TSI_0 htl
                            rw [Nat.zero_add] at hTS
                            obtain ⟨⟨tB, hB1, hB2, hB3⟩, -⟩ := hTS
                            have h10 : ∀ x, x ≤ 8 → (10 : Nat) ^ x ≤ 100000000 := fun x hx => Nat.pow_le_pow_right (n := 10) (by decide) hx
                            have e8 := h10 _ hsz8
                            have etB : tB = aB := nI_inj (by omega) (by omega) (hB2.symm.trans hwB)
                            subst etB
                            have hTF3 : TrF s m3 (spd mo (b', sB)) T (nfO s) := fun f d hf hd => by
                              by_cases hfb : f = b'
                              · rw [hfb, u3 d hd, addL_v, hkn345, show d / 10 = 0 by omega, if_pos rfl, show d % 10 = d by omega, cntP_n]
                                unfold FrV spd
                                rw [if_pos (by show 10 * b' ≤ _ ∧ _ < 10 * b' + 10; omega), show 10 * b' + d - 10 * b' = d by omega, hB3 d hd]
                                grind
                              · rw [u1 _ (by omega), z1 _ (by omega), hTF f d hf hd]
                                unfold FrV spd
                                rw [if_neg (by show ¬ (10 * b' ≤ _ ∧ _ < 10 * b' + 10); omega)]
                            have hpl2 : plO s p = plA (okA (s 6) (s 7)) (s 9) (s 5) (s 13 p) (nfO s) (wds (wdO s) p (i + 1) (nlO s p)) (acc ++ [(b', sB)]) (spd mo (b', sB)) := by
                              have e0 : boF (okA (s 6) (s 7)) (s 9) (s 5) (s 13 p) (nfO s) mo w = nI b' := hbo
                              have e1 : pl1 (okA (s 6) (s 7)) (s 9) (s 5) (s 13 p) (nfO s) mo w = some (b', sB) := by
                                unfold pl1
                                rw [e0, if_neg (nI_m1 (by omega)), iz_nI (by omega), ← okF_A, htl]
                                rfl
                              rw [hpl, plA, e1]; rfl
                            have hm3 : ∀ k, T + nfO s + 2 ≠ k → k ≠ T + 1 + b' → m3 k = m2 k := fun k a b => (u1 k b).trans (z1 k (Ne.symm a))
                            have hTL3 := (hTL.c (m2 := m3) hl (Nat.le_refl _) (fun x hx => (congrFun (u1 _ (by omega)) _).trans (z2 x (by omega))) (fun x hx => congrFun (hm3 _ (by omega) (by omega)) _) (fun x hx => congrFun (hm3 _ (by omega) (by omega)) _) (fun k k1 k2 => hm3 k (by omega) (by omega))).snoc (q := (b', sB)) hl hpt.1 hpt2.1 hkb ((congrFun (u1 _ (by omega)) _).trans z2i) ((congrFun (hm3 _ (by omega) (by omega)) _).trans hfl') ((congrFun (hm3 _ (by omega) (by omega)) _).trans htk) hbl hwB (by show _ < 10 ^ szw (wdO s (4 * p + i)); rw [hw]; exact haB) (by show LtR m3 kb (szw (wdO s (4 * p + i))) _; rw [hw]; exact LtR.c hLB (hm3 _ (by omega) (by omega)))
                            refine v_wide (k := 20 + 10 * (i + 1)) (n := 100 + 100 * (i + 1)) (by show 20 + 10 * i + 2 * (nfO s - 0) ≤ _; omega) (by show 100 + 100 * i + 20 * (nfO s - 0) ≤ _; omega) ?_
                            exact ihI (i + 1) ad2 m3 _ _ _ pt2 _ _ _ _ _ (by omega) (by omega) (by rw [List.length_append, hl]; rfl) hpl2 hA2 hO3 hTF3 hTL3 hF3 ⟨by omega, by omega⟩
                          · have hkn345 : j < szw w := Nat.lt_of_not_le fun q => h345 ((nI_leI (by omega) (by omega)).mpr q)
                            refine v_aload (C.wl _ _) dX5_tried_348 rfl ?_
                            refine v_iload (C.wl _ _) dX5_tried_350 rfl ?_
                            refine l_iald (k := kb) (n := szw w) (a := j) C ⟨by omega, by omega⟩ ((congrFun ((u1 _ (by omega)).trans (z1 _ (by omega))) _).trans hLB.1.1) ((congrFun ((u1 _ (by omega)).trans (z1 _ (by omega))) _).trans hLB.1.2) (by omega) dX5_tried_352 ?_
                            refine v_topi (y := nI (aB / 10 ^ (szw w - 1 - j) % 10)) ((congrFun ((u1 _ (by omega)).trans (z1 _ (by omega))) _).trans (hLB.2 j hkn345)) ?_
                            refine v_istore (lo' := [some (.ref (ad2 600)), some (.int (nI p)), some (.ref (ad2 T)), some (.ref (ad2 (T + 1 + nfO s))), some (.int (nI i)), some (.int (nI b')), some (.ref (ad2 kb)), some (.int (nI (szw w))), some (.int (nI j)), some (.int (nI (aB / 10 ^ (szw w - 1 - j) % 10)))]) (C.wl _ _) dX5_tried_353 (Nat.le_of_ble_eq_true rfl) rfl rfl ?_
                            refine v_aload_n (C.wl _ _) dX5_tried_355 rfl rfl ?_
                            refine v_iload (C.wl _ _) dX5_tried_356 rfl ?_
                            refine l_aald (k := T + 1 + nfO s) (n := nfO s) (a := b') (k2 := T + 1 + b') C ⟨by omega, by omega⟩ (Or.inl hO3.2.2.2.2.2.1.1.1) hO3.2.2.2.2.2.1.1.2 ⟨hbl, by omega⟩ (hO3.2.2.2.2.2.1.2 _ hbl) ⟨by omega, by omega⟩ dX5_tried_358 ?_
                            refine v_iload (C.wl _ _) dX5_tried_359 rfl ?_
                            refine v_dup2 (C.wl _ _) dX5_tried_361 rfl rfl ?_
                            refine l_iald (k := T + 1 + b') (n := 10) (a := (aB / 10 ^ (szw w - 1 - j) % 10)) C ⟨by omega, by omega⟩ (hO3.2.2.2.2.2.2 _ hbl).1 (hO3.2.2.2.2.2.2 _ hbl).2 ⟨Nat.mod_lt _ (by decide), by decide⟩ dX5_tried_362 ?_
                            refine v_iconst (v := 1) (C.wl _ _) dX5_tried_363 (by decide) ?_
                            refine v_isub (C.wl _ _) dX5_tried_364 ?_
                            refine l_iast (k := T + 1 + b') (n := 10) (a := (aB / 10 ^ (szw w - 1 - j) % 10)) C ⟨by omega, by omega⟩ (hO3.2.2.2.2.2.2 _ hbl).1 (hO3.2.2.2.2.2.2 _ hbl).2 ⟨Nat.mod_lt _ (by decide), by decide⟩ dX5_tried_365 ?_
                            refine v_iinc (lo' := [some (.ref (ad2 600)), some (.int (nI p)), some (.ref (ad2 T)), some (.ref (ad2 (T + 1 + nfO s))), some (.int (nI i)), some (.int (nI b')), some (.ref (ad2 kb)), some (.int (nI (szw w))), some (.int ((nI j) + 1)), some (.int (nI (aB / 10 ^ (szw w - 1 - j) % 10)))]) (C.wl _ _) dX5_tried_366 rfl rfl rfl rfl ?_
                            refine v_goto (tgt := 341) (C.wl _ _) dX5_tried_369 (by decide) ?_
                            refine v_lo (lo' := [some (.ref (ad2 600)), some (.int (nI p)), some (.ref (ad2 T)), some (.ref (ad2 (T + 1 + nfO s))), some (.int (nI i)), some (.int (nI b')), some (.ref (ad2 kb)), some (.int (nI (szw w))), some (.int (nI (j + 1))), some (.int (nI (aB / 10 ^ (szw w - 1 - j) % 10)))]) (by rw [nI_succ j]) ?_
                            have hdl : (aB / 10 ^ (szw w - 1 - j) % 10) < 10 := Nat.mod_lt _ (by decide)
                            exact ihJ (j + 1) _ _ (by omega) (by omega) (fun k hk => by rw [wr_row _ _ _ _ hk]; exact u1 k hk) (fun x hx => by rw [wr_ne _ _ _ _ (Or.inr (by omega))]; exact u2 x hx) (fun d hd => by rw [u3 _ hdl, addL, Nat.mul_zero, Nat.zero_add]; unfold upd; by_cases hx : d = (aB / 10 ^ (szw w - 1 - j) % 10); (· rw [if_pos hx, hx, wr_same, Int32.sub_eq_add_neg]); (· rw [if_neg hx, wr_ne _ _ _ _ (Or.inr hx)]; exact u3 d hd)) (hF3.wi (by omega) (by omega) (hO3.2.2.2.2.2.2 _ hbl).1)
                      exact loopJ _ 0 m5 _ (Nat.lt_succ_self _) (Nat.zero_le _) (fun _ _ => rfl) (fun _ _ => rfl) (fun d hd => by rw [z1 _ (by omega)]; exact hTF b' d hbl hd) hF5
                    · exact absurd (nI_pos (by omega) : ¬ nI b' < 0) (fun z => h310 (by rw [i_le]; rw [i_lt] at z; omega))
                · obtain ⟨f, rfl⟩ : ∃ f, F = f + 1 := by
                    cases F with
                    | zero => exact absurd (by decide) h172
                    | succ f => exact ⟨f, rfl⟩
                  have hfn : f < nfO s := by omega
                  refine v_lo (lo' := [some (.ref (ad2 600)), some (.int (nI p)), some (.ref (ad2 T)), some (.ref (ad2 (T + 1 + nfO s))), some (.int (nI i)), some (.int b), some (.int (nI f)), v7, v8, v9]) (by rw [nI_dec (k := f + 1) (by omega)]; rfl) ?_
                  refine v_aload_n (C.wl _ _) dX5_tried_175 rfl rfl ?_
                  refine l_get (k := 600) C inG5 (ci := 6) rfl 2 (by decide) (tg5 5 rfl rfl) rfl ⟨by decide, by decide⟩ (cW_6 ((congrFun (hO.1 _ (by omega) (by omega)) _).trans hR.1.1)) (sm_r (by decide) ((congrFun (hO.1 _ (by omega) (by omega)) _).trans hR.1.2.2.2.1) ⟨by decide, by decide⟩) dX5_tried_176 ?_
                  refine v_iload (C.wl _ _) dX5_tried_179 rfl ?_
                  refine l_iald (k := 601) (n := nfO s) (a := f) C ⟨by decide, by decide⟩ ((congrFun (hO.1 _ (by omega) (by omega)) _).trans hR.2.1.1.1.1) ((congrFun (hO.1 _ (by omega) (by omega)) _).trans hR.2.1.1.1.2) ⟨hfn, by omega⟩ dX5_tried_181 ?_
                  refine v_topi (y := s 5 f) ((congrFun (hO.1 _ (by omega) (by omega)) _).trans (hR.2.1.1.2 _ hfn)) ?_
                  refine v_aload_n (C.wl _ _) dX5_tried_182 rfl rfl ?_
                  refine l_get (k := T) C inG4 (ci := 5) rfl 1 (by decide) (tg2 180 rfl rfl) rfl ⟨by omega, by omega⟩ (cW_5 hO.2.1.1) rfl dX5_tried_183 ?_
                  refine v_topi (y := s 13 p) hO.2.1.2.2.1 ?_
                  refine v_icmp_ge (tgt := 192) (C.wl _ _) dX5_tried_186 (by decide) (fun h186 => ?_) (fun h186 => ?_)
                  · refine v_aload_n (C.wl _ _) dX5_tried_192 rfl rfl ?_
                    refine v_aload_n (C.wl _ _) dX5_tried_193 rfl rfl ?_
                    refine l_get (k := T) C inG4 (ci := 5) rfl 2 (by decide) (tg2 183 rfl rfl) rfl ⟨by omega, by omega⟩ (cW_5 hO.2.1.1) (ps_r (by decide) hO.2.1.2.2.2.1 ⟨by omega, by omega⟩) dX5_tried_194 ?_
                    refine v_iload (C.wl _ _) dX5_tried_197 rfl ?_
                    refine l_aald (k := 701 + 20 * p) (n := nlO s p) (a := i) (k2 := 705 + 20 * p + i) C ⟨by omega, by omega⟩ (Or.inl ((congrFun (hO.1 _ (by omega) (by omega)) _).trans hPL.1.1)) ((congrFun (hO.1 _ (by omega) (by omega)) _).trans hPL.1.2) (by omega) ((congrFun (hO.1 _ (by omega) (by omega)) _).trans (hPL.2 _ hkn155).1) ⟨by omega, by omega⟩ dX5_tried_199 ?_
                    refine v_aload_n (C.wl _ _) dX5_tried_200 rfl rfl ?_
                    refine v_iload (C.wl _ _) dX5_tried_201 rfl ?_
                    refine l_aald (k := T + 1 + nfO s) (n := nfO s) (a := f) (k2 := T + 1 + f) C ⟨by omega, by omega⟩ (Or.inl hO.2.2.2.2.2.1.1.1) hO.2.2.2.2.2.1.1.2 ⟨hfn, by omega⟩ (hO.2.2.2.2.2.1.2 _ hfn) ⟨by omega, by omega⟩ dX5_tried_203 ?_
                    have hk0 : ∀ k, 600 ≤ k → k < T → m2 k = m k := hO.1
                    have hLn2 : LtR m2 (705 + 20 * p + i) (szw w) w := LtR.c hLn (hk0 _ (by omega) (by omega))
                    refine l_callVq (n := 2) (as := [.ref (ad2 (705 + 20 * p + i)), .ref (ad2 (T + 1 + f))]) C hW9 (l_take _ Z ad2 m2 g6 pt2 hFr (705 + 20 * p + i) (T + 1 + f) (szw w) w (FrV s mo f) (s 9) (by omega) (by omega) ⟨(congrFun (hk0 600 (by omega) (by omega)) _).trans hR.1.1, (congrFun (hk0 600 (by omega) (by omega)) _).trans hR.1.2.2.2.2.2.1⟩ ⟨⟨(congrFun (hk0 603 (by omega) (by omega)) _).trans hR.2.2.2.1.1.1, (congrFun (hk0 603 (by omega) (by omega)) _).trans hR.2.2.2.1.1.2⟩, fun j hj => (congrFun (hk0 603 (by omega) (by omega)) _).trans (hR.2.2.2.1.2 j hj)⟩ hot ⟨by omega, by omega⟩ hsz8 hLn2 ⟨by omega, by omega⟩ (hO.2.2.2.2.2.2 f hfn) (fun d hd => hTF f d hfn hd)) (gv (tg2 214 rfl rfl) (tg2 216 rfl rfl) (tg0 16 rfl rfl) (tg1 6 rfl rfl) (tg2 218 rfl rfl)) (by decide +kernel) ⟨Nat.le_of_ble_eq_true rfl, Nat.le_of_ble_eq_true rfl⟩ rfl ⟨by decide, by decide⟩ (cW_6 ((congrFun (hk0 600 (by omega) (by omega)) _).trans hR.1.1)) rfl rfl (Nat.le_of_ble_eq_true rfl) dX5_tried_204 ⟨by show 20 + 10 * i + 2 * (nfO s - (f + 1)) + 2 ≤ 60; omega, by show 100 + 100 * i + 20 * (nfO s - (f + 1)) + 20 ≤ 600; omega⟩ (fun v204 ad204 m204 g204 hp204 => ?_)
                    obtain ⟨hq, hA204, hg204⟩ := hp204
                    rw [hg204]
                    have hA3 : ∀ k, k < T → ad204 k = ad k := fun k hk => (hA204 k (by omega)).trans (hA2 k hk)
                    cases htl : tlR (okF (FrV s mo f)) (s 9) w (szw w) ts0 with
                    | none =>
                      rw [htl] at hq
                      obtain ⟨hv, hm⟩ := hq
                      rw [hv, hm]
                      refine v_st (st' := [.null]) rfl ?_
                      refine v_lo (lo' := [some (.ref (ad204 600)), some (.int (nI p)), some (.ref (ad204 T)), some (.ref (ad204 (T + 1 + nfO s))), some (.int (nI i)), some (.int b), some (.int (nI f)), v7, v8, v9]) (by rw [hA204 600 (by omega), hA204 T (by omega), hA204 (T + 1 + nfO s) (by omega)]) ?_
                      refine v_astoreN (lo' := [some (.ref (ad204 600)), some (.int (nI p)), some (.ref (ad204 T)), some (.ref (ad204 (T + 1 + nfO s))), some (.int (nI i)), some (.int b), some (.int (nI f)), some (.null), v8, v9]) (C.wl _ _) dX5_tried_207 (Nat.le_of_ble_eq_true rfl) rfl rfl ?_
                      refine v_aloadN (C.wl _ _) dX5_tried_209 rfl ?_
                      refine v_ifnonnullN (C.wl _ _) dX5_tried_211 ?_
                      refine v_goto (tgt := 302) (C.wl _ _) dX5_tried_214 (by decide) ?_
                      refine v_iinc (lo' := [some (.ref (ad204 600)), some (.int (nI p)), some (.ref (ad204 T)), some (.ref (ad204 (T + 1 + nfO s))), some (.int (nI i)), some (.int b), some (.int ((nI f) + (-1))), some (.null), v8, v9]) (C.wl _ _) dX5_tried_302 rfl rfl rfl rfl ?_
                      refine v_goto (tgt := 170) (C.wl _ _) dX5_tried_305 (by decide) ?_
                      refine v_wide (k := 20 + 10 * i + 2 * (nfO s - f)) (n := 100 + 100 * i + 20 * (nfO s - f)) (by show 20 + 10 * i + 2 * (nfO s - (f + 1)) + 2 ≤ _; omega) (by show 100 + 100 * i + 20 * (nfO s - (f + 1)) + 20 ≤ _; omega) ?_
                      have hfv : (fvF (okA (s 6) (s 7)) (s 9) mo w) f = -1 := fvF_none (okf := okA (s 6) (s 7)) htl
                      exact ihF f ad204 m2 b kb pt2 _ _ _ (by omega) (by omega) hA3 hO hTF hTL hTB ((hBs.skip (f := f) (fun z => z.2 hfv)).set (fun x => by omega)) hFr ⟨hpt2.1, by omega⟩
                    | some sT =>
                      rw [htl] at hq
                      obtain ⟨r, a, hv, hm, ⟨r1, r2⟩, r3, r4, r5, r6, hFn⟩ := hq
                      rw [hv, hm]
                      have hfv : (fvF (okA (s 6) (s 7)) (s 9) mo w) f = sT.2.1 := fvF_some (okf := okA (s 6) (s 7)) htl
                      have hft : sT.2.1 = nI (dfN (m2 (705 + 20 * p + i)) r (szw w)) := r6
                      have hfne : ¬ (fvF (okA (s 6) (s 7)) (s 9) mo w) f = -1 := by rw [hfv, hft]; exact nI_m1 (by have := dfN_le (m2 (705 + 20 * p + i)) r (szw w); omega)
                      have hok : okf5 (fvF (okA (s 6) (s 7)) (s 9) mo w) (s 5) (s 13 p) f := ⟨fun z => by rw [i_le] at h186; rw [i_lt] at z; omega, hfne⟩
                      refine v_st (st' := [.ref (ad204 pt2)]) rfl ?_
                      refine v_lo (lo' := [some (.ref (ad204 600)), some (.int (nI p)), some (.ref (ad204 T)), some (.ref (ad204 (T + 1 + nfO s))), some (.int (nI i)), some (.int b), some (.int (nI f)), v7, v8, v9]) (by rw [hA204 600 (by omega), hA204 T (by omega), hA204 (T + 1 + nfO s) (by omega)]) ?_
                      refine v_astore (lo' := [some (.ref (ad204 600)), some (.int (nI p)), some (.ref (ad204 T)), some (.ref (ad204 (T + 1 + nfO s))), some (.int (nI i)), some (.int b), some (.int (nI f)), some (.ref (ad204 pt2)), v8, v9]) (C.wl _ _) dX5_tried_207 (Nat.le_of_ble_eq_true rfl) rfl rfl ?_
                      refine v_aload (C.wl _ _) dX5_tried_209 rfl ?_
                      refine v_ifnonnull (tgt := 217) (C.wl _ _) dX5_tried_211 (by decide) ?_
                      refine v_aload_n (C.wl _ _) dX5_tried_217 rfl rfl ?_
                      refine l_get (k := T) C inG4 (ci := 5) rfl 2 (by decide) (tg2 183 rfl rfl) rfl ⟨by omega, by omega⟩ (cW_5 ((congrFun (rwr_ne _ _ _ (by omega)) _).trans hO.2.1.1)) (ps_r (by decide) ((congrFun (rwr_ne _ _ _ (by omega)) _).trans hO.2.1.2.2.2.1) ⟨by omega, by omega⟩) dX5_tried_218 ?_
                      refine v_iload (C.wl _ _) dX5_tried_221 rfl ?_
                      refine l_aald (k := 701 + 20 * p) (n := nlO s p) (a := i) (k2 := 705 + 20 * p + i) C ⟨by omega, by omega⟩ (Or.inl ((congrFun (rwr_ne _ _ _ (by omega)) _).trans ((congrFun (hO.1 _ (by omega) (by omega)) _).trans hPL.1.1))) ((congrFun (rwr_ne _ _ _ (by omega)) _).trans ((congrFun (hO.1 _ (by omega) (by omega)) _).trans hPL.1.2)) (by omega) ((congrFun (rwr_ne _ _ _ (by omega)) _).trans ((congrFun (hO.1 _ (by omega) (by omega)) _).trans (hPL.2 _ hkn155).1)) ⟨by omega, by omega⟩ dX5_tried_223 ?_
                      refine v_aload (C.wl _ _) dX5_tried_224 rfl ?_
                      refine v_callSi (n := 2) (as := [.ref (ad204 (705 + 20 * p + i)), .ref (ad204 pt2)]) (C.wl _ _) (l_swrong _ Z ad204 (rwr m2 pt2 r) (705 + 20 * p + i) pt2 (szw w) ⟨by omega, by omega⟩ ⟨(congrFun (rwr_ne _ _ _ (by omega)) _).trans hLn2.1.1, (congrFun (rwr_ne _ _ _ (by omega)) _).trans hLn2.1.2⟩ ⟨by omega, by omega⟩ ⟨(congrFun (rwr_same _ _ _) _).trans r1, (congrFun (rwr_same _ _ _) _).trans r2⟩ (by omega) g6) (gs (tg2 225 rfl rfl) (tg2 226 rfl rfl) (tg1 6 rfl rfl) (tg2 227 rfl rfl)) (by decide +kernel) ⟨Nat.le_of_ble_eq_true rfl, Nat.le_of_ble_eq_true rfl⟩ rfl rfl (Nat.le_of_ble_eq_true rfl) dX5_tried_226 ⟨by show 20 + 10 * i + 2 * (nfO s - (f + 1)) + 2 + 0 ≤ 60; omega, by show 100 + 100 * i + 20 * (nfO s - (f + 1)) + 20 + 0 ≤ 600; omega⟩ (fun r226 g226 hp226 => ?_)
                      obtain ⟨rfl, hg226⟩ := hp226
                      rw [hg226]
                      refine v_topi (y := sT.2.1) (by rw [rwr_ne _ _ _ (by omega), rwr_same]; exact r6.symm) ?_
                      refine v_istore (lo' := [some (.ref (ad204 600)), some (.int (nI p)), some (.ref (ad204 T)), some (.ref (ad204 (T + 1 + nfO s))), some (.int (nI i)), some (.int b), some (.int (nI f)), some (.ref (ad204 pt2)), some (.int sT.2.1), v9]) (C.wl _ _) dX5_tried_229 (Nat.le_of_ble_eq_true rfl) rfl rfl ?_
                      refine v_iload (C.wl _ _) dX5_tried_231 rfl ?_
                      refine v_if_lt (tgt := 280) (C.wl _ _) dX5_tried_233 (by decide) (fun h233 => ?_) (fun h233 => ?_)
                      · have hb1 : b = -1 := by
                          rcases hTB with hb | ⟨b', sB, aB, hb, hbl, -⟩
                          · exact hb
                          · exact absurd (hb ▸ h233) (nI_pos (by omega))
                        have hnw : ∀ b0, b = nI b0 → (f + 1 ≤ b0 ∧ b0 < nfO s) → noW (fvF (okA (s 6) (s 7)) (s 9) mo w) (s 5) f b0 := fun b0 hb0 hS => absurd (hb0.symm.trans hb1) (nI_m1 (by omega))
                        refine v_iload (C.wl _ _) dX5_tried_280 rfl ?_
                        refine v_istore (lo' := [some (.ref (ad204 600)), some (.int (nI p)), some (.ref (ad204 T)), some (.ref (ad204 (T + 1 + nfO s))), some (.int (nI i)), some (.int (nI f)), some (.int (nI f)), some (.ref (ad204 pt2)), some (.int sT.2.1), v9]) (C.wl _ _) dX5_tried_282 (Nat.le_of_ble_eq_true rfl) rfl rfl ?_
                        refine v_aload_n (C.wl _ _) dX5_tried_284 rfl rfl ?_
                        refine l_get (k := T) C inG4 (ci := 5) rfl 6 (by decide) (tg2 192 rfl rfl) rfl ⟨by omega, by omega⟩ (cW_5 ((congrFun (rwr_ne _ _ _ (by omega)) _).trans hO.2.1.1)) (ps_r (by decide) ((congrFun (rwr_ne _ _ _ (by omega)) _).trans hO.2.1.2.2.2.2.2.2.2.1) ⟨by omega, by omega⟩) dX5_tried_285 ?_
                        refine v_iload (C.wl _ _) dX5_tried_288 rfl ?_
                        refine v_iload (C.wl _ _) dX5_tried_290 rfl ?_
                        refine l_iast (k := T + nfO s + 3) (n := nlO s p) (a := i) C ⟨by omega, by omega⟩ ((congrFun (rwr_ne _ _ _ (by omega)) _).trans hO.2.2.2.1.1) ((congrFun (rwr_ne _ _ _ (by omega)) _).trans hO.2.2.2.1.2) (by omega) dX5_tried_292 ?_
                        refine v_aload_n (C.wl _ _) dX5_tried_293 rfl rfl ?_
                        refine l_get (k := T) C inG4 (ci := 5) rfl 7 (by decide) (tg2 194 rfl rfl) rfl ⟨by omega, by omega⟩ (cW_5 ((wr_ne _ _ _ _ (by omega)).trans ((congrFun (rwr_ne _ _ _ (by omega)) _).trans hO.2.1.1))) (ps_r (by decide) ((wr_ne _ _ _ _ (by omega)).trans ((congrFun (rwr_ne _ _ _ (by omega)) _).trans hO.2.1.2.2.2.2.2.2.2.2)) ⟨by omega, by omega⟩) dX5_tried_294 ?_
                        refine v_iload (C.wl _ _) dX5_tried_297 rfl ?_
                        refine v_aload (C.wl _ _) dX5_tried_299 rfl ?_
                        refine l_aast (k := T + nfO s + 4) (n := nlO s p) (a := i) (k2 := pt2) (n2 := szw w) C hW9.L ⟨by omega, by omega⟩ ((wr_ne _ _ _ _ (by omega)).trans ((congrFun (rwr_ne _ _ _ (by omega)) _).trans hO.2.2.2.2.1.1)) ((wr_ne _ _ _ _ (by omega)).trans ((congrFun (rwr_ne _ _ _ (by omega)) _).trans hO.2.2.2.2.1.2)) (by omega) ⟨by omega, by omega⟩ ((wr_ne _ _ _ _ (by omega)).trans ((congrFun (rwr_same _ _ _) _).trans r1)) ((wr_ne _ _ _ _ (by omega)).trans ((congrFun (rwr_same _ _ _) _).trans r2)) (by omega) dX5_tried_301 ?_
                        refine v_iinc (lo' := [some (.ref (ad204 600)), some (.int (nI p)), some (.ref (ad204 T)), some (.ref (ad204 (T + 1 + nfO s))), some (.int (nI i)), some (.int (nI f)), some (.int ((nI f) + (-1))), some (.ref (ad204 pt2)), some (.int sT.2.1), v9]) (C.wl _ _) dX5_tried_302 rfl rfl rfl rfl ?_
                        refine v_goto (tgt := 170) (C.wl _ _) dX5_tried_305 (by decide) ?_
                        refine v_wide (k := 20 + 10 * i + 2 * (nfO s - f)) (n := 100 + 100 * i + 20 * (nfO s - f)) (by show 20 + 10 * i + 2 * (nfO s - (f + 1)) + 2 ≤ _; omega) (by show 100 + 100 * i + 20 * (nfO s - (f + 1)) + 20 ≤ _; omega) ?_
                        generalize hm5 : wr (wr (rwr m2 pt2 r) (T + nfO s + 3) i sT.2.1) (T + nfO s + 4) i (nI pt2) = m5
                        have z1 : ∀ k, k ≠ pt2 → k ≠ T + nfO s + 3 → k ≠ T + nfO s + 4 → m5 k = m2 k := fun k a b c => by rw [← hm5, wr_row _ _ _ _ c, wr_row _ _ _ _ b, rwr_ne _ _ _ a]
                        have z2 : m5 pt2 = r := by rw [← hm5, wr_row _ _ _ _ (by omega), wr_row _ _ _ _ (by omega), rwr_same]
                        have z3 : ∀ j, j ≠ i → m5 (T + nfO s + 3) j = m2 (T + nfO s + 3) j := fun j hj => by rw [← hm5, wr_row _ _ _ _ (by omega), wr_ne _ _ _ _ (Or.inr hj), rwr_ne _ _ _ (by omega)]
                        have z3i : m5 (T + nfO s + 3) i = sT.2.1 := by rw [← hm5, wr_row _ _ _ _ (by omega), wr_same]
                        have z4 : ∀ j, j ≠ i → m5 (T + nfO s + 4) j = m2 (T + nfO s + 4) j := fun j hj => by rw [← hm5, wr_ne _ _ _ _ (Or.inr hj), wr_row _ _ _ _ (by omega), rwr_ne _ _ _ (by omega)]
                        have z4i : m5 (T + nfO s + 4) i = nI pt2 := by rw [← hm5, wr_same]
                        have hF5 : Fr m5 (pt2 + 1) := by rw [← hm5]; exact (hFn.wi (by omega) (by omega) ((congrFun (rwr_ne _ _ _ (by omega)) _).trans hO.2.2.2.1.1)).wn (by omega) (by omega) (by omega)
                        exact ihF f ad204 m5 (nI f) pt2 (pt2 + 1) _ _ _ (by omega) (by omega) hA3 (hO.c (fun k k1 k2 => ⟨fun j hk hj => by rcases hk with rfl | rfl | rfl | hk; (· exact congrFun (z1 _ (by omega) (by omega) (by omega)) j); (· exact z3 j (by omega)); (· exact z4 j (by omega)); (· exact congrFun (z1 _ (by omega) (by omega) (by omega)) j), fun hk => z1 k (by omega) (by omega) (by omega)⟩) (by omega)) (hTF.c (fun x hx => z1 _ (by omega) (by omega) (by omega))) (hTL.c hl (Nat.le_refl _) (fun _ _ => congrFun (z1 _ (by omega) (by omega) (by omega)) _) (fun x hx => z3 x (by omega)) (fun x hx => z4 x (by omega)) (fun k k1 k2 => z1 k (by omega) (by omega) (by omega))) (Or.inr ⟨f, sT, a, rfl, hfn, htl, z3i, z4i, ⟨by omega, by omega⟩, r3, r4, ⟨⟨by rw [z2]; exact r1, by rw [z2]; exact r2⟩, fun c hc => by rw [z2]; exact r5 c hc⟩⟩) (by rw [z3i, ← hfv]; exact (hBs.take (f := f) hok (fun b0 hb0 hS => hnw b0 hb0 hS)).set (fun x => by omega)) hF5 ⟨by omega, by omega⟩
                      · obtain ⟨b', sB, aB, hb, hbl, htlB, hflB, htkB, hkbB, hwB, haB, hLB⟩ : ∃ b' sT a, b = nI b' ∧ b' < nfO s ∧ tlR (okF (FrV s mo b')) (s 9) w (szw w) ts0 = some sT ∧ m2 (T + nfO s + 3) i = sT.2.1 ∧ m2 (T + nfO s + 4) i = nI kb ∧ (pt ≤ kb ∧ kb < pt2) ∧ sT.2.2 = nI a ∧ a < 10 ^ szw w ∧ LtR m2 kb (szw w) a := by
                          rcases id hTB with hb | hb
                          · exact absurd (by rw [hb]; decide) h233
                          · exact hb
                        have hfvB : (fvF (okA (s 6) (s 7)) (s 9) mo w) b' = sB.2.1 := fvF_some (okf := okA (s 6) (s 7)) htlB
                        have hbF : f + 1 ≤ b' := by
                          rcases id hBs with ⟨z, -⟩ | ⟨b0, z, -, z2, -⟩
                          · exact absurd (hb.symm.trans z) (nI_m1 (by omega))
                          · have e : b0 = b' := nI_inj (by have := z2.2; omega) (by omega) (z.symm.trans hb)
                            have := z2.1; omega
                        subst hb
                        refine v_iload (C.wl _ _) dX5_tried_236 rfl ?_
                        refine v_aload_n (C.wl _ _) dX5_tried_238 rfl rfl ?_
                        refine l_get (k := T) C inG4 (ci := 5) rfl 6 (by decide) (tg2 192 rfl rfl) rfl ⟨by omega, by omega⟩ (cW_5 ((congrFun (rwr_ne _ _ _ (by omega)) _).trans hO.2.1.1)) (ps_r (by decide) ((congrFun (rwr_ne _ _ _ (by omega)) _).trans hO.2.1.2.2.2.2.2.2.2.1) ⟨by omega, by omega⟩) dX5_tried_239 ?_
                        refine v_iload (C.wl _ _) dX5_tried_242 rfl ?_
                        refine l_iald (k := T + nfO s + 3) (n := nlO s p) (a := i) C ⟨by omega, by omega⟩ ((congrFun (rwr_ne _ _ _ (by omega)) _).trans hO.2.2.2.1.1) ((congrFun (rwr_ne _ _ _ (by omega)) _).trans hO.2.2.2.1.2) (by omega) dX5_tried_244 ?_
                        refine v_topi (y := sB.2.1) ((congrFun (rwr_ne _ _ _ (by omega)) _).trans hflB) ?_
                        refine v_icmp_gt (tgt := 302) (C.wl _ _) dX5_tried_245 (by decide) (fun h245 => ?_) (fun h245 => ?_)
                        · have hnw : noW (fvF (okA (s 6) (s 7)) (s 9) mo w) (s 5) b' f := by unfold noW; rw [hfv, hfvB]; simp only [i_lt, i_le, i_eq] at h245 ⊢; omega
                          refine v_iinc (lo' := [some (.ref (ad204 600)), some (.int (nI p)), some (.ref (ad204 T)), some (.ref (ad204 (T + 1 + nfO s))), some (.int (nI i)), some (.int (nI b')), some (.int ((nI f) + (-1))), some (.ref (ad204 pt2)), some (.int sT.2.1), v9]) (C.wl _ _) dX5_tried_302 rfl rfl rfl rfl ?_
                          refine v_goto (tgt := 170) (C.wl _ _) dX5_tried_305 (by decide) ?_
                          refine v_wide (k := 20 + 10 * i + 2 * (nfO s - f)) (n := 100 + 100 * i + 20 * (nfO s - f)) (by show 20 + 10 * i + 2 * (nfO s - (f + 1)) + 2 ≤ _; omega) (by show 100 + 100 * i + 20 * (nfO s - (f + 1)) + 20 ≤ _; omega) ?_
                          exact ihF f ad204 _ (nI b') kb (pt2 + 1) _ _ _ (by omega) (by omega) hA3 (hO.c (fun k k1 k2 => ⟨fun j _ _ => congrFun (rwr_ne _ _ _ (by omega)) j, fun _ => rwr_ne _ _ _ (by omega)⟩) (by omega)) (hTF.c (fun x hx => rwr_ne _ _ _ (by omega))) (hTL.c hl (Nat.le_refl _) (fun _ _ => congrFun (rwr_ne _ _ _ (by omega)) _) (fun _ _ => congrFun (rwr_ne _ _ _ (by omega)) _) (fun _ _ => congrFun (rwr_ne _ _ _ (by omega)) _) (fun k k1 k2 => rwr_ne _ _ _ (by omega))) (hTB.c (by omega) (congrFun (rwr_ne _ _ _ (by omega)) _) (congrFun (rwr_ne _ _ _ (by omega)) _) (fun k k1 k2 => rwr_ne _ _ _ (by omega))) (by rw [congrFun (rwr_ne m2 pt2 r (by omega : T + nfO s + 3 ≠ pt2)) i]; exact (hBs.stay (f := f) rfl (by omega) (fun x hx => by have := hx.2; omega) hnw).set (fun x => by omega)) hFn ⟨by omega, by omega⟩
                        · refine v_iload (C.wl _ _) dX5_tried_248 rfl ?_
                          refine v_aload_n (C.wl _ _) dX5_tried_250 rfl rfl ?_
                          refine l_get (k := T) C inG4 (ci := 5) rfl 6 (by decide) (tg2 192 rfl rfl) rfl ⟨by omega, by omega⟩ (cW_5 ((congrFun (rwr_ne _ _ _ (by omega)) _).trans hO.2.1.1)) (ps_r (by decide) ((congrFun (rwr_ne _ _ _ (by omega)) _).trans hO.2.1.2.2.2.2.2.2.2.1) ⟨by omega, by omega⟩) dX5_tried_251 ?_
                          refine v_iload (C.wl _ _) dX5_tried_254 rfl ?_
                          refine l_iald (k := T + nfO s + 3) (n := nlO s p) (a := i) C ⟨by omega, by omega⟩ ((congrFun (rwr_ne _ _ _ (by omega)) _).trans hO.2.2.2.1.1) ((congrFun (rwr_ne _ _ _ (by omega)) _).trans hO.2.2.2.1.2) (by omega) dX5_tried_256 ?_
                          refine v_topi (y := sB.2.1) ((congrFun (rwr_ne _ _ _ (by omega)) _).trans hflB) ?_
                          refine v_icmp_ne (tgt := 280) (C.wl _ _) dX5_tried_257 (by decide) (fun h257 => ?_) (fun h257 => ?_)
                          · have hnw : ∀ b0, nI b' = nI b0 → (f + 1 ≤ b0 ∧ b0 < nfO s) → noW (fvF (okA (s 6) (s 7)) (s 9) mo w) (s 5) f b0 := fun b0 hb0 hS => by have e : b' = b0 := nI_inj (by omega) (by have := hS.2; omega) hb0; subst e; unfold noW; rw [hfv, hfvB]; simp only [i_lt, i_le, i_eq] at h245 h257 ⊢; omega
                            refine v_iload (C.wl _ _) dX5_tried_280 rfl ?_
                            refine v_istore (lo' := [some (.ref (ad204 600)), some (.int (nI p)), some (.ref (ad204 T)), some (.ref (ad204 (T + 1 + nfO s))), some (.int (nI i)), some (.int (nI f)), some (.int (nI f)), some (.ref (ad204 pt2)), some (.int sT.2.1), v9]) (C.wl _ _) dX5_tried_282 (Nat.le_of_ble_eq_true rfl) rfl rfl ?_
                            refine v_aload_n (C.wl _ _) dX5_tried_284 rfl rfl ?_
                            refine l_get (k := T) C inG4 (ci := 5) rfl 6 (by decide) (tg2 192 rfl rfl) rfl ⟨by omega, by omega⟩ (cW_5 ((congrFun (rwr_ne _ _ _ (by omega)) _).trans hO.2.1.1)) (ps_r (by decide) ((congrFun (rwr_ne _ _ _ (by omega)) _).trans hO.2.1.2.2.2.2.2.2.2.1) ⟨by omega, by omega⟩) dX5_tried_285 ?_
                            refine v_iload (C.wl _ _) dX5_tried_288 rfl ?_
                            refine v_iload (C.wl _ _) dX5_tried_290 rfl ?_
                            refine l_iast (k := T + nfO s + 3) (n := nlO s p) (a := i) C ⟨by omega, by omega⟩ ((congrFun (rwr_ne _ _ _ (by omega)) _).trans hO.2.2.2.1.1) ((congrFun (rwr_ne _ _ _ (by omega)) _).trans hO.2.2.2.1.2) (by omega) dX5_tried_292 ?_
                            refine v_aload_n (C.wl _ _) dX5_tried_293 rfl rfl ?_
                            refine l_get (k := T) C inG4 (ci := 5) rfl 7 (by decide) (tg2 194 rfl rfl) rfl ⟨by omega, by omega⟩ (cW_5 ((wr_ne _ _ _ _ (by omega)).trans ((congrFun (rwr_ne _ _ _ (by omega)) _).trans hO.2.1.1))) (ps_r (by decide) ((wr_ne _ _ _ _ (by omega)).trans ((congrFun (rwr_ne _ _ _ (by omega)) _).trans hO.2.1.2.2.2.2.2.2.2.2)) ⟨by omega, by omega⟩) dX5_tried_294 ?_
                            refine v_iload (C.wl _ _) dX5_tried_297 rfl ?_
                            refine v_aload (C.wl _ _) dX5_tried_299 rfl ?_
                            refine l_aast (k := T + nfO s + 4) (n := nlO s p) (a := i) (k2 := pt2) (n2 := szw w) C hW9.L ⟨by omega, by omega⟩ ((wr_ne _ _ _ _ (by omega)).trans ((congrFun (rwr_ne _ _ _ (by omega)) _).trans hO.2.2.2.2.1.1)) ((wr_ne _ _ _ _ (by omega)).trans ((congrFun (rwr_ne _ _ _ (by omega)) _).trans hO.2.2.2.2.1.2)) (by omega) ⟨by omega, by omega⟩ ((wr_ne _ _ _ _ (by omega)).trans ((congrFun (rwr_same _ _ _) _).trans r1)) ((wr_ne _ _ _ _ (by omega)).trans ((congrFun (rwr_same _ _ _) _).trans r2)) (by omega) dX5_tried_301 ?_
                            refine v_iinc (lo' := [some (.ref (ad204 600)), some (.int (nI p)), some (.ref (ad204 T)), some (.ref (ad204 (T + 1 + nfO s))), some (.int (nI i)), some (.int (nI f)), some (.int ((nI f) + (-1))), some (.ref (ad204 pt2)), some (.int sT.2.1), v9]) (C.wl _ _) dX5_tried_302 rfl rfl rfl rfl ?_
                            refine v_goto (tgt := 170) (C.wl _ _) dX5_tried_305 (by decide) ?_
                            refine v_wide (k := 20 + 10 * i + 2 * (nfO s - f)) (n := 100 + 100 * i + 20 * (nfO s - f)) (by show 20 + 10 * i + 2 * (nfO s - (f + 1)) + 2 ≤ _; omega) (by show 100 + 100 * i + 20 * (nfO s - (f + 1)) + 20 ≤ _; omega) ?_
                            generalize hm5 : wr (wr (rwr m2 pt2 r) (T + nfO s + 3) i sT.2.1) (T + nfO s + 4) i (nI pt2) = m5
                            have z1 : ∀ k, k ≠ pt2 → k ≠ T + nfO s + 3 → k ≠ T + nfO s + 4 → m5 k = m2 k := fun k a b c => by rw [← hm5, wr_row _ _ _ _ c, wr_row _ _ _ _ b, rwr_ne _ _ _ a]
                            have z2 : m5 pt2 = r := by rw [← hm5, wr_row _ _ _ _ (by omega), wr_row _ _ _ _ (by omega), rwr_same]
                            have z3 : ∀ j, j ≠ i → m5 (T + nfO s + 3) j = m2 (T + nfO s + 3) j := fun j hj => by rw [← hm5, wr_row _ _ _ _ (by omega), wr_ne _ _ _ _ (Or.inr hj), rwr_ne _ _ _ (by omega)]
                            have z3i : m5 (T + nfO s + 3) i = sT.2.1 := by rw [← hm5, wr_row _ _ _ _ (by omega), wr_same]
                            have z4 : ∀ j, j ≠ i → m5 (T + nfO s + 4) j = m2 (T + nfO s + 4) j := fun j hj => by rw [← hm5, wr_ne _ _ _ _ (Or.inr hj), wr_row _ _ _ _ (by omega), rwr_ne _ _ _ (by omega)]
                            have z4i : m5 (T + nfO s + 4) i = nI pt2 := by rw [← hm5, wr_same]
                            have hF5 : Fr m5 (pt2 + 1) := by rw [← hm5]; exact (hFn.wi (by omega) (by omega) ((congrFun (rwr_ne _ _ _ (by omega)) _).trans hO.2.2.2.1.1)).wn (by omega) (by omega) (by omega)
                            exact ihF f ad204 m5 (nI f) pt2 (pt2 + 1) _ _ _ (by omega) (by omega) hA3 (hO.c (fun k k1 k2 => ⟨fun j hk hj => by rcases hk with rfl | rfl | rfl | hk; (· exact congrFun (z1 _ (by omega) (by omega) (by omega)) j); (· exact z3 j (by omega)); (· exact z4 j (by omega)); (· exact congrFun (z1 _ (by omega) (by omega) (by omega)) j), fun hk => z1 k (by omega) (by omega) (by omega)⟩) (by omega)) (hTF.c (fun x hx => z1 _ (by omega) (by omega) (by omega))) (hTL.c hl (Nat.le_refl _) (fun _ _ => congrFun (z1 _ (by omega) (by omega) (by omega)) _) (fun x hx => z3 x (by omega)) (fun x hx => z4 x (by omega)) (fun k k1 k2 => z1 k (by omega) (by omega) (by omega))) (Or.inr ⟨f, sT, a, rfl, hfn, htl, z3i, z4i, ⟨by omega, by omega⟩, r3, r4, ⟨⟨by rw [z2]; exact r1, by rw [z2]; exact r2⟩, fun c hc => by rw [z2]; exact r5 c hc⟩⟩) (by rw [z3i, ← hfv]; exact (hBs.take (f := f) hok (fun b0 hb0 hS => hnw b0 hb0 hS)).set (fun x => by omega)) hF5 ⟨by omega, by omega⟩
                          · refine v_aload_n (C.wl _ _) dX5_tried_260 rfl rfl ?_
                            refine l_get (k := 600) C inG5 (ci := 6) rfl 2 (by decide) (tg5 5 rfl rfl) rfl ⟨by decide, by decide⟩ (cW_6 ((congrFun (rwr_ne _ _ _ (by omega)) _).trans ((congrFun (hO.1 _ (by omega) (by omega)) _).trans hR.1.1))) (sm_r (by decide) ((congrFun (rwr_ne _ _ _ (by omega)) _).trans ((congrFun (hO.1 _ (by omega) (by omega)) _).trans hR.1.2.2.2.1)) ⟨by decide, by decide⟩) dX5_tried_261 ?_
                            refine v_iload (C.wl _ _) dX5_tried_264 rfl ?_
                            refine l_iald (k := 601) (n := nfO s) (a := f) C ⟨by decide, by decide⟩ ((congrFun (rwr_ne _ _ _ (by omega)) _).trans ((congrFun (hO.1 _ (by omega) (by omega)) _).trans hR.2.1.1.1.1)) ((congrFun (rwr_ne _ _ _ (by omega)) _).trans ((congrFun (hO.1 _ (by omega) (by omega)) _).trans hR.2.1.1.1.2)) ⟨hfn, by omega⟩ dX5_tried_266 ?_
                            refine v_topi (y := s 5 f) ((congrFun (rwr_ne _ _ _ (by omega)) _).trans ((congrFun (hk0 _ (by omega) (by omega)) _).trans (hR.2.1.1.2 _ hfn))) ?_
                            refine v_aload_n (C.wl _ _) dX5_tried_267 rfl rfl ?_
                            refine l_get (k := 600) C inG5 (ci := 6) rfl 2 (by decide) (tg5 5 rfl rfl) rfl ⟨by decide, by decide⟩ (cW_6 ((congrFun (rwr_ne _ _ _ (by omega)) _).trans ((congrFun (hO.1 _ (by omega) (by omega)) _).trans hR.1.1))) (sm_r (by decide) ((congrFun (rwr_ne _ _ _ (by omega)) _).trans ((congrFun (hO.1 _ (by omega) (by omega)) _).trans hR.1.2.2.2.1)) ⟨by decide, by decide⟩) dX5_tried_268 ?_
                            refine v_iload (C.wl _ _) dX5_tried_271 rfl ?_
                            refine l_iald (k := 601) (n := nfO s) (a := b') C ⟨by decide, by decide⟩ ((congrFun (rwr_ne _ _ _ (by omega)) _).trans ((congrFun (hO.1 _ (by omega) (by omega)) _).trans hR.2.1.1.1.1)) ((congrFun (rwr_ne _ _ _ (by omega)) _).trans ((congrFun (hO.1 _ (by omega) (by omega)) _).trans hR.2.1.1.1.2)) ⟨hbl, by omega⟩ dX5_tried_273 ?_
                            refine v_topi (y := s 5 b') ((congrFun (rwr_ne _ _ _ (by omega)) _).trans ((congrFun (hk0 _ (by omega) (by omega)) _).trans (hR.2.1.1.2 _ hbl))) ?_
                            refine v_icmp_ge (tgt := 280) (C.wl _ _) dX5_tried_274 (by decide) (fun h274 => ?_) (fun h274 => ?_)
                            · have hnw : ∀ b0, nI b' = nI b0 → (f + 1 ≤ b0 ∧ b0 < nfO s) → noW (fvF (okA (s 6) (s 7)) (s 9) mo w) (s 5) f b0 := fun b0 hb0 hS => by have e : b' = b0 := nI_inj (by omega) (by have := hS.2; omega) hb0; subst e; unfold noW; rw [hfv, hfvB]; simp only [i_lt, i_le, i_eq] at h245 h257 h274 ⊢; omega
                              refine v_iload (C.wl _ _) dX5_tried_280 rfl ?_
                              refine v_istore (lo' := [some (.ref (ad204 600)), some (.int (nI p)), some (.ref (ad204 T)), some (.ref (ad204 (T + 1 + nfO s))), some (.int (nI i)), some (.int (nI f)), some (.int (nI f)), some (.ref (ad204 pt2)), some (.int sT.2.1), v9]) (C.wl _ _) dX5_tried_282 (Nat.le_of_ble_eq_true rfl) rfl rfl ?_
                              refine v_aload_n (C.wl _ _) dX5_tried_284 rfl rfl ?_
                              refine l_get (k := T) C inG4 (ci := 5) rfl 6 (by decide) (tg2 192 rfl rfl) rfl ⟨by omega, by omega⟩ (cW_5 ((congrFun (rwr_ne _ _ _ (by omega)) _).trans hO.2.1.1)) (ps_r (by decide) ((congrFun (rwr_ne _ _ _ (by omega)) _).trans hO.2.1.2.2.2.2.2.2.2.1) ⟨by omega, by omega⟩) dX5_tried_285 ?_
                              refine v_iload (C.wl _ _) dX5_tried_288 rfl ?_
                              refine v_iload (C.wl _ _) dX5_tried_290 rfl ?_
                              refine l_iast (k := T + nfO s + 3) (n := nlO s p) (a := i) C ⟨by omega, by omega⟩ ((congrFun (rwr_ne _ _ _ (by omega)) _).trans hO.2.2.2.1.1) ((congrFun (rwr_ne _ _ _ (by omega)) _).trans hO.2.2.2.1.2) (by omega) dX5_tried_292 ?_
                              refine v_aload_n (C.wl _ _) dX5_tried_293 rfl rfl ?_
                              refine l_get (k := T) C inG4 (ci := 5) rfl 7 (by decide) (tg2 194 rfl rfl) rfl ⟨by omega, by omega⟩ (cW_5 ((wr_ne _ _ _ _ (by omega)).trans ((congrFun (rwr_ne _ _ _ (by omega)) _).trans hO.2.1.1))) (ps_r (by decide) ((wr_ne _ _ _ _ (by omega)).trans ((congrFun (rwr_ne _ _ _ (by omega)) _).trans hO.2.1.2.2.2.2.2.2.2.2)) ⟨by omega, by omega⟩) dX5_tried_294 ?_
                              refine v_iload (C.wl _ _) dX5_tried_297 rfl ?_
                              refine v_aload (C.wl _ _) dX5_tried_299 rfl ?_
                              refine l_aast (k := T + nfO s + 4) (n := nlO s p) (a := i) (k2 := pt2) (n2 := szw w) C hW9.L ⟨by omega, by omega⟩ ((wr_ne _ _ _ _ (by omega)).trans ((congrFun (rwr_ne _ _ _ (by omega)) _).trans hO.2.2.2.2.1.1)) ((wr_ne _ _ _ _ (by omega)).trans ((congrFun (rwr_ne _ _ _ (by omega)) _).trans hO.2.2.2.2.1.2)) (by omega) ⟨by omega, by omega⟩ ((wr_ne _ _ _ _ (by omega)).trans ((congrFun (rwr_same _ _ _) _).trans r1)) ((wr_ne _ _ _ _ (by omega)).trans ((congrFun (rwr_same _ _ _) _).trans r2)) (by omega) dX5_tried_301 ?_
                              refine v_iinc (lo' := [some (.ref (ad204 600)), some (.int (nI p)), some (.ref (ad204 T)), some (.ref (ad204 (T + 1 + nfO s))), some (.int (nI i)), some (.int (nI f)), some (.int ((nI f) + (-1))), some (.ref (ad204 pt2)), some (.int sT.2.1), v9]) (C.wl _ _) dX5_tried_302 rfl rfl rfl rfl ?_
                              refine v_goto (tgt := 170) (C.wl _ _) dX5_tried_305 (by decide) ?_
                              refine v_wide (k := 20 + 10 * i + 2 * (nfO s - f)) (n := 100 + 100 * i + 20 * (nfO s - f)) (by show 20 + 10 * i + 2 * (nfO s - (f + 1)) + 2 ≤ _; omega) (by show 100 + 100 * i + 20 * (nfO s - (f + 1)) + 20 ≤ _; omega) ?_
                              generalize hm5 : wr (wr (rwr m2 pt2 r) (T + nfO s + 3) i sT.2.1) (T + nfO s + 4) i (nI pt2) = m5
                              have z1 : ∀ k, k ≠ pt2 → k ≠ T + nfO s + 3 → k ≠ T + nfO s + 4 → m5 k = m2 k := fun k a b c => by rw [← hm5, wr_row _ _ _ _ c, wr_row _ _ _ _ b, rwr_ne _ _ _ a]
                              have z2 : m5 pt2 = r := by rw [← hm5, wr_row _ _ _ _ (by omega), wr_row _ _ _ _ (by omega), rwr_same]
                              have z3 : ∀ j, j ≠ i → m5 (T + nfO s + 3) j = m2 (T + nfO s + 3) j := fun j hj => by rw [← hm5, wr_row _ _ _ _ (by omega), wr_ne _ _ _ _ (Or.inr hj), rwr_ne _ _ _ (by omega)]
                              have z3i : m5 (T + nfO s + 3) i = sT.2.1 := by rw [← hm5, wr_row _ _ _ _ (by omega), wr_same]
                              have z4 : ∀ j, j ≠ i → m5 (T + nfO s + 4) j = m2 (T + nfO s + 4) j := fun j hj => by rw [← hm5, wr_ne _ _ _ _ (Or.inr hj), wr_row _ _ _ _ (by omega), rwr_ne _ _ _ (by omega)]
                              have z4i : m5 (T + nfO s + 4) i = nI pt2 := by rw [← hm5, wr_same]
                              have hF5 : Fr m5 (pt2 + 1) := by rw [← hm5]; exact (hFn.wi (by omega) (by omega) ((congrFun (rwr_ne _ _ _ (by omega)) _).trans hO.2.2.2.1.1)).wn (by omega) (by omega) (by omega)
                              exact ihF f ad204 m5 (nI f) pt2 (pt2 + 1) _ _ _ (by omega) (by omega) hA3 (hO.c (fun k k1 k2 => ⟨fun j hk hj => by rcases hk with rfl | rfl | rfl | hk; (· exact congrFun (z1 _ (by omega) (by omega) (by omega)) j); (· exact z3 j (by omega)); (· exact z4 j (by omega)); (· exact congrFun (z1 _ (by omega) (by omega) (by omega)) j), fun hk => z1 k (by omega) (by omega) (by omega)⟩) (by omega)) (hTF.c (fun x hx => z1 _ (by omega) (by omega) (by omega))) (hTL.c hl (Nat.le_refl _) (fun _ _ => congrFun (z1 _ (by omega) (by omega) (by omega)) _) (fun x hx => z3 x (by omega)) (fun x hx => z4 x (by omega)) (fun k k1 k2 => z1 k (by omega) (by omega) (by omega))) (Or.inr ⟨f, sT, a, rfl, hfn, htl, z3i, z4i, ⟨by omega, by omega⟩, r3, r4, ⟨⟨by rw [z2]; exact r1, by rw [z2]; exact r2⟩, fun c hc => by rw [z2]; exact r5 c hc⟩⟩) (by rw [z3i, ← hfv]; exact (hBs.take (f := f) hok (fun b0 hb0 hS => hnw b0 hb0 hS)).set (fun x => by omega)) hF5 ⟨by omega, by omega⟩
                            · have hnw : noW (fvF (okA (s 6) (s 7)) (s 9) mo w) (s 5) b' f := by unfold noW; rw [hfv, hfvB]; simp only [i_lt, i_le, i_eq] at h245 h257 h274 ⊢; omega
                              refine v_goto (tgt := 302) (C.wl _ _) dX5_tried_277 (by decide) ?_
                              refine v_iinc (lo' := [some (.ref (ad204 600)), some (.int (nI p)), some (.ref (ad204 T)), some (.ref (ad204 (T + 1 + nfO s))), some (.int (nI i)), some (.int (nI b')), some (.int ((nI f) + (-1))), some (.ref (ad204 pt2)), some (.int sT.2.1), v9]) (C.wl _ _) dX5_tried_302 rfl rfl rfl rfl ?_
                              refine v_goto (tgt := 170) (C.wl _ _) dX5_tried_305 (by decide) ?_
                              refine v_wide (k := 20 + 10 * i + 2 * (nfO s - f)) (n := 100 + 100 * i + 20 * (nfO s - f)) (by show 20 + 10 * i + 2 * (nfO s - (f + 1)) + 2 ≤ _; omega) (by show 100 + 100 * i + 20 * (nfO s - (f + 1)) + 20 ≤ _; omega) ?_
                              exact ihF f ad204 _ (nI b') kb (pt2 + 1) _ _ _ (by omega) (by omega) hA3 (hO.c (fun k k1 k2 => ⟨fun j _ _ => congrFun (rwr_ne _ _ _ (by omega)) j, fun _ => rwr_ne _ _ _ (by omega)⟩) (by omega)) (hTF.c (fun x hx => rwr_ne _ _ _ (by omega))) (hTL.c hl (Nat.le_refl _) (fun _ _ => congrFun (rwr_ne _ _ _ (by omega)) _) (fun _ _ => congrFun (rwr_ne _ _ _ (by omega)) _) (fun _ _ => congrFun (rwr_ne _ _ _ (by omega)) _) (fun k k1 k2 => rwr_ne _ _ _ (by omega))) (hTB.c (by omega) (congrFun (rwr_ne _ _ _ (by omega)) _) (congrFun (rwr_ne _ _ _ (by omega)) _) (fun k k1 k2 => rwr_ne _ _ _ (by omega))) (by rw [congrFun (rwr_ne m2 pt2 r (by omega : T + nfO s + 3 ≠ pt2)) i]; exact (hBs.stay (f := f) rfl (by omega) (fun x hx => by have := hx.2; omega) hnw).set (fun x => by omega)) hFn ⟨by omega, by omega⟩
                  · refine v_goto (tgt := 302) (C.wl _ _) dX5_tried_189 (by decide) ?_
                    refine v_iinc (lo' := [some (.ref (ad2 600)), some (.int (nI p)), some (.ref (ad2 T)), some (.ref (ad2 (T + 1 + nfO s))), some (.int (nI i)), some (.int b), some (.int ((nI f) + (-1))), v7, v8, v9]) (C.wl _ _) dX5_tried_302 rfl rfl rfl rfl ?_
                    refine v_goto (tgt := 170) (C.wl _ _) dX5_tried_305 (by decide) ?_
                    refine v_wide (k := 20 + 10 * i + 2 * (nfO s - f)) (n := 100 + 100 * i + 20 * (nfO s - f)) (by show 20 + 10 * i + 2 * (nfO s - (f + 1)) ≤ _; omega) (by show 100 + 100 * i + 20 * (nfO s - (f + 1)) ≤ _; omega) ?_
                    exact ihF f ad2 m2 b kb pt2 _ _ _ (by omega) (by omega) hA2 hO hTF hTL hTB ((hBs.skip (f := f) (fun z => h186 (by rw [i_le]; have := z.1; rw [i_lt] at this; omega))).set (fun x => by omega)) hFr ⟨hpt2.1, by omega⟩
            refine v_wide (k := 20 + 10 * i + 2 * (nfO s - nfO s)) (n := 100 + 100 * i + 20 * (nfO s - nfO s)) (by show 20 + 10 * i ≤ _; omega) (by show 100 + 100 * i ≤ _; omega) ?_
            exact loopF _ (nfO s) ad1 m1 (-1) 0 pt _ _ _ (Nat.lt_succ_self _) (Nat.le_refl _) hA1 hO hTF hTL (Or.inl rfl) (Or.inl ⟨rfl, fun x hx => absurd hx.1 (Nat.not_le.mpr hx.2)⟩) hFr ⟨Nat.le_refl _, Nat.le_refl _⟩
      refine v_wide (k := 20 + 10 * 0) (n := 100 + 100 * 0) (by omega) (by omega) ?_
      exact loopI _ 0 ad134 m9 [] (moZ s) (fun _ => 0) (T + nfO s + 5) _ _ _ _ _ (Nat.lt_succ_self _) (Nat.zero_le _) rfl hpl9 hAA hO9 hTF9 (fun i q hq => by simp at hq) hF9 ⟨by omega, by omega⟩
    · have hno : plO s p = none := by unfold plO plM; rw [if_pos (Or.inr (nI_inj (a := nlO s p) (b := 0) (by omega) (by decide) h22))]
      refine l_drop (ad0 := ad6) hF (fun _ _ => rfl) (fun k _ hk => c0 k (by omega)) ?_
      refine v_null (C.wl _ _) dX5_tried_25 ?_
      refine v_wide (k := 60) (n := 600) (Nat.le_of_ble_eq_true rfl) (Nat.le_of_ble_eq_true rfl) ?_
      exact ret _ _ none _ _ _ dX5_tried_26 ⟨by rw [hno]; exact ⟨rfl, rfl⟩, hA6, rfl⟩
