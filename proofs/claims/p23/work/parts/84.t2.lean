/-! THE LAW'S METHODS that try: a poster -/
/-- what the law's try of a poster answers and leaves -/
def trQ (s m : MG) (p T : Nat) (o : Option (List (Nat × TS) × (Nat → Int32))) (v : Option Nat) (ad' : Nat → Nat) (m' : MG) : Prop := match o with
  | none => v = none ∧ m' = m
  | some a => v = some (ad' T) ∧ TrO s m m' p T (nlO s p) (nfO s) ∧ a.1.length = nlO s p ∧ ∃ ky pt, TrL m' T (nfO s) a.1 (fun i => szw (wdO s (4 * p + i))) ky pt ∧ Fr m' pt ∧ pt ≤ T + 40
set_option maxRecDepth 100000 in
theorem l_tried (l : Launch) (Z : Zc) (ad : Nat → Nat) (s m g : MG) (T p : Nat) (hF : Fr m T) (hT : T + 40 ≤ 1200) (hT8 : 830 ≤ T) (hI : IvM s) (hR : SimR s m) (hp : p < npO s) : LMq l yX5_tried cX5_tried 10 (some (.object "PosterTypesLaw$Poster")) (rmz 3 120 60 600) Z [.ref (ad 600), .int (nI p)] ad m g (fun v ad' m' g' => trQ s m p T (plO s p) v ad' m' ∧ (∀ k, k < T → ad' k = ad k) ∧ g' = g) := by
  have hp6 := (IvM_np hI).1
  have hf5 := (IvM_nf hI).1
  have h4 := (IvM_nl hI (show p < 6 by omega)).2
  obtain ⟨hPF, hPL, hPX⟩ := hR.L hp
  have h01 := hI.2.2.2.2.2.1 p (by omega)
  have h6 := hF.1.1
  have hot := hI.2.2.1
  refine ent_lq (own := RX5) (lo := [some (.ref (ad 600)), some (.int (nI p)), none, none, none, none, none, none, none, none]) (Or.inl ⟨_, rfl⟩) (by decide) rfl (by simp [lg_sl, Value.category]) rfl (fun P hl C hW9 ret => ?_)
  refine v_aload_n (C.wl _ _) dX5_tried_0 rfl rfl ?_
  refine l_get (k := 600) C inG5 (ci := 6) rfl 6 (by decide) (tg5 13 rfl rfl) rfl ⟨by decide, by decide⟩ (cW_6 hR.1.1) (sm_r (by decide) hR.1.2.2.2.2.2.2.2 ⟨by decide, by decide⟩) dX5_tried_1 ?_
  refine v_iload_n (C.wl _ _) dX5_tried_4 rfl rfl ?_
  refine l_aald (k := 605) (n := npO s) (a := p) (k2 := 700 + 20 * p) C ⟨by decide, by decide⟩ (Or.inr (Or.inr hR.2.2.2.2.2.1.1.1)) hR.2.2.2.2.2.1.1.2 ⟨hp, by omega⟩ (hR.2.2.2.2.2.1.2 _ hp) ⟨by omega, by omega⟩ dX5_tried_5 ?_
  obtain ⟨q1, q2, q3, q4, q5, q6, q7, q8, q9⟩ := hPF
  refine l_callVq (n := 0) (as := []) C hW9 (l_copy _ Z ad m g T hF (700 + 20 * p) (701 + 20 * p) (702 + 20 * p) (703 + 20 * p) (704 + 20 * p) (by omega) ⟨by omega, by omega⟩ q1 ⟨q4, by omega, by omega⟩ ⟨q7, by omega, by omega⟩ ⟨q8, by omega, by omega⟩ ⟨q9, by omega, by omega⟩ (by rw [q5]; exact h01)) (gv (tg2 163 rfl rfl) (tg2 164 rfl rfl) (tg2 165 rfl rfl) (tg1 19 rfl rfl) (tg2 166 rfl rfl)) (by decide +kernel) ⟨Nat.le_of_ble_eq_true rfl, Nat.le_of_ble_eq_true rfl⟩ rfl ⟨by omega, by omega⟩ (cW_5 q1) rfl rfl (Nat.le_of_ble_eq_true rfl) dX5_tried_6 ⟨Nat.le_of_ble_eq_true rfl, Nat.le_of_ble_eq_true rfl⟩ (fun v6 ad6 m6 g6 hp6' => ?_)
  obtain ⟨rfl, hA6, hm6, hF6, rfl⟩ := hp6'
  have c0 : ∀ k, k ≠ T → m6 k = m k := fun k hk => by rw [hm6, rwr_ne _ _ _ hk]
  have cT : ∀ j, j < 8 → m6 T j = m (700 + 20 * p) j := fun j hj => by rw [hm6, rwr_same]; exact if_pos hj
  have cK : m6 T 100000 = 5 := by rw [hm6, rwr_same]; rfl
  refine v_st (st' := [.ref (ad6 T)]) rfl ?_
  refine v_lo (lo' := [some (.ref (ad6 600)), some (.int (nI p)), none, none, none, none, none, none, none, none]) (by rw [hA6 600 (by omega)]) ?_
  refine v_astore_n (lo' := [some (.ref (ad6 600)), some (.int (nI p)), some (.ref (ad6 T)), none, none, none, none, none, none, none]) (C.wl _ _) dX5_tried_9 rfl (Nat.le_of_ble_eq_true rfl) rfl rfl ?_
  refine v_aload_n (C.wl _ _) dX5_tried_10 rfl rfl ?_
  refine l_get (k := T) C inG4 (ci := 5) rfl 3 (by decide) (tg2 186 rfl rfl) rfl ⟨by omega, by omega⟩ (cW_5 cK) rfl dX5_tried_11 ?_
  refine v_topi (y := s 15 p) ((cT 3 (by decide)).trans q5) ?_
  refine v_if_ne (tgt := 25) (C.wl _ _) dX5_tried_14 (by decide) (fun h14 => ?_) (fun h14 => ?_)
  · have hno : plO s p = none := by unfold plO plM; rw [if_pos (Or.inl (h01.resolve_left h14))]
    refine l_drop (ad0 := ad6) hF (fun _ _ => rfl) (fun k _ hk => c0 k (by omega)) ?_
    refine v_null (C.wl _ _) dX5_tried_25 ?_
    refine v_wide (k := 60) (n := 600) (Nat.le_of_ble_eq_true rfl) (Nat.le_of_ble_eq_true rfl) ?_
    exact ret _ _ none _ _ _ dX5_tried_26 ⟨by rw [hno]; exact ⟨rfl, rfl⟩, hA6, rfl⟩
  · have h15 : ¬ s 15 p = 1 := by rw [h14]; decide
    refine v_aload_n (C.wl _ _) dX5_tried_17 rfl rfl ?_
    refine l_get (k := T) C inG4 (ci := 5) rfl 2 (by decide) (tg2 183 rfl rfl) rfl ⟨by omega, by omega⟩ (cW_5 cK) (ps_r (by decide) ((cT 2 (by decide)).trans q4) ⟨by omega, by omega⟩) dX5_tried_18 ?_
    refine l_len (k := 701 + 20 * p) (n := nlO s p) C ⟨by omega, by omega⟩ (Or.inr (Or.inl ((congrFun (c0 _ (by omega)) _).trans hPL.1.1))) ((congrFun (c0 _ (by omega)) _).trans hPL.1.2) (by omega) dX5_tried_21 ?_
    refine v_if_ne (tgt := 27) (C.wl _ _) dX5_tried_22 (by decide) (fun h22 => ?_) (fun h22 => ?_)
    · have hnl0 : ¬ nlO s p = 0 := fun z => h22 (by rw [z]; rfl)
      refine v_aload_n (C.wl _ _) dX5_tried_27 rfl rfl ?_
      refine l_get (k := 600) C inG5 (ci := 6) rfl 3 (by decide) (tg5 7 rfl rfl) rfl ⟨by decide, by decide⟩ (cW_6 ((congrFun (c0 _ (by omega)) _).trans hR.1.1)) (sm_r (by decide) ((congrFun (c0 _ (by omega)) _).trans hR.1.2.2.2.2.1) ⟨by decide, by decide⟩) dX5_tried_28 ?_
      refine l_len (k := 602) (n := nfO s) C ⟨by decide, by decide⟩ (Or.inr (Or.inr (Or.inl ((congrFun (c0 _ (by omega)) _).trans hR.2.1.2.1.1.1)))) ((congrFun (c0 _ (by omega)) _).trans hR.2.1.2.1.1.2) (by omega) dX5_tried_31 ?_
      refine v_bipush (v := 10) (C.wl _ _) dX5_tried_32 (by decide) ?_
      refine l_multi2 (T := T + 1) (N := nfO s) (K := 10) C hW9.L hF6 (by omega) (by decide) (tg2 212 rfl rfl) (by show 0 + 5 + (1 + nfO s) ≤ 60; omega) (by show 0 + 20 + (nfO s + nfO s * 10) ≤ 600; omega) dX5_tried_34 (fun ad34 hA34 => ?_)
      have hF34 := Fr_m2M (N := nfO s) (K := 10) hF6 (by omega) (by omega)
      generalize hm34 : m2M m6 (T + 1) (nfO s) 10 = m34 at hF34 ⊢
      have d0 : ∀ k, k < T + 1 → m34 k = m6 k := fun k hk => by rw [← hm34]; unfold m2M mM; rw [rwr_ne _ _ _ (by omega), if_neg (by omega)]
      have d1 : ∀ f, f < nfO s → m34 (T + 1 + f) = rN 1 10 := fun f hf => by rw [← hm34]; unfold m2M mM; rw [rwr_ne _ _ _ (by omega), if_pos (by omega)]
      have d2 : m34 (T + 1 + nfO s) = rO (T + 1) (nfO s) := by rw [← hm34]; unfold m2M; rw [rwr_same]
      have d3 : ∀ f, f < nfO s → rO (T + 1) (nfO s) f = nI (T + 1 + f) := fun f hf => by unfold rO; rw [if_neg (by omega), if_neg (by omega), if_pos hf]
      refine v_lo (lo' := [some (.ref (ad34 600)), some (.int (nI p)), some (.ref (ad34 T)), none, none, none, none, none, none, none]) (by rw [hA34 600 (by omega), hA34 T (by omega)]) ?_
      refine v_astore_n (lo' := [some (.ref (ad34 600)), some (.int (nI p)), some (.ref (ad34 T)), some (.ref (ad34 (T + 1 + nfO s))), none, none, none, none, none, none]) (C.wl _ _) dX5_tried_38 rfl (Nat.le_of_ble_eq_true rfl) rfl rfl ?_
      refine v_iconst (v := 0) (C.wl _ _) dX5_tried_39 (by decide) ?_
      refine v_istore (lo' := [some (.ref (ad34 600)), some (.int (nI p)), some (.ref (ad34 T)), some (.ref (ad34 (T + 1 + nfO s))), some (.int 0), none, none, none, none, none]) (C.wl _ _) dX5_tried_40 (Nat.le_of_ble_eq_true rfl) rfl rfl ?_
      have hE : ∀ (m3 : MG), (∀ q, (q < T + 1 ∨ T + 1 + nfO s ≤ q) → m3 q = m34 q) → (∀ f j, f < nfO s → 10 ≤ j → m3 (T + 1 + f) j = m34 (T + 1 + f) j) → (∀ f d, f < nfO s → d < 10 → m3 (T + 1 + f) d = s 6 (10 * f + d) - s 7 (10 * f + d)) → Fr m3 (T + 1 + nfO s + 1) → ∀ v5 : Option Value, V P (rmz 3 120 60 600) (Z.wl ad34 m3) [some (.ref (ad34 600)), some (.int (nI p)), some (.ref (ad34 T)), some (.ref (ad34 (T + 1 + nfO s))), some (.int (nI (nfO s))), v5, none, none, none, none] 106 [] g6 (0 + 5 + 1 + nfO s) (0 + 20 + nfO s + nfO s * 10) := ?_
      · have loopF : ∀ (n f : Nat) (m3 : MG) (v5 : Option Value), nfO s - f < n → f ≤ nfO s → (∀ q, (q < T + 1 ∨ T + 1 + nfO s ≤ q) → m3 q = m34 q) → (∀ f j, f < nfO s → 10 ≤ j → m3 (T + 1 + f) j = m34 (T + 1 + f) j) → (∀ f' d, f' < f → d < 10 → m3 (T + 1 + f') d = s 6 (10 * f' + d) - s 7 (10 * f' + d)) → Fr m3 (T + 1 + nfO s + 1) → V P (rmz 3 120 60 600) (Z.wl ad34 m3) [some (.ref (ad34 600)), some (.int (nI p)), some (.ref (ad34 T)), some (.ref (ad34 (T + 1 + nfO s))), some (.int (nI f)), v5, none, none, none, none] 42 [] g6 (0 + 5 + 1 + nfO s) (0 + 20 + nfO s + nfO s * 10) := by
          intro n
          induction n with
          | zero => intro f m3 v5 hn; exact absurd hn (Nat.not_lt_zero _)
          | succ n ihF =>
            intro f m3 v5 hn hf w0 w1 w2 hF3
            refine v_iload (C.wl _ _) dX5_tried_42 rfl ?_
            refine v_aload_n (C.wl _ _) dX5_tried_44 rfl rfl ?_
            refine l_get (k := 600) C inG5 (ci := 6) rfl 3 (by decide) (tg5 7 rfl rfl) rfl ⟨by decide, by decide⟩ (cW_6 ((congrFun (w0 _ (Or.inl (by omega))) _).trans ((congrFun (d0 _ (by omega)) _).trans ((congrFun (c0 _ (by omega)) _).trans hR.1.1)))) (sm_r (by decide) ((congrFun (w0 _ (Or.inl (by omega))) _).trans ((congrFun (d0 _ (by omega)) _).trans ((congrFun (c0 _ (by omega)) _).trans hR.1.2.2.2.2.1))) ⟨by decide, by decide⟩) dX5_tried_45 ?_
            refine l_len (k := 602) (n := nfO s) C ⟨by decide, by decide⟩ (Or.inr (Or.inr (Or.inl ((congrFun (w0 _ (Or.inl (by omega))) _).trans ((congrFun (d0 _ (by omega)) _).trans ((congrFun (c0 _ (by omega)) _).trans hR.2.1.2.1.1.1)))))) ((congrFun (w0 _ (Or.inl (by omega))) _).trans ((congrFun (d0 _ (by omega)) _).trans ((congrFun (c0 _ (by omega)) _).trans hR.2.1.2.1.1.2))) (by omega) dX5_tried_48 ?_
            refine v_icmp_ge (tgt := 106) (C.wl _ _) dX5_tried_49 (by decide) (fun h49 => ?_) (fun h49 => ?_)
            · have hkn49 : f = nfO s := Nat.le_antisymm hf ((nI_leI (by omega) (by omega)).mp h49)
              subst hkn49
              exact hE m3 w0 w1 w2 hF3 v5
            · have hkn49 : f < nfO s := Nat.lt_of_not_le fun q => h49 ((nI_leI (by omega) (by omega)).mpr q)
              refine v_iconst (v := 0) (C.wl _ _) dX5_tried_52 (by decide) ?_
              refine v_istore (lo' := [some (.ref (ad34 600)), some (.int (nI p)), some (.ref (ad34 T)), some (.ref (ad34 (T + 1 + nfO s))), some (.int (nI f)), some (.int 0), none, none, none, none]) (C.wl _ _) dX5_tried_53 (Nat.le_of_ble_eq_true rfl) rfl rfl ?_
              have loopK : ∀ (n k : Nat) (m3 : MG), 10 - k < n → k ≤ 10 → (∀ q, (q < T + 1 ∨ T + 1 + nfO s ≤ q) → m3 q = m34 q) → (∀ f j, f < nfO s → 10 ≤ j → m3 (T + 1 + f) j = m34 (T + 1 + f) j) → (∀ f' d, f' < nfO s → d < 10 → (f' < f ∨ (f' = f ∧ d < k)) → m3 (T + 1 + f') d = s 6 (10 * f' + d) - s 7 (10 * f' + d)) → Fr m3 (T + 1 + nfO s + 1) → V P (rmz 3 120 60 600) (Z.wl ad34 m3) [some (.ref (ad34 600)), some (.int (nI p)), some (.ref (ad34 T)), some (.ref (ad34 (T + 1 + nfO s))), some (.int (nI f)), some (.int (nI k)), none, none, none, none] 55 [] g6 (0 + 5 + 1 + nfO s) (0 + 20 + nfO s + nfO s * 10) := by
                intro n2
                induction n2 with
                | zero => intro k m3 hn; exact absurd hn (Nat.not_lt_zero _)
                | succ n2 ihK =>
                  intro k m3 hn2 hk w0 w1 w2 hF3
                  refine v_iload (C.wl _ _) dX5_tried_55 rfl ?_
                  refine v_bipush (v := 10) (C.wl _ _) dX5_tried_57 (by decide) ?_
                  refine v_topi (y := nI 10) rfl ?_
                  refine v_icmp_ge (tgt := 100) (C.wl _ _) dX5_tried_59 (by decide) (fun h59 => ?_) (fun h59 => ?_)
                  · have hkn59 : k = 10 := Nat.le_antisymm hk ((nI_leI (by omega) (by omega)).mp h59)
                    subst hkn59
                    refine v_iinc (lo' := [some (.ref (ad34 600)), some (.int (nI p)), some (.ref (ad34 T)), some (.ref (ad34 (T + 1 + nfO s))), some (.int ((nI f) + 1)), some (.int (nI 10)), none, none, none, none]) (C.wl _ _) dX5_tried_100 rfl rfl rfl rfl ?_
                    refine v_goto (tgt := 42) (C.wl _ _) dX5_tried_103 (by decide) ?_
                    refine v_lo (lo' := [some (.ref (ad34 600)), some (.int (nI p)), some (.ref (ad34 T)), some (.ref (ad34 (T + 1 + nfO s))), some (.int (nI (f + 1))), some (.int (nI 10)), none, none, none, none]) (by rw [nI_succ f]) ?_
                    exact ihF (f + 1) m3 _ (by omega) (by omega) w0 w1 (fun f' d hf' hd => w2 f' d (by omega) hd (by omega)) hF3
                  · have hkn59 : k < 10 := Nat.lt_of_not_le fun q => h59 ((nI_leI (by omega) (by omega)).mpr q)
                    refine v_aload_n (C.wl _ _) dX5_tried_62 rfl rfl ?_
                    refine v_iload (C.wl _ _) dX5_tried_63 rfl ?_
                    refine l_aald (k := T + 1 + nfO s) (n := nfO s) (a := f) (k2 := T + 1 + f) C ⟨by omega, by omega⟩ (Or.inl ((congrFun ((w0 _ (Or.inr (by omega))).trans d2) _).trans rfl)) ((congrFun ((w0 _ (Or.inr (by omega))).trans d2) _).trans rfl) (by omega) ((congrFun ((w0 _ (Or.inr (by omega))).trans d2) _).trans (d3 _ hkn49)) ⟨by omega, by omega⟩ dX5_tried_65 ?_
                    refine v_iload (C.wl _ _) dX5_tried_66 rfl ?_
                    refine v_aload_n (C.wl _ _) dX5_tried_68 rfl rfl ?_
                    refine l_get (k := 600) C inG5 (ci := 6) rfl 3 (by decide) (tg5 7 rfl rfl) rfl ⟨by decide, by decide⟩ (cW_6 ((congrFun (w0 _ (Or.inl (by omega))) _).trans ((congrFun (d0 _ (by omega)) _).trans ((congrFun (c0 _ (by omega)) _).trans hR.1.1)))) (sm_r (by decide) ((congrFun (w0 _ (Or.inl (by omega))) _).trans ((congrFun (d0 _ (by omega)) _).trans ((congrFun (c0 _ (by omega)) _).trans hR.1.2.2.2.2.1))) ⟨by decide, by decide⟩) dX5_tried_69 ?_
                    refine v_iload (C.wl _ _) dX5_tried_72 rfl ?_
                    refine l_aald (k := 602) (n := nfO s) (a := f) (k2 := 610 + f) C ⟨by decide, by decide⟩ (Or.inr (Or.inl ((congrFun (w0 _ (Or.inl (by omega))) _).trans ((congrFun (d0 _ (by omega)) _).trans ((congrFun (c0 _ (by omega)) _).trans hR.2.1.2.1.1.1))))) ((congrFun (w0 _ (Or.inl (by omega))) _).trans ((congrFun (d0 _ (by omega)) _).trans ((congrFun (c0 _ (by omega)) _).trans hR.2.1.2.1.1.2))) (by omega) ((congrFun (w0 _ (Or.inl (by omega))) _).trans ((congrFun (d0 _ (by omega)) _).trans ((congrFun (c0 _ (by omega)) _).trans (hR.2.1.2.1.2 _ hkn49)))) ⟨by omega, by omega⟩ dX5_tried_74 ?_
                    refine v_iload (C.wl _ _) dX5_tried_75 rfl ?_
                    refine l_aald (k := 610 + f) (n := 10) (a := k) (k2 := 620 + (10 * f + k)) C ⟨by omega, by omega⟩ (Or.inl ((congrFun (w0 _ (Or.inl (by omega))) _).trans ((congrFun (d0 _ (by omega)) _).trans ((congrFun (c0 _ (by omega)) _).trans (hR.2.1.2.2 _ hkn49).1.1)))) ((congrFun (w0 _ (Or.inl (by omega))) _).trans ((congrFun (d0 _ (by omega)) _).trans ((congrFun (c0 _ (by omega)) _).trans (hR.2.1.2.2 _ hkn49).1.2))) (by omega) (((congrFun (w0 _ (Or.inl (by omega))) _).trans ((congrFun (d0 _ (by omega)) _).trans ((congrFun (c0 _ (by omega)) _).trans ((hR.2.1.2.2 _ hkn49).2 _ hkn59)))).trans (congrArg nI (Nat.add_assoc _ _ _))) ⟨by omega, by omega⟩ dX5_tried_77 ?_
                    refine v_iconst (v := 0) (C.wl _ _) dX5_tried_78 (by decide) ?_
                    refine l_iald (k := 620 + (10 * f + k)) (n := 3) (a := 0) C ⟨by omega, by omega⟩ ((congrFun (w0 _ (Or.inl (by omega))) _).trans ((congrFun (d0 _ (by omega)) _).trans ((congrFun (c0 _ (by omega)) _).trans ((Nat.add_assoc 620 (10 * f) k) ▸ hR.2.2.1 _ _ hkn49 hkn59).1.1))) ((congrFun (w0 _ (Or.inl (by omega))) _).trans ((congrFun (d0 _ (by omega)) _).trans ((congrFun (c0 _ (by omega)) _).trans ((Nat.add_assoc 620 (10 * f) k) ▸ hR.2.2.1 _ _ hkn49 hkn59).1.2))) (by decide) dX5_tried_79 ?_
                    refine v_topi (y := s 6 (10 * f + k)) ((congrFun (w0 _ (Or.inl (by omega))) _).trans ((congrFun (d0 _ (by omega)) _).trans ((congrFun (c0 _ (by omega)) _).trans ((Nat.add_assoc 620 (10 * f) k) ▸ (hR.2.2.1 _ _ hkn49 hkn59).2.1)))) ?_
                    refine v_aload_n (C.wl _ _) dX5_tried_80 rfl rfl ?_
                    refine l_get (k := 600) C inG5 (ci := 6) rfl 3 (by decide) (tg5 7 rfl rfl) rfl ⟨by decide, by decide⟩ (cW_6 ((congrFun (w0 _ (Or.inl (by omega))) _).trans ((congrFun (d0 _ (by omega)) _).trans ((congrFun (c0 _ (by omega)) _).trans hR.1.1)))) (sm_r (by decide) ((congrFun (w0 _ (Or.inl (by omega))) _).trans ((congrFun (d0 _ (by omega)) _).trans ((congrFun (c0 _ (by omega)) _).trans hR.1.2.2.2.2.1))) ⟨by decide, by decide⟩) dX5_tried_81 ?_
                    refine v_iload (C.wl _ _) dX5_tried_84 rfl ?_
                    refine l_aald (k := 602) (n := nfO s) (a := f) (k2 := 610 + f) C ⟨by decide, by decide⟩ (Or.inr (Or.inl ((congrFun (w0 _ (Or.inl (by omega))) _).trans ((congrFun (d0 _ (by omega)) _).trans ((congrFun (c0 _ (by omega)) _).trans hR.2.1.2.1.1.1))))) ((congrFun (w0 _ (Or.inl (by omega))) _).trans ((congrFun (d0 _ (by omega)) _).trans ((congrFun (c0 _ (by omega)) _).trans hR.2.1.2.1.1.2))) (by omega) ((congrFun (w0 _ (Or.inl (by omega))) _).trans ((congrFun (d0 _ (by omega)) _).trans ((congrFun (c0 _ (by omega)) _).trans (hR.2.1.2.1.2 _ hkn49)))) ⟨by omega, by omega⟩ dX5_tried_86 ?_
                    refine v_iload (C.wl _ _) dX5_tried_87 rfl ?_
                    refine l_aald (k := 610 + f) (n := 10) (a := k) (k2 := 620 + (10 * f + k)) C ⟨by omega, by omega⟩ (Or.inl ((congrFun (w0 _ (Or.inl (by omega))) _).trans ((congrFun (d0 _ (by omega)) _).trans ((congrFun (c0 _ (by omega)) _).trans (hR.2.1.2.2 _ hkn49).1.1)))) ((congrFun (w0 _ (Or.inl (by omega))) _).trans ((congrFun (d0 _ (by omega)) _).trans ((congrFun (c0 _ (by omega)) _).trans (hR.2.1.2.2 _ hkn49).1.2))) (by omega) (((congrFun (w0 _ (Or.inl (by omega))) _).trans ((congrFun (d0 _ (by omega)) _).trans ((congrFun (c0 _ (by omega)) _).trans ((hR.2.1.2.2 _ hkn49).2 _ hkn59)))).trans (congrArg nI (Nat.add_assoc _ _ _))) ⟨by omega, by omega⟩ dX5_tried_89 ?_
                    refine v_iconst (v := 1) (C.wl _ _) dX5_tried_90 (by decide) ?_
                    refine l_iald (k := 620 + (10 * f + k)) (n := 3) (a := 1) C ⟨by omega, by omega⟩ ((congrFun (w0 _ (Or.inl (by omega))) _).trans ((congrFun (d0 _ (by omega)) _).trans ((congrFun (c0 _ (by omega)) _).trans ((Nat.add_assoc 620 (10 * f) k) ▸ hR.2.2.1 _ _ hkn49 hkn59).1.1))) ((congrFun (w0 _ (Or.inl (by omega))) _).trans ((congrFun (d0 _ (by omega)) _).trans ((congrFun (c0 _ (by omega)) _).trans ((Nat.add_assoc 620 (10 * f) k) ▸ hR.2.2.1 _ _ hkn49 hkn59).1.2))) (by decide) dX5_tried_91 ?_
                    refine v_topi (y := s 7 (10 * f + k)) ((congrFun (w0 _ (Or.inl (by omega))) _).trans ((congrFun (d0 _ (by omega)) _).trans ((congrFun (c0 _ (by omega)) _).trans ((Nat.add_assoc 620 (10 * f) k) ▸ (hR.2.2.1 _ _ hkn49 hkn59).2.2.1)))) ?_
                    refine v_isub (C.wl _ _) dX5_tried_92 ?_
                    refine l_iast (k := T + 1 + f) (n := 10) (a := k) C ⟨by omega, by omega⟩ ((w1 _ _ hkn49 (by decide)).trans ((congrFun (d1 _ hkn49) _).trans (rN_k _ _))) ((w1 _ _ hkn49 (by decide)).trans ((congrFun (d1 _ hkn49) _).trans (rN_l _ _))) (by omega) dX5_tried_93 ?_
                    refine v_iinc (lo' := [some (.ref (ad34 600)), some (.int (nI p)), some (.ref (ad34 T)), some (.ref (ad34 (T + 1 + nfO s))), some (.int (nI f)), some (.int ((nI k) + 1)), none, none, none, none]) (C.wl _ _) dX5_tried_94 rfl rfl rfl rfl ?_
                    refine v_goto (tgt := 55) (C.wl _ _) dX5_tried_97 (by decide) ?_
                    refine v_lo (lo' := [some (.ref (ad34 600)), some (.int (nI p)), some (.ref (ad34 T)), some (.ref (ad34 (T + 1 + nfO s))), some (.int (nI f)), some (.int (nI (k + 1))), none, none, none, none]) (by rw [nI_succ k]) ?_
                    exact ihK (k + 1) _ (by omega) (by omega) (fun q hq => by rw [wr_row _ _ _ _ (by omega)]; exact w0 q hq) (fun f' j hf' hj => by rw [wr_ne _ _ _ _ (Or.inr (by omega))]; exact w1 f' j hf' hj) (fun f' d hf' hd hfd => by
                      by_cases hx : f' = f ∧ d = k
                      · rw [hx.1, hx.2, wr_same]
                      · rw [wr_ne _ _ _ _ (by omega)]; exact w2 f' d hf' hd (by omega)) (hF3.wi (by omega) (by omega) ((w1 _ _ hkn49 (by decide)).trans ((congrFun (d1 _ hkn49) _).trans (rN_k _ _))))
              exact loopK _ 0 m3 (Nat.lt_succ_self _) (Nat.zero_le _) w0 w1 (fun f' d hf' hd hfd => w2 f' d (by omega) hd) hF3
        exact loopF _ 0 m34 _ (Nat.lt_succ_self _) (Nat.zero_le _) (fun _ _ => rfl) (fun _ _ _ _ => rfl) (fun f' d hf' => absurd hf' (Nat.not_lt_zero _)) hF34
      intro m3 w0 w1 w2 hF3 v5
      have hF3 : Fr m3 (T + nfO s + 2) := by rw [show T + nfO s + 2 = T + 1 + nfO s + 1 by omega]; exact hF3
      refine v_aload_n (C.wl _ _) dX5_tried_106 rfl rfl ?_
      refine v_aload_n (C.wl _ _) dX5_tried_107 rfl rfl ?_
      refine l_get (k := T) C inG4 (ci := 5) rfl 2 (by decide) (tg2 183 rfl rfl) rfl ⟨by omega, by omega⟩ (cW_5 ((congrFun (w0 _ (by omega)) _).trans ((congrFun (d0 _ (by omega)) _).trans cK))) (ps_r (by decide) ((congrFun (w0 _ (by omega)) _).trans ((congrFun (d0 _ (by omega)) _).trans ((cT 2 (by decide)).trans q4))) ⟨by omega, by omega⟩) dX5_tried_108 ?_
      refine l_len (k := 701 + 20 * p) (n := nlO s p) C ⟨by omega, by omega⟩ (Or.inr (Or.inl ((congrFun (w0 _ (by omega)) _).trans ((congrFun (d0 _ (by omega)) _).trans ((congrFun (c0 _ (by omega)) _).trans hPL.1.1))))) ((congrFun (w0 _ (by omega)) _).trans ((congrFun (d0 _ (by omega)) _).trans ((congrFun (c0 _ (by omega)) _).trans hPL.1.2))) (by omega) dX5_tried_111 ?_
      refine l_newi (T := T + nfO s + 2) (N := (nlO s p)) C hF3 (by omega) (by omega) dX5_tried_112 (by show _ ≤ 60; omega) (by show _ ≤ 600; omega) (fun ad112 hA112 => ?_)
      have hF112 := hF3.new (by omega) (rN_R (kd := 1) (n := (nlO s p)) (by omega) (by decide) (by omega))
      refine v_lo (lo' := [some (.ref (ad112 600)), some (.int (nI p)), some (.ref (ad112 T)), some (.ref (ad112 (T + 1 + nfO s))), some (.int (nI (nfO s))), v5, none, none, none, none]) (by rw [hA112 600 (by omega), hA112 T (by omega), hA112 (T + 1 + nfO s) (by omega)]) ?_
      refine v_st (st' := [.ref (ad112 (T + nfO s + 2)), .ref (ad112 T)]) (by rw [hA112 T (by omega)]) ?_
      refine l_put (k := T) (x := nI (T + nfO s + 2)) C inG4 (ci := 5) rfl tyX4 tyX4_ok nmX4 5 (by decide) (tg2 190 rfl rfl) rfl rfl rfl rfl rfl ⟨by omega, by omega⟩ (cW_5 ((congrFun (rwr_ne _ _ _ (by omega)) _).trans ((congrFun (w0 _ (by omega)) _).trans ((congrFun (d0 _ (by omega)) _).trans cK)))) (Nat.le_of_ble_eq_true rfl) ((cW_5 (show upd (rwr m3 (T + nfO s + 2) (rN 1 (nlO s p)) T) 5 (nI (T + nfO s + 2)) 100000 = 5 from (if_neg (by decide : ¬ (100000 : Nat) = 5)).trans ((congrFun (rwr_ne _ _ _ (by omega)) _).trans ((congrFun (w0 _ (by omega)) _).trans ((congrFun (d0 _ (by omega)) _).trans cK))))).trans (congrArg (fun q => some (Sum.inr (5, q))) (ps_put (by decide) ⟨by omega, by omega⟩))) dX5_tried_114 ?_
      have hF114w := hF112.wn (k := T) (j := 5) (k2 := T + nfO s + 2) (by omega) (by omega) (by omega)
      refine v_aload_n (C.wl _ _) dX5_tried_117 rfl rfl ?_
      refine v_aload_n (C.wl _ _) dX5_tried_118 rfl rfl ?_
      refine l_get (k := T) C inG4 (ci := 5) rfl 2 (by decide) (tg2 183 rfl rfl) rfl ⟨by omega, by omega⟩ (cW_5 ((wr_ne _ _ _ _ (by omega)).trans ((congrFun (rwr_ne _ _ _ (by omega)) _).trans ((congrFun (w0 _ (by omega)) _).trans ((congrFun (d0 _ (by omega)) _).trans cK))))) (ps_r (by decide) ((wr_ne _ _ _ _ (by omega)).trans ((congrFun (rwr_ne _ _ _ (by omega)) _).trans ((congrFun (w0 _ (by omega)) _).trans ((congrFun (d0 _ (by omega)) _).trans ((cT 2 (by decide)).trans q4))))) ⟨by omega, by omega⟩) dX5_tried_119 ?_
      refine l_len (k := 701 + 20 * p) (n := nlO s p) C ⟨by omega, by omega⟩ (Or.inr (Or.inl ((wr_ne _ _ _ _ (by omega)).trans ((congrFun (rwr_ne _ _ _ (by omega)) _).trans ((congrFun (w0 _ (by omega)) _).trans ((congrFun (d0 _ (by omega)) _).trans ((congrFun (c0 _ (by omega)) _).trans hPL.1.1))))))) ((wr_ne _ _ _ _ (by omega)).trans ((congrFun (rwr_ne _ _ _ (by omega)) _).trans ((congrFun (w0 _ (by omega)) _).trans ((congrFun (d0 _ (by omega)) _).trans ((congrFun (c0 _ (by omega)) _).trans hPL.1.2))))) (by omega) dX5_tried_122 ?_
      refine l_newi (T := T + nfO s + 3) (N := (nlO s p)) C hF114w (by omega) (by omega) dX5_tried_123 (by show _ ≤ 60; omega) (by show _ ≤ 600; omega) (fun ad123 hA123 => ?_)
      have hF123 := hF114w.new (by omega) (rN_R (kd := 1) (n := (nlO s p)) (by omega) (by decide) (by omega))
      refine v_lo (lo' := [some (.ref (ad123 600)), some (.int (nI p)), some (.ref (ad123 T)), some (.ref (ad123 (T + 1 + nfO s))), some (.int (nI (nfO s))), v5, none, none, none, none]) (by rw [hA123 600 (by omega), hA123 T (by omega), hA123 (T + 1 + nfO s) (by omega)]) ?_
      refine v_st (st' := [.ref (ad123 (T + nfO s + 3)), .ref (ad123 T)]) (by rw [hA123 T (by omega)]) ?_
      refine l_put (k := T) (x := nI (T + nfO s + 3)) C inG4 (ci := 5) rfl tyX4 tyX4_ok nmX4 6 (by decide) (tg2 192 rfl rfl) rfl rfl rfl rfl rfl ⟨by omega, by omega⟩ (cW_5 ((congrFun (rwr_ne _ _ _ (by omega)) _).trans ((wr_ne _ _ _ _ (by omega)).trans ((congrFun (rwr_ne _ _ _ (by omega)) _).trans ((congrFun (w0 _ (by omega)) _).trans ((congrFun (d0 _ (by omega)) _).trans cK)))))) (Nat.le_of_ble_eq_true rfl) ((cW_5 (show upd (rwr (wr (rwr m3 (T + nfO s + 2) (rN 1 (nlO s p))) T 5 (nI (T + nfO s + 2))) (T + nfO s + 3) (rN 1 (nlO s p)) T) 6 (nI (T + nfO s + 3)) 100000 = 5 from (if_neg (by decide : ¬ (100000 : Nat) = 6)).trans ((congrFun (rwr_ne _ _ _ (by omega)) _).trans ((wr_ne _ _ _ _ (by omega)).trans ((congrFun (rwr_ne _ _ _ (by omega)) _).trans ((congrFun (w0 _ (by omega)) _).trans ((congrFun (d0 _ (by omega)) _).trans cK))))))).trans (congrArg (fun q => some (Sum.inr (5, q))) (ps_put (by decide) ⟨by omega, by omega⟩))) dX5_tried_125 ?_
      have hF125w := hF123.wn (k := T) (j := 6) (k2 := T + nfO s + 3) (by omega) (by omega) (by omega)
      refine v_aload_n (C.wl _ _) dX5_tried_128 rfl rfl ?_
      refine v_aload_n (C.wl _ _) dX5_tried_129 rfl rfl ?_
      refine l_get (k := T) C inG4 (ci := 5) rfl 2 (by decide) (tg2 183 rfl rfl) rfl ⟨by omega, by omega⟩ (cW_5 ((wr_ne _ _ _ _ (by omega)).trans ((congrFun (rwr_ne _ _ _ (by omega)) _).trans ((wr_ne _ _ _ _ (by omega)).trans ((congrFun (rwr_ne _ _ _ (by omega)) _).trans ((congrFun (w0 _ (by omega)) _).trans ((congrFun (d0 _ (by omega)) _).trans cK))))))) (ps_r (by decide) ((wr_ne _ _ _ _ (by omega)).trans ((congrFun (rwr_ne _ _ _ (by omega)) _).trans ((wr_ne _ _ _ _ (by omega)).trans ((congrFun (rwr_ne _ _ _ (by omega)) _).trans ((congrFun (w0 _ (by omega)) _).trans ((congrFun (d0 _ (by omega)) _).trans ((cT 2 (by decide)).trans q4))))))) ⟨by omega, by omega⟩) dX5_tried_130 ?_
      refine l_len (k := 701 + 20 * p) (n := nlO s p) C ⟨by omega, by omega⟩ (Or.inr (Or.inl ((wr_ne _ _ _ _ (by omega)).trans ((congrFun (rwr_ne _ _ _ (by omega)) _).trans ((wr_ne _ _ _ _ (by omega)).trans ((congrFun (rwr_ne _ _ _ (by omega)) _).trans ((congrFun (w0 _ (by omega)) _).trans ((congrFun (d0 _ (by omega)) _).trans ((congrFun (c0 _ (by omega)) _).trans hPL.1.1))))))))) ((wr_ne _ _ _ _ (by omega)).trans ((congrFun (rwr_ne _ _ _ (by omega)) _).trans ((wr_ne _ _ _ _ (by omega)).trans ((congrFun (rwr_ne _ _ _ (by omega)) _).trans ((congrFun (w0 _ (by omega)) _).trans ((congrFun (d0 _ (by omega)) _).trans ((congrFun (c0 _ (by omega)) _).trans hPL.1.2))))))) (by omega) dX5_tried_133 ?_
      refine l_newA (T := T + nfO s + 4) (N := (nlO s p)) C hW9.L hF125w (by omega) (by omega) (tg2 213 rfl rfl) dX5_tried_134 (by show _ ≤ 60; omega) (by show _ ≤ 600; omega) (fun ad134 hA134 => ?_)
      have hF134 := hF125w.new (by omega) (rN_R (kd := 2) (n := (nlO s p)) (by omega) (by decide) (by omega))
      refine v_lo (lo' := [some (.ref (ad134 600)), some (.int (nI p)), some (.ref (ad134 T)), some (.ref (ad134 (T + 1 + nfO s))), some (.int (nI (nfO s))), v5, none, none, none, none]) (by rw [hA134 600 (by omega), hA134 T (by omega), hA134 (T + 1 + nfO s) (by omega)]) ?_
      refine v_st (st' := [.ref (ad134 (T + nfO s + 4)), .ref (ad134 T)]) (by rw [hA134 T (by omega)]) ?_
      refine l_put (k := T) (x := nI (T + nfO s + 4)) C inG4 (ci := 5) rfl tyX4 tyX4_ok nmX4 7 (by decide) (tg2 194 rfl rfl) rfl rfl rfl rfl rfl ⟨by omega, by omega⟩ (cW_5 ((congrFun (rwr_ne _ _ _ (by omega)) _).trans ((wr_ne _ _ _ _ (by omega)).trans ((congrFun (rwr_ne _ _ _ (by omega)) _).trans ((wr_ne _ _ _ _ (by omega)).trans ((congrFun (rwr_ne _ _ _ (by omega)) _).trans ((congrFun (w0 _ (by omega)) _).trans ((congrFun (d0 _ (by omega)) _).trans cK)))))))) (Nat.le_of_ble_eq_true rfl) ((cW_5 (show upd (rwr (wr (rwr (wr (rwr m3 (T + nfO s + 2) (rN 1 (nlO s p))) T 5 (nI (T + nfO s + 2))) (T + nfO s + 3) (rN 1 (nlO s p))) T 6 (nI (T + nfO s + 3))) (T + nfO s + 4) (rN 2 (nlO s p)) T) 7 (nI (T + nfO s + 4)) 100000 = 5 from (if_neg (by decide : ¬ (100000 : Nat) = 7)).trans ((congrFun (rwr_ne _ _ _ (by omega)) _).trans ((wr_ne _ _ _ _ (by omega)).trans ((congrFun (rwr_ne _ _ _ (by omega)) _).trans ((wr_ne _ _ _ _ (by omega)).trans ((congrFun (rwr_ne _ _ _ (by omega)) _).trans ((congrFun (w0 _ (by omega)) _).trans ((congrFun (d0 _ (by omega)) _).trans cK))))))))).trans (congrArg (fun q => some (Sum.inr (5, q))) (ps_put (by decide) ⟨by omega, by omega⟩))) dX5_tried_137 ?_
      have hF137w := hF134.wn (k := T) (j := 7) (k2 := T + nfO s + 4) (by omega) (by omega) (by omega)
      refine v_aload_n (C.wl _ _) dX5_tried_140 rfl rfl ?_
      refine v_iconst (v := 1) (C.wl _ _) dX5_tried_141 (by decide) ?_
      refine l_put (k := T) (x := 1) C inG4 (ci := 5) rfl tyX4 tyX4_ok nmX4 3 (by decide) (tg2 186 rfl rfl) rfl rfl rfl rfl rfl ⟨by omega, by omega⟩ (cW_5 ((wr_ne _ _ _ _ (by omega)).trans ((congrFun (rwr_ne _ _ _ (by omega)) _).trans ((wr_ne _ _ _ _ (by omega)).trans ((congrFun (rwr_ne _ _ _ (by omega)) _).trans ((wr_ne _ _ _ _ (by omega)).trans ((congrFun (rwr_ne _ _ _ (by omega)) _).trans ((congrFun (w0 _ (by omega)) _).trans ((congrFun (d0 _ (by omega)) _).trans cK))))))))) (Nat.le_of_ble_eq_true rfl) ((cW_5 (show upd (wr (rwr (wr (rwr (wr (rwr m3 (T + nfO s + 2) (rN 1 (nlO s p))) T 5 (nI (T + nfO s + 2))) (T + nfO s + 3) (rN 1 (nlO s p))) T 6 (nI (T + nfO s + 3))) (T + nfO s + 4) (rN 2 (nlO s p))) T 7 (nI (T + nfO s + 4)) T) 3 (1) 100000 = 5 from (if_neg (by decide : ¬ (100000 : Nat) = 3)).trans ((wr_ne _ _ _ _ (by omega)).trans ((congrFun (rwr_ne _ _ _ (by omega)) _).trans ((wr_ne _ _ _ _ (by omega)).trans ((congrFun (rwr_ne _ _ _ (by omega)) _).trans ((wr_ne _ _ _ _ (by omega)).trans ((congrFun (rwr_ne _ _ _ (by omega)) _).trans ((congrFun (w0 _ (by omega)) _).trans ((congrFun (d0 _ (by omega)) _).trans cK)))))))))).trans rfl) dX5_tried_142 ?_
      have hF142w := hF137w.put (k := T) (j := 3) (x := 1) (by omega) (by omega) (fun z => by rw [((wr_ne _ _ _ _ (by omega)).trans ((congrFun (rwr_ne _ _ _ (by omega)) _).trans ((wr_ne _ _ _ _ (by omega)).trans ((congrFun (rwr_ne _ _ _ (by omega)) _).trans ((wr_ne _ _ _ _ (by omega)).trans ((congrFun (rwr_ne _ _ _ (by omega)) _).trans ((congrFun (w0 _ (by omega)) _).trans ((congrFun (d0 _ (by omega)) _).trans cK))))))))] at z; exact absurd z (by decide))
      refine v_iconst (v := 0) (C.wl _ _) dX5_tried_145 (by decide) ?_
      refine v_istore (lo' := [some (.ref (ad134 600)), some (.int (nI p)), some (.ref (ad134 T)), some (.ref (ad134 (T + 1 + nfO s))), some (.int 0), v5, none, none, none, none]) (C.wl _ _) dX5_tried_146 (Nat.le_of_ble_eq_true rfl) rfl rfl ?_
      generalize hm9 : wr (wr (rwr (wr (rwr (wr (rwr m3 (T + nfO s + 2) (rN 1 (nlO s p))) T 5 (nI (T + nfO s + 2))) (T + nfO s + 3) (rN 1 (nlO s p))) T 6 (nI (T + nfO s + 3))) (T + nfO s + 4) (rN 2 (nlO s p))) T 7 (nI (T + nfO s + 4))) T 3 1 = m9 at hF142w ⊢
      sorry
    · have hno : plO s p = none := by unfold plO plM; rw [if_pos (Or.inr (nI_inj (a := nlO s p) (b := 0) (by omega) (by decide) h22))]
      refine l_drop (ad0 := ad6) hF (fun _ _ => rfl) (fun k _ hk => c0 k (by omega)) ?_
      refine v_null (C.wl _ _) dX5_tried_25 ?_
      refine v_wide (k := 60) (n := 600) (Nat.le_of_ble_eq_true rfl) (Nat.le_of_ble_eq_true rfl) ?_
      exact ret _ _ none _ _ _ dX5_tried_26 ⟨by rw [hno]; exact ⟨rfl, rfl⟩, hA6, rfl⟩
