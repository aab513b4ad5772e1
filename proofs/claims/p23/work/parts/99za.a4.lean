/-! THE LAW'S act: buyAll, setTown -/
def bA (s : MG) (f : Nat) (c : Int32) (i : Nat) : Nat → Int32 := fun x => if 10 * f ≤ x ∧ x < 10 * f + i then s 6 x + moB s c x else s 6 x
theorem bA_w {s m m1 : MG} {f i : Nat} {c : Int32} (h : Bk (10 * nfO s) m m1 0 (bA s f c i)) (hx : 10 * f + i < 50) : Bk (10 * nfO s) m (wr m1 (620 + (10 * f + i)) 0 (s 6 (10 * f + i) + moB s c (10 * f + i))) 0 (bA s f c (i + 1)) := by
  refine (h.w (10 * f + i) hx _).c (fun x _ => ?_)
  unfold upd bA
  by_cases hxe : x = 10 * f + i
  · rw [if_pos hxe, if_pos (by omega), hxe]
  · rw [if_neg hxe]
    by_cases h1 : 10 * f ≤ x ∧ x < 10 * f + i
    · rw [if_pos h1, if_pos (by omega)]
    · rw [if_neg h1, if_neg (by omega)]
set_option maxRecDepth 100000 in
theorem act_all {P : Pm} {Z : Zc} {ad : Nat → Nat} {N : Nat} {s m g : MG} (hP9 : P.2.1.stackTraces = false) (C : Cx P Z cL_act "PosterTypesLaw") (hW9 : CxW P Z) (hT : CxT P hhA) (hN : N + 1 ≤ 2048) (hE : LE N s) (hR : SimR s m) (hF : Fr m 900) (hRl : Rl s g) (x : Int32) (f k p : Nat) (hf : f < nfO s) (hk : k < 10) (hp : p < npO s) (ret : RetA P Z ad N s)  : V P RA (Z.wl ad m) [some (.ref (ad 30)), some (.ref (ad 600)), some (.int x), some (.int (nI f)), some (.int (nI k)), some (.int (nI p)), some (.ref (ad (700 + 20 * p))), none, none, none, none, none, none, none, none] 800 [] g 0 0 := by
  have hI := hE.1.1
  have hf5 := (IvM_nf hI).1
  have hp6 := (IvM_np hI).1
  have h4 := (IvM_nl hI (show p < 6 by omega)).2
  obtain ⟨hPF, hPL, hPX⟩ := hR.L hp
  refine v_iconst (v := 1) (C.wl _ _) dL_act_800 (by decide) ?_
  refine v_iload_n (C.wl _ _) dL_act_801 rfl rfl ?_
  refine v_bipush (v := 6) (C.wl _ _) dL_act_802 (by decide) ?_
  refine v_ishr (C.wl _ _) dL_act_804 ?_
  refine v_iconst (v := 4) (C.wl _ _) dL_act_805 (by decide) ?_
  refine v_callSi (n := 2) (as := [.int (x >>> (6 &&& 31)), .int (nI 4)]) (C.wl _ _) (l_below _ Z ad m (x >>> (6 &&& 31)) 4 ⟨by omega, by omega⟩ g) (gs (tg3 17 rfl rfl) (tg3 18 rfl rfl) (tg1 0 rfl rfl) (tg3 19 rfl rfl)) (by decide +kernel) ⟨Nat.le_of_ble_eq_true rfl, Nat.le_of_ble_eq_true rfl⟩ rfl rfl (Nat.le_of_ble_eq_true rfl) dL_act_806 ⟨(by show 0 + 0 ≤ 70; omega), (by show 0 + 0 ≤ 700; omega)⟩ (fun r806 gg806 hp806 => ?_)
  obtain ⟨hr806, hgg806⟩ := hp806
  rw [hr806, hgg806]
  have bv : bwN (x >>> (6 &&& 31)) 4 < 4 := bwN_lt _ (by omega)
  generalize bwN (x >>> (6 &&& 31)) 4 = v at bv ⊢
  refine v_iadd (C.wl _ _) dL_act_809 ?_
  refine v_topi (y := nI (1 + v)) (by rw [show (1 : Int32) = nI 1 from rfl, nI_add]) ?_
  have hcd : cdBuyAll s (nI f) (nI (1 + v)) = 0 := by
    have k2 : inB (nI (1 + v)) 1 9 = true := inB_t.mpr (by rw [nI_toInt (by omega)]; exact ⟨by show (1 : Int) ≤ (1 + v : Nat); omega, by show ((1 + v : Nat) : Int) ≤ 9; omega⟩)
    unfold cdBuyAll
    rw [isN_of hf (by omega), k2]
    rfl
  refine v_istore (lo' := [some (.ref (ad 30)), some (.ref (ad 600)), some (.int x), some (.int (nI f)), some (.int (nI k)), some (.int (nI p)), some (.ref (ad (700 + 20 * p))), none, none, some (.int (nI (1 + v))), none, none, none, none, none]) (C.wl _ _) dL_act_810 (Nat.le_of_ble_eq_true rfl) rfl rfl ?_
  refine v_iconst (v := 0) (C.wl _ _) dL_act_812 (by decide) ?_
  refine v_istore (lo' := [some (.ref (ad 30)), some (.ref (ad 600)), some (.int x), some (.int (nI f)), some (.int (nI k)), some (.int (nI p)), some (.ref (ad (700 + 20 * p))), none, some (.int 0), some (.int (nI (1 + v))), none, none, none, none, none]) (C.wl _ _) dL_act_813 (Nat.le_of_ble_eq_true rfl) rfl rfl ?_
  refine v_aload_n (C.wl _ _) dL_act_815 rfl rfl ?_
  refine l_get (k := 600) C inG5 (ci := 6) rfl 3 (by decide) (tg5 8 rfl rfl) rfl ⟨by decide, by decide⟩ (cW_6 hR.1.1) (sm_r (by decide) hR.1.2.2.2.2.1 ⟨by decide, by decide⟩) dL_act_816 ?_
  refine v_iload_n (C.wl _ _) dL_act_819 rfl rfl ?_
  refine l_aald (k := 602) (n := nfO s) (a := f) (k2 := 610 + f) C ⟨by decide, by decide⟩ (Or.inr (Or.inl hR.2.1.2.1.1.1)) hR.2.1.2.1.1.2 ⟨hf, by omega⟩ (hR.2.1.2.1.2 _ hf) ⟨by omega, by omega⟩ dL_act_820 ?_
  refine v_astore (lo' := [some (.ref (ad 30)), some (.ref (ad 600)), some (.int x), some (.int (nI f)), some (.int (nI k)), some (.int (nI p)), some (.ref (ad (700 + 20 * p))), none, some (.int 0), some (.int (nI (1 + v))), some (.ref (ad (610 + f))), none, none, none, none]) (C.wl _ _) dL_act_821 (Nat.le_of_ble_eq_true rfl) rfl rfl ?_
  refine v_aload (C.wl _ _) dL_act_823 rfl ?_
  refine l_len (k := 610 + f) (n := 10) C ⟨by omega, by omega⟩ (Or.inr (Or.inl (hR.2.1.2.2 _ hf).1.1)) (hR.2.1.2.2 _ hf).1.2 (by decide) dL_act_825 ?_
  refine v_istore (lo' := [some (.ref (ad 30)), some (.ref (ad 600)), some (.int x), some (.int (nI f)), some (.int (nI k)), some (.int (nI p)), some (.ref (ad (700 + 20 * p))), none, some (.int 0), some (.int (nI (1 + v))), some (.ref (ad (610 + f))), some (.int (nI 10)), none, none, none]) (C.wl _ _) dL_act_826 (Nat.le_of_ble_eq_true rfl) rfl rfl ?_
  refine v_iconst (v := 0) (C.wl _ _) dL_act_828 (by decide) ?_
  refine v_istore (lo' := [some (.ref (ad 30)), some (.ref (ad 600)), some (.int x), some (.int (nI f)), some (.int (nI k)), some (.int (nI p)), some (.ref (ad (700 + 20 * p))), none, some (.int 0), some (.int (nI (1 + v))), some (.ref (ad (610 + f))), some (.int (nI 10)), some (.int 0), none, none]) (C.wl _ _) dL_act_829 (Nat.le_of_ble_eq_true rfl) rfl rfl ?_
  refine v_lo (lo' := [some (.ref (ad 30)), some (.ref (ad 600)), some (.int x), some (.int (nI f)), some (.int (nI k)), some (.int (nI p)), some (.ref (ad (700 + 20 * p))), none, some (.int 0), some (.int (nI (1 + v))), some (.ref (ad (610 + f))), some (.int (nI 10)), some (.int (nI 0)), none, none]) rfl ?_
  refine v_lo (lo' := [some (.ref (ad 30)), some (.ref (ad 600)), some (.int x), some (.int (nI f)), some (.int (nI k)), some (.int (nI p)), some (.ref (ad (700 + 20 * p))), none, some (.int (sumI (fun j => moB s (nI (1 + v)) (10 * f + j)) 0)), some (.int (nI (1 + v))), some (.ref (ad (610 + f))), some (.int (nI 10)), some (.int (nI 0)), none, none]) rfl ?_
  have inn : ∀ (n2 i : Nat) (m1 : MG) (v13 v14 : Option Value), 10 - i < n2 → i ≤ 10 → Bk (10 * nfO s) m m1 0 (bA s f (nI (1 + v)) i) → V P RA (Z.wl ad m1) [some (.ref (ad 30)), some (.ref (ad 600)), some (.int x), some (.int (nI f)), some (.int (nI k)), some (.int (nI p)), some (.ref (ad (700 + 20 * p))), none, some (.int (sumI (fun j => moB s (nI (1 + v)) (10 * f + j)) i)), some (.int (nI (1 + v))), some (.ref (ad (610 + f))), some (.int (nI 10)), some (.int (nI i)), v13, v14] 831 [] g 0 0 := by
    intro n2
    induction n2 with
    | zero => intro i m1 v13 v14 hn; exact absurd hn (Nat.not_lt_zero _)
    | succ n2 ih2 =>
      intro i m1 v13 v14 hn2 hi hB
      refine v_iload (C.wl _ _) dL_act_831 rfl ?_
      refine v_iload (C.wl _ _) dL_act_833 rfl ?_
      refine v_icmp_ge (tgt := 881) (C.wl _ _) dL_act_835 (by decide) (fun h835 => ?_) (fun h835 => ?_)
      · have hie : i = 10 := Nat.le_antisymm hi ((nI_leI (a := 10) (by decide) (by omega)).mp h835)
        subst hie
        have hst : stBuyAll s (nI f) (nI (1 + v)) = rwr s 6 (bA s f (nI (1 + v)) 10) := by
          unfold stBuyAll bA
          rw [if_pos hcd, iz_nI (by omega)]
        have hSim : SimR (stBuyAll s (nI f) (nI (1 + v))) m1 := Sim_bl hI hR (fun q hq => by rw [hst]; exact rwr_ne _ _ _ hq) (by rw [hst, rwr_same]; exact hB)
        refine l_clean (LE_buyAll hE hN (nI f) (nI (1 + v))).1.1.1 hSim (fun ad9 m9 hA9 hS9 hF9 => ?_)
        refine v_lo (lo' := [some (.ref (ad9 30)), some (.ref (ad 600)), some (.int x), some (.int (nI f)), some (.int (nI k)), some (.int (nI p)), some (.ref (ad (700 + 20 * p))), none, some (.int (sumI (fun j => moB s (nI (1 + v)) (10 * f + j)) 10)), some (.int (nI (1 + v))), some (.ref (ad (610 + f))), some (.int (nI 10)), some (.int (nI 10)), v13, v14]) (by rw [hA9 30]) ?_
        refine v_aload_n (C.wl _ _) dL_act_881 rfl rfl ?_
        refine v_iload_n (C.wl _ _) dL_act_882 rfl rfl ?_
        refine v_iload (C.wl _ _) dL_act_883 rfl ?_
        refine v_callX (n := 2) (k := 30) (as := [.int (nI f), .int (nI (1 + v))]) (C.wl _ _) hW9.S (x_buyAll _ hP9 (Z.wl ad9 m9) (nI f) (nI (1 + v)) s g hE.1.1 hE.1.2.1 hRl) (gv (tg4 229 rfl rfl) (tg4 230 rfl rfl) (tg4 231 rfl rfl) (tg1 1 rfl rfl) (tg4 232 rfl rfl)) (by decide +kernel) ⟨Nat.le_of_ble_eq_true rfl, Nat.le_of_ble_eq_true rfl⟩ rfl cx_T rfl rfl (Nat.le_of_ble_eq_true rfl) dL_act_885 ⟨(by show 0 + 1 ≤ 70; omega), (by show 0 + 6 ≤ 700; omega)⟩ (fun E q g885 hp885 => absurd hcd hp885.1) (fun r885 g885 hp885 => ?_)
        obtain ⟨-, hr885, hRl885, hK885⟩ := hp885
        refine v_topi (y := sumI (fun j => moB s (nI (1 + v)) (10 * f + j)) 10) (hr885.trans (by unfold anBuyAll; rw [iz_nI (by omega)])) ?_
        refine v_iload (C.wl _ _) dL_act_888 rfl ?_
        refine v_icmp_ne (tgt := 897) (C.wl _ _) dL_act_890 (by decide) (fun h => absurd rfl h) (fun _ => ?_)
        refine v_iconst (v := 1) (C.wl _ _) dL_act_893 (by decide) ?_
        refine v_goto (tgt := 898) (C.wl _ _) dL_act_894 (by decide) ?_
        refine v_wide (k := 70) (n := 700) (by show 0 + 1 ≤ 70; omega) (by show 0 + 6 ≤ 700; omega) ?_
        exact ret _ _ _ _ _ dL_act_898 ⟨⟨hA9 _, hA9 _⟩, _, (LE_buyAll hE hN (nI f) (nI (1 + v))).1, (LE_buyAll hE hN (nI f) (nI (1 + v))).2, hS9, hF9, hRl885, (by rw [hst]; exact (st_nf (rwr_ne _ _ _ (by decide))).1), (by rw [hst]; exact (st_nf (rwr_ne _ _ _ (by decide))).2)⟩
      · have hii : i < 10 := Nat.lt_of_not_le fun q => h835 ((nI_leI (a := 10) (by decide) (by omega)).mpr q)
        refine v_aload (C.wl _ _) dL_act_838 rfl ?_
        refine v_iload (C.wl _ _) dL_act_840 rfl ?_
        refine l_aald (k := 610 + f) (n := 10) (a := i) (k2 := 620 + (10 * f + i)) C ⟨by omega, by omega⟩ (Or.inl ((hB.2.1 _ _ (by decide)).trans (hR.2.1.2.2 _ hf).1.1)) ((hB.2.1 _ _ (by decide)).trans (hR.2.1.2.2 _ hf).1.2) ⟨hii, by decide⟩ (((congrFun (hB.1 _ (by omega)) _).trans ((hR.2.1.2.2 _ hf).2 _ hii)).trans (congrArg nI (Nat.add_assoc _ _ _))) ⟨by omega, by omega⟩ dL_act_842 ?_
        refine v_astore (lo' := [some (.ref (ad 30)), some (.ref (ad 600)), some (.int x), some (.int (nI f)), some (.int (nI k)), some (.int (nI p)), some (.ref (ad (700 + 20 * p))), none, some (.int (sumI (fun j => moB s (nI (1 + v)) (10 * f + j)) i)), some (.int (nI (1 + v))), some (.ref (ad (610 + f))), some (.int (nI 10)), some (.int (nI i)), some (.ref (ad (620 + (10 * f + i)))), v14]) (C.wl _ _) dL_act_843 (Nat.le_of_ble_eq_true rfl) rfl rfl ?_
        refine v_iload (C.wl _ _) dL_act_845 rfl ?_
        refine v_bipush (v := 9) (C.wl _ _) dL_act_847 (by decide) ?_
        refine v_aload (C.wl _ _) dL_act_849 rfl ?_
        refine v_iconst (v := 0) (C.wl _ _) dL_act_851 (by decide) ?_
        refine l_iald (k := 620 + (10 * f + i)) (n := 3) (a := 0) C ⟨by omega, by omega⟩ ((hB.2.1 _ _ (by decide)).trans ((Nat.add_assoc 620 (10 * f) i) ▸ hR.2.2.1 _ _ hf hii).1.1) ((hB.2.1 _ _ (by decide)).trans ((Nat.add_assoc 620 (10 * f) i) ▸ hR.2.2.1 _ _ hf hii).1.2) (by decide) dL_act_852 ?_
        refine v_topi (y := s 6 (10 * f + i)) ((hB.2.2 (10 * f + i) (by omega)).trans (if_neg (by omega))) ?_
        refine v_isub (C.wl _ _) dL_act_853 ?_
        refine v_mmin (C.wl _ _) (tg4 228 rfl rfl) (tg2 32 rfl rfl) (tg1 14 rfl rfl) (tg2 33 rfl rfl) (Nat.le_of_ble_eq_true rfl) (Nat.le_of_ble_eq_true rfl) (Nat.le_of_ble_eq_true rfl) (Nat.le_of_ble_eq_true rfl) dL_act_854 ?_
        refine v_topi (y := moB s (nI (1 + v)) (10 * f + i)) rfl ?_
        refine v_istore (lo' := [some (.ref (ad 30)), some (.ref (ad 600)), some (.int x), some (.int (nI f)), some (.int (nI k)), some (.int (nI p)), some (.ref (ad (700 + 20 * p))), none, some (.int (sumI (fun j => moB s (nI (1 + v)) (10 * f + j)) i)), some (.int (nI (1 + v))), some (.ref (ad (610 + f))), some (.int (nI 10)), some (.int (nI i)), some (.ref (ad (620 + (10 * f + i)))), some (.int (moB s (nI (1 + v)) (10 * f + i)))]) (C.wl _ _) dL_act_857 (Nat.le_of_ble_eq_true rfl) rfl rfl ?_
        refine v_aload (C.wl _ _) dL_act_859 rfl ?_
        refine v_iconst (v := 0) (C.wl _ _) dL_act_861 (by decide) ?_
        refine v_dup2 (C.wl _ _) dL_act_862 rfl rfl ?_
        refine l_iald (k := 620 + (10 * f + i)) (n := 3) (a := 0) C ⟨by omega, by omega⟩ ((hB.2.1 _ _ (by decide)).trans ((Nat.add_assoc 620 (10 * f) i) ▸ hR.2.2.1 _ _ hf hii).1.1) ((hB.2.1 _ _ (by decide)).trans ((Nat.add_assoc 620 (10 * f) i) ▸ hR.2.2.1 _ _ hf hii).1.2) (by decide) dL_act_863 ?_
        refine v_topi (y := s 6 (10 * f + i)) ((hB.2.2 (10 * f + i) (by omega)).trans (if_neg (by omega))) ?_
        refine v_iload (C.wl _ _) dL_act_864 rfl ?_
        refine v_iadd (C.wl _ _) dL_act_866 ?_
        refine l_iast (k := 620 + (10 * f + i)) (n := 3) (a := 0) C ⟨by omega, by omega⟩ ((hB.2.1 _ _ (by decide)).trans ((Nat.add_assoc 620 (10 * f) i) ▸ hR.2.2.1 _ _ hf hii).1.1) ((hB.2.1 _ _ (by decide)).trans ((Nat.add_assoc 620 (10 * f) i) ▸ hR.2.2.1 _ _ hf hii).1.2) (by decide) dL_act_867 ?_
        refine v_iload (C.wl _ _) dL_act_868 rfl ?_
        refine v_iload (C.wl _ _) dL_act_870 rfl ?_
        refine v_iadd (C.wl _ _) dL_act_872 ?_
        refine v_topi (y := sumI (fun j => moB s (nI (1 + v)) (10 * f + j)) (i + 1)) rfl ?_
        refine v_istore (lo' := [some (.ref (ad 30)), some (.ref (ad 600)), some (.int x), some (.int (nI f)), some (.int (nI k)), some (.int (nI p)), some (.ref (ad (700 + 20 * p))), none, some (.int (sumI (fun j => moB s (nI (1 + v)) (10 * f + j)) (i + 1))), some (.int (nI (1 + v))), some (.ref (ad (610 + f))), some (.int (nI 10)), some (.int (nI i)), some (.ref (ad (620 + (10 * f + i)))), some (.int (moB s (nI (1 + v)) (10 * f + i)))]) (C.wl _ _) dL_act_873 (Nat.le_of_ble_eq_true rfl) rfl rfl ?_
        refine v_iinc (lo' := [some (.ref (ad 30)), some (.ref (ad 600)), some (.int x), some (.int (nI f)), some (.int (nI k)), some (.int (nI p)), some (.ref (ad (700 + 20 * p))), none, some (.int (sumI (fun j => moB s (nI (1 + v)) (10 * f + j)) (i + 1))), some (.int (nI (1 + v))), some (.ref (ad (610 + f))), some (.int (nI 10)), some (.int ((nI i) + 1)), some (.ref (ad (620 + (10 * f + i)))), some (.int (moB s (nI (1 + v)) (10 * f + i)))]) (C.wl _ _) dL_act_875 rfl rfl rfl rfl ?_
        refine v_goto (tgt := 831) (C.wl _ _) dL_act_878 (by decide) ?_
        refine v_lo (lo' := [some (.ref (ad 30)), some (.ref (ad 600)), some (.int x), some (.int (nI f)), some (.int (nI k)), some (.int (nI p)), some (.ref (ad (700 + 20 * p))), none, some (.int (sumI (fun j => moB s (nI (1 + v)) (10 * f + j)) (i + 1))), some (.int (nI (1 + v))), some (.ref (ad (610 + f))), some (.int (nI 10)), some (.int (nI (i + 1))), some (.ref (ad (620 + (10 * f + i)))), some (.int (moB s (nI (1 + v)) (10 * f + i)))]) (by rw [nI_succ i]) ?_
        exact ih2 (i + 1) _ _ _ (by omega) (by omega) (bA_w hB (by omega))
  refine inn _ 0 m none none (Nat.lt_succ_self _) (Nat.zero_le _) (Bk.rf (fun x hx => ?_))
  have h := (hR.2.2.1 (x / 10) (x % 10) (by omega) (by omega)).2.1
  rw [show 620 + 10 * (x / 10) + x % 10 = 620 + x by omega, show 10 * (x / 10) + x % 10 = x by omega] at h
  rw [h]; unfold bA; rw [if_neg (by omega)]
set_option maxRecDepth 100000 in
theorem act_town {P : Pm} {Z : Zc} {ad : Nat → Nat} {N : Nat} {s m g : MG} (hP9 : P.2.1.stackTraces = false) (C : Cx P Z cL_act "PosterTypesLaw") (hW9 : CxW P Z) (hT : CxT P hhA) (hN : N + 1 ≤ 2048) (hE : LE N s) (hR : SimR s m) (hF : Fr m 900) (hRl : Rl s g) (x : Int32) (f k p : Nat) (hf : f < nfO s) (hk : k < 10) (hp : p < npO s) (ret : RetA P Z ad N s)  : V P RA (Z.wl ad m) [some (.ref (ad 30)), some (.ref (ad 600)), some (.int x), some (.int (nI f)), some (.int (nI k)), some (.int (nI p)), some (.ref (ad (700 + 20 * p))), none, none, none, none, none, none, none, none] 328 [] g 0 0 := by
  have hI := hE.1.1
  have hf5 := (IvM_nf hI).1
  have hp6 := (IvM_np hI).1
  have h4 := (IvM_nl hI (show p < 6 by omega)).2
  obtain ⟨hPF, hPL, hPX⟩ := hR.L hp
  refine v_iload_n (C.wl _ _) dL_act_328 rfl rfl ?_
  refine v_iconst (v := 4) (C.wl _ _) dL_act_329 (by decide) ?_
  refine v_ishr (C.wl _ _) dL_act_330 ?_
  refine v_iconst (v := 4) (C.wl _ _) dL_act_331 (by decide) ?_
  refine v_callSi (n := 2) (as := [.int (x >>> (4 &&& 31)), .int (nI 4)]) (C.wl _ _) (l_below _ Z ad m (x >>> (4 &&& 31)) 4 ⟨by omega, by omega⟩ g) (gs (tg3 17 rfl rfl) (tg3 18 rfl rfl) (tg1 0 rfl rfl) (tg3 19 rfl rfl)) (by decide +kernel) ⟨Nat.le_of_ble_eq_true rfl, Nat.le_of_ble_eq_true rfl⟩ rfl rfl (Nat.le_of_ble_eq_true rfl) dL_act_332 ⟨(by show 0 + 0 ≤ 70; omega), (by show 0 + 0 ≤ 700; omega)⟩ (fun r332 gg332 hp332 => ?_)
  obtain ⟨hr332, hgg332⟩ := hp332
  rw [hr332, hgg332]
  have bt : bwN (x >>> (4 &&& 31)) 4 < 4 := bwN_lt _ (by omega)
  generalize bwN (x >>> (4 &&& 31)) 4 = t at bt ⊢
  refine v_istore (lo' := [some (.ref (ad 30)), some (.ref (ad 600)), some (.int x), some (.int (nI f)), some (.int (nI k)), some (.int (nI p)), some (.ref (ad (700 + 20 * p))), none, none, some (.int (nI t)), none, none, none, none, none]) (C.wl _ _) dL_act_335 (Nat.le_of_ble_eq_true rfl) rfl rfl ?_
  refine v_aload_n (C.wl _ _) dL_act_337 rfl rfl ?_
  refine l_get (k := 600) C inG5 (ci := 6) rfl 5 (by decide) (tg5 12 rfl rfl) rfl ⟨by decide, by decide⟩ (cW_6 hR.1.1) (sm_r (by decide) hR.1.2.2.2.2.2.2.1 ⟨by decide, by decide⟩) dL_act_338 ?_
  refine v_iload (C.wl _ _) dL_act_341 rfl ?_
  refine l_aald (k := 604) (n := 4) (a := t) (k2 := 606 + t) C ⟨by decide, by decide⟩ (Or.inl hR.2.2.2.2.1.1.1) hR.2.2.2.2.1.1.2 ⟨bt, by decide⟩ (hR.2.2.2.2.1.2 _ bt).1 ⟨by omega, by omega⟩ dL_act_343 ?_
  refine v_astore (lo' := [some (.ref (ad 30)), some (.ref (ad 600)), some (.int x), some (.int (nI f)), some (.int (nI k)), some (.int (nI p)), some (.ref (ad (700 + 20 * p))), none, none, some (.int (nI t)), some (.ref (ad (606 + t))), none, none, none, none]) (C.wl _ _) dL_act_344 (Nat.le_of_ble_eq_true rfl) rfl rfl ?_
  refine v_aload_n (C.wl _ _) dL_act_346 rfl rfl ?_
  refine l_get (k := 600) C inG5 (ci := 6) rfl 5 (by decide) (tg5 12 rfl rfl) rfl ⟨by decide, by decide⟩ (cW_6 hR.1.1) (sm_r (by decide) hR.1.2.2.2.2.2.2.1 ⟨by decide, by decide⟩) dL_act_347 ?_
  refine v_iload (C.wl _ _) dL_act_350 rfl ?_
  refine v_iconst (v := 2) (C.wl _ _) dL_act_352 (by decide) ?_
  refine l_newi (T := 900) (N := 2) C hF (by omega) (by decide) dL_act_353 (by show 0 + 1 ≤ 70; omega) (by show 0 + 2 ≤ 700; omega) (fun ad353 hA353 => ?_)
  have hF353 := hF.new (by omega) (rN_R (kd := 1) (n := 2) (by omega) (by decide) (by omega))
  refine v_lo (lo' := [some (.ref (ad353 30)), some (.ref (ad353 600)), some (.int x), some (.int (nI f)), some (.int (nI k)), some (.int (nI p)), some (.ref (ad353 (700 + 20 * p))), none, none, some (.int (nI t)), some (.ref (ad353 (606 + t))), none, none, none, none]) (by rw [hA353 30 (by omega), hA353 600 (by omega), hA353 (700 + 20 * p) (by omega), hA353 (606 + t) (by omega)]) ?_
  refine v_st (st' := [.ref (ad353 900), .int (nI t), .ref (ad353 604)]) (by rw [hA353 604 (by omega)]) ?_
  refine v_dup (C.wl _ _) dL_act_355 rfl ?_
  refine v_iconst (v := 0) (C.wl _ _) dL_act_356 (by decide) ?_
  refine v_iload_n (C.wl _ _) dL_act_357 rfl rfl ?_
  refine v_bipush (v := 6) (C.wl _ _) dL_act_358 (by decide) ?_
  refine v_ishr (C.wl _ _) dL_act_360 ?_
  refine v_bipush (v := 10) (C.wl _ _) dL_act_361 (by decide) ?_
  refine v_callSi (n := 2) (as := [.int (x >>> (6 &&& 31)), .int (nI 10)]) (C.wl _ _) (l_below _ Z ad353 (rwr m 900 (rN 1 2)) (x >>> (6 &&& 31)) 10 ⟨by omega, by omega⟩ g) (gs (tg3 17 rfl rfl) (tg3 18 rfl rfl) (tg1 0 rfl rfl) (tg3 19 rfl rfl)) (by decide +kernel) ⟨Nat.le_of_ble_eq_true rfl, Nat.le_of_ble_eq_true rfl⟩ rfl rfl (Nat.le_of_ble_eq_true rfl) dL_act_363 ⟨(by show 1 + 0 ≤ 70; omega), (by show 2 + 0 ≤ 700; omega)⟩ (fun r363 gg363 hp363 => ?_)
  obtain ⟨hr363, hgg363⟩ := hp363
  rw [hr363, hgg363]
  have bpy : bwN (x >>> (6 &&& 31)) 10 < 10 := bwN_lt _ (by omega)
  generalize bwN (x >>> (6 &&& 31)) 10 = py at bpy ⊢
  refine l_iast (k := 900) (n := 2) (a := 0) C ⟨by omega, by omega⟩ ((congrFun (rwr_same _ _ _) _).trans (rN_k _ _)) ((congrFun (rwr_same _ _ _) _).trans (rN_l _ _)) (by decide) dL_act_366 ?_
  have hF366w := hF353.wi (k := 900) (j := 0) (x := nI py) (by omega) (by omega) ((congrFun (rwr_same _ _ _) _).trans (rN_k _ _))
  refine v_dup (C.wl _ _) dL_act_367 rfl ?_
  refine v_iconst (v := 1) (C.wl _ _) dL_act_368 (by decide) ?_
  refine v_iload_n (C.wl _ _) dL_act_369 rfl rfl ?_
  refine v_bipush (v := 8) (C.wl _ _) dL_act_370 (by decide) ?_
  refine v_ishr (C.wl _ _) dL_act_372 ?_
  refine v_bipush (v := 31) (C.wl _ _) dL_act_373 (by decide) ?_
  refine v_callSi (n := 2) (as := [.int (x >>> (8 &&& 31)), .int (nI 31)]) (C.wl _ _) (l_below _ Z ad353 (wr (rwr m 900 (rN 1 2)) 900 0 (nI py)) (x >>> (8 &&& 31)) 31 ⟨by omega, by omega⟩ g) (gs (tg3 17 rfl rfl) (tg3 18 rfl rfl) (tg1 0 rfl rfl) (tg3 19 rfl rfl)) (by decide +kernel) ⟨Nat.le_of_ble_eq_true rfl, Nat.le_of_ble_eq_true rfl⟩ rfl rfl (Nat.le_of_ble_eq_true rfl) dL_act_375 ⟨(by show 1 + 0 ≤ 70; omega), (by show 2 + 0 ≤ 700; omega)⟩ (fun r375 gg375 hp375 => ?_)
  obtain ⟨hr375, hgg375⟩ := hp375
  rw [hr375, hgg375]
  have bsc : bwN (x >>> (8 &&& 31)) 31 < 31 := bwN_lt _ (by omega)
  generalize bwN (x >>> (8 &&& 31)) 31 = sc at bsc ⊢
  refine l_iast (k := 900) (n := 2) (a := 1) C ⟨by omega, by omega⟩ ((wr_ne _ _ _ _ (by omega)).trans ((congrFun (rwr_same _ _ _) _).trans (rN_k _ _))) ((wr_ne _ _ _ _ (by omega)).trans ((congrFun (rwr_same _ _ _) _).trans (rN_l _ _))) (by decide) dL_act_378 ?_
  have hF378w := hF366w.wi (k := 900) (j := 1) (x := nI sc) (by omega) (by omega) ((wr_ne _ _ _ _ (by omega)).trans ((congrFun (rwr_same _ _ _) _).trans (rN_k _ _)))
  refine l_aast (k := 604) (n := 4) (a := t) (k2 := 900) (n2 := 2) C hW9.L ⟨by decide, by decide⟩ ((wr_ne _ _ _ _ (by omega)).trans ((wr_ne _ _ _ _ (by omega)).trans ((congrFun (rwr_ne _ _ _ (by omega)) _).trans hR.2.2.2.2.1.1.1))) ((wr_ne _ _ _ _ (by omega)).trans ((wr_ne _ _ _ _ (by omega)).trans ((congrFun (rwr_ne _ _ _ (by omega)) _).trans hR.2.2.2.2.1.1.2))) ⟨bt, by decide⟩ ⟨by omega, by omega⟩ ((wr_ne _ _ _ _ (by omega)).trans ((wr_ne _ _ _ _ (by omega)).trans ((congrFun (rwr_same _ _ _) _).trans (rN_k _ _)))) ((wr_ne _ _ _ _ (by omega)).trans ((wr_ne _ _ _ _ (by omega)).trans ((congrFun (rwr_same _ _ _) _).trans (rN_l _ _)))) (by decide) dL_act_379 ?_
  have hF379w := hF378w.wn (k := 604) (j := t) (k2 := 900) (by omega) (by omega) (by omega)
  have hmo : ∀ q, q < 900 → q ≠ 604 → (wr (wr (wr (rwr m 900 (rN 1 2)) 900 0 (nI py)) 900 1 (nI sc)) 604 t (nI 900)) q = m q := fun q h1 h2 => by rw [wr_row _ _ _ _ h2, wr_row _ _ _ _ (by omega), wr_row _ _ _ _ (by omega), rwr_ne _ _ _ (by omega)]
  have hmt : ∀ j, (wr (wr (wr (rwr m 900 (rN 1 2)) 900 0 (nI py)) 900 1 (nI sc)) 604 t (nI 900)) 604 j = if j = t then nI 900 else m 604 j := fun j => by rw [wr_own]; unfold upd; rw [wr_row _ _ _ _ (by decide), wr_row _ _ _ _ (by decide), rwr_ne _ _ _ (by decide)]
  have hm9 : ∀ j, (wr (wr (wr (rwr m 900 (rN 1 2)) 900 0 (nI py)) 900 1 (nI sc)) 604 t (nI 900)) 900 j = if j = 1 then nI sc else if j = 0 then nI py else rN 1 2 j := fun j => by rw [wr_row _ _ _ _ (by decide), wr_own]; unfold upd; rw [wr_own]; unfold upd; rw [rwr_same]
  generalize wr (wr (wr (rwr m 900 (rN 1 2)) 900 0 (nI py)) 900 1 (nI sc)) 604 t (nI 900) = mT at hmo hmt hm9 ⊢
  refine v_aload_n (C.wl _ _) dL_act_380 rfl rfl ?_
  refine v_iload (C.wl _ _) dL_act_381 rfl ?_
  refine v_aload_n (C.wl _ _) dL_act_383 rfl rfl ?_
  refine l_get (k := 600) C inG5 (ci := 6) rfl 5 (by decide) (tg5 12 rfl rfl) rfl ⟨by decide, by decide⟩ (cW_6 ((congrFun (hmo _ (by omega) (by omega)) _).trans hR.1.1)) (sm_r (by decide) ((congrFun (hmo _ (by omega) (by omega)) _).trans hR.1.2.2.2.2.2.2.1) ⟨by decide, by decide⟩) dL_act_384 ?_
  refine v_iload (C.wl _ _) dL_act_387 rfl ?_
  refine l_aald (k := 604) (n := 4) (a := t) (k2 := 900) C ⟨by decide, by decide⟩ (Or.inl ((hmt _).trans ((if_neg (by omega)).trans hR.2.2.2.2.1.1.1))) ((hmt _).trans ((if_neg (by omega)).trans hR.2.2.2.2.1.1.2)) ⟨bt, by decide⟩ ((hmt t).trans (if_pos rfl)) ⟨by decide, by decide⟩ dL_act_389 ?_
  refine v_iconst (v := 0) (C.wl _ _) dL_act_390 (by decide) ?_
  refine l_iald (k := 900) (n := 2) (a := 0) C ⟨by decide, by decide⟩ ((hm9 _).trans rfl) ((hm9 _).trans rfl) (by decide) dL_act_391 ?_
  refine v_topi (y := nI py) ((hm9 0).trans rfl) ?_
  refine v_aload_n (C.wl _ _) dL_act_392 rfl rfl ?_
  refine l_get (k := 600) C inG5 (ci := 6) rfl 5 (by decide) (tg5 12 rfl rfl) rfl ⟨by decide, by decide⟩ (cW_6 ((congrFun (hmo _ (by omega) (by omega)) _).trans hR.1.1)) (sm_r (by decide) ((congrFun (hmo _ (by omega) (by omega)) _).trans hR.1.2.2.2.2.2.2.1) ⟨by decide, by decide⟩) dL_act_393 ?_
  refine v_iload (C.wl _ _) dL_act_396 rfl ?_
  refine l_aald (k := 604) (n := 4) (a := t) (k2 := 900) C ⟨by decide, by decide⟩ (Or.inl ((hmt _).trans ((if_neg (by omega)).trans hR.2.2.2.2.1.1.1))) ((hmt _).trans ((if_neg (by omega)).trans hR.2.2.2.2.1.1.2)) ⟨bt, by decide⟩ ((hmt t).trans (if_pos rfl)) ⟨by decide, by decide⟩ dL_act_398 ?_
  refine v_iconst (v := 1) (C.wl _ _) dL_act_399 (by decide) ?_
  refine l_iald (k := 900) (n := 2) (a := 1) C ⟨by decide, by decide⟩ ((hm9 _).trans rfl) ((hm9 _).trans rfl) (by decide) dL_act_400 ?_
  refine v_topi (y := nI sc) ((hm9 1).trans rfl) ?_
  have hcd : cdSetTown (nI t) (nI py) (nI sc) = 0 := by
    unfold cdSetTown
    rw [isN_of bt (by decide), (show inB (nI py) 0 9 = true from inB_of (n := 9) (by omega) (by decide)), (show inB (nI sc) 0 30 = true from inB_of (n := 30) (by omega) (by decide))]
    rfl
  refine v_callX (n := 3) (k := 30) (as := [.int (nI t), .int (nI py), .int (nI sc)]) (C.wl _ _) hW9.S (x_setTown _ hP9 (Z.wl ad353 mT) (nI t) (nI py) (nI sc) s g hE.1.1 hE.1.2.1 hRl) (gv (tg3 62 rfl rfl) (tg3 63 rfl rfl) (tg3 64 rfl rfl) (tg1 1 rfl rfl) (tg3 65 rfl rfl)) (by decide +kernel) ⟨Nat.le_of_ble_eq_true rfl, Nat.le_of_ble_eq_true rfl⟩ rfl cx_T rfl rfl (Nat.le_of_ble_eq_true rfl) dL_act_401 ⟨(by show 1 + 1 ≤ 70; omega), (by show 2 + 6 ≤ 700; omega)⟩ (fun E q g401 hp401 => absurd hcd hp401.1) (fun r401 g401 hp401 => ?_)
  obtain ⟨-, hr401, hRl401, hK401⟩ := hp401
  refine v_topi (y := 100 * s 10 t + s 11 t) (hr401.trans (by rw [iz_nI (by omega)])) ?_
  refine v_bipush (v := 100) (C.wl _ _) dL_act_404 (by decide) ?_
  refine v_aload (C.wl _ _) dL_act_406 rfl ?_
  refine v_iconst (v := 0) (C.wl _ _) dL_act_408 (by decide) ?_
  refine l_iald (k := 606 + t) (n := 2) (a := 0) C ⟨by omega, by omega⟩ ((congrFun (hmo _ (by omega) (by omega)) _).trans (hR.2.2.2.2.1.2 _ bt).2.1.1) ((congrFun (hmo _ (by omega) (by omega)) _).trans (hR.2.2.2.2.1.2 _ bt).2.1.2) (by decide) dL_act_409 ?_
  refine v_topi (y := s 10 t) ((congrFun (hmo _ (by omega) (by omega)) _).trans (hR.2.2.2.2.1.2 t bt).2.2.1) ?_
  refine v_imul (C.wl _ _) dL_act_410 ?_
  refine v_aload (C.wl _ _) dL_act_411 rfl ?_
  refine v_iconst (v := 1) (C.wl _ _) dL_act_413 (by decide) ?_
  refine l_iald (k := 606 + t) (n := 2) (a := 1) C ⟨by omega, by omega⟩ ((congrFun (hmo _ (by omega) (by omega)) _).trans (hR.2.2.2.2.1.2 _ bt).2.1.1) ((congrFun (hmo _ (by omega) (by omega)) _).trans (hR.2.2.2.2.1.2 _ bt).2.1.2) (by decide) dL_act_414 ?_
  refine v_topi (y := s 11 t) ((congrFun (hmo _ (by omega) (by omega)) _).trans (hR.2.2.2.2.1.2 t bt).2.2.2) ?_
  refine v_iadd (C.wl _ _) dL_act_415 ?_
  have hst : stSetTown s (nI t) (nI py) (nI sc) = wr (wr s 10 t (nI py)) 11 t (nI sc) := by unfold stSetTown; rw [if_pos hcd, iz_nI (by omega)]
  have hs1 : ∀ q, q ≠ 10 → q ≠ 11 → stSetTown s (nI t) (nI py) (nI sc) q = s q := fun q h1 h2 => by rw [hst, wr_row _ _ _ _ h2, wr_row _ _ _ _ h1]
  have hs10 : ∀ j, stSetTown s (nI t) (nI py) (nI sc) 10 j = if j = t then nI py else s 10 j := fun j => by rw [hst, wr_row _ _ _ _ (by decide), wr_own]; rfl
  have hs11 : ∀ j, stSetTown s (nI t) (nI py) (nI sc) 11 j = if j = t then nI sc else s 11 j := fun j => by rw [hst, wr_own]; unfold upd; rw [wr_row _ _ _ _ (by decide)]
  have hL := LE_setTown hE hN (nI t) (nI py) (nI sc)
  generalize stSetTown s (nI t) (nI py) (nI sc) = s2 at *
  have e0 : s2 0 = s 0 := hs1 0 (by decide) (by decide)
  have enp : npO s2 = npO s := by unfold npO; rw [e0]
  have hC : Cn s2 mT (fun q => if q = 606 + t then 900 else q) := by
    refine Cn_mk hI hR (fun q h1 h2 h3 => if_neg (by omega)) (fun q h1 h2 h3 h4 h5 => hmo q (by omega) h3) (by rw [e0]) (fun q h1 h2 => hs1 q (by omega) (by omega)) ?_ ⟨?_, fun u hu => ?_⟩ ⟨?_, fun q hq => ?_⟩ (fun q hq => ?_)
    · rw [hmo 600 (by decide) (by decide), e0, if_neg (by omega)]; exact hR.1
    · unfold isQ; rw [hmt, hmt, if_neg (by omega), if_neg (by omega)]; exact hR.2.2.2.2.1.1
    · obtain ⟨g1, g2, g3, g4⟩ := hR.2.2.2.2.1.2 u hu
      rw [hmt, hs10, hs11]
      by_cases hut : u = t
      · rw [if_pos hut, if_pos (by omega), if_pos hut, if_pos hut]
        exact ⟨rfl, ⟨(hm9 _).trans rfl, (hm9 _).trans rfl⟩, (hm9 0).trans rfl, (hm9 1).trans rfl⟩
      · rw [if_neg hut, if_neg (by omega), if_neg hut, if_neg hut]
        unfold isA
        rw [hmo (606 + u) (by omega) (by omega)]
        exact ⟨g1, g2, g3, g4⟩
    · unfold isQ; rw [if_neg (by omega), hmo 605 (by decide) (by decide), enp]; exact hR.2.2.2.2.2.1.1
    · rw [enp] at hq; rw [if_neg (by omega), if_neg (by omega), hmo 605 (by decide) (by decide)]; exact hR.2.2.2.2.2.1.2 q hq
    · rw [enp] at hq; exact CnP_c hI hR hq (fun z z1 z2 => if_neg (by omega)) (fun z z1 z2 => hmo z (by omega) (by omega)) ⟨by rw [hs1 12 (by decide) (by decide)], by rw [hs1 13 (by decide) (by decide)], by rw [hs1 14 (by decide) (by decide)], by rw [hs1 15 (by decide) (by decide)], by rw [hs1 16 (by decide) (by decide)]⟩ (fun z _ => ⟨by rw [hs1 17 (by decide) (by decide)], by rw [hs1 18 (by decide) (by decide)], by rw [hs1 19 (by decide) (by decide)], by rw [hs1 20 (by decide) (by decide)]⟩)
  have g5 := (IvM_nf hL.1.1.1).1
  have g6 := (IvM_np hL.1.1.1).1
  have g4 : ∀ q, q < npO s2 → nlO s2 q ≤ 4 := fun q hq => (IvM_nl hL.1.1.1 (by omega)).2
  have hσ : ∀ q, 600 ≤ q → q < 900 → 600 ≤ (if q = 606 + t then 900 else q) ∧ (if q = 606 + t then 900 else q) < 1200 := fun q q1 q2 => by split <;> omega
  refine l_canon hC g5 g6 g4 hσ (fun a b a1 a2 b1 b2 _ _ h => by have h : (if a = 606 + t then 900 else a) = (if b = 606 + t then 900 else b) := h; split at h <;> split at h <;> omega) ?_
  refine v_icmp_ne (tgt := 423) (C.wl _ _) dL_act_416 (by decide) (fun h => absurd rfl h) (fun _ => ?_)
  refine v_iconst (v := 1) (C.wl _ _) dL_act_419 (by decide) ?_
  refine v_goto (tgt := 424) (C.wl _ _) dL_act_420 (by decide) ?_
  refine v_wide (k := 70) (n := 700) (by show 1 + 1 ≤ 70; omega) (by show 2 + 6 ≤ 700; omega) ?_
  exact ret _ _ _ _ _ dL_act_424 ⟨⟨by show (if (30 : Nat) < 600 then ad353 30 else _) = _; rw [if_pos (by decide), hA353 30 (by decide)], by show (if (600 : Nat) < 600 then _ else ad353 (if 600 = 606 + t then 900 else 600)) = _; rw [if_neg (by decide), if_neg (by omega), hA353 600 (by decide)]⟩, s2, (hL).1, (hL).2, Cn_Sim hC g5 g6 g4, Cn_Fr hC g5 g6 g4 hσ, hRl401, (st_nf e0).1, (st_nf e0).2⟩
