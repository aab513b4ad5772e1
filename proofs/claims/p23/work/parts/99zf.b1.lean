/-! THE LAW'S build: founts -/
theorem sumI_nI (c : Nat) : ∀ n, sumI (fun _ => nI c) n = nI (n * c) := by
  intro n
  induction n with
  | zero => rw [Nat.zero_mul]; rfl
  | succ n ih => rw [sumI, ih, nI_add, Nat.succ_mul]
theorem cdFo_0 {t : MG} {h : Nat} (hf : nfO t < 5) (hh : 1 ≤ h ∧ h ≤ 20) : cdFount t (nI h) = 0 := by
  have k2 : inB (nI h) 1 20 = true := inB_t.mpr (by rw [nI_toInt (by omega)]; exact ⟨by show (1 : Int) ≤ h; omega, by show (h : Int) ≤ 20; omega⟩)
  unfold cdFount
  rw [k2, if_neg (by decide), if_neg (by omega)]
theorem cdBA_0 {t : MG} {f v : Nat} (hf : f < nfO t) (h5 : nfO t ≤ 5) (hv : 1 ≤ v ∧ v ≤ 9) : cdBuyAll t (nI f) (nI v) = 0 := by
  have k2 : inB (nI v) 1 9 = true := inB_t.mpr (by rw [nI_toInt (by omega)]; exact ⟨by show (1 : Int) ≤ v; omega, by show (v : Int) ≤ 9; omega⟩)
  unfold cdBuyAll
  rw [isN_of hf (by omega), k2]
  rfl
/-- blocks bought anew -/
def bB (s : MG) (f : Nat) (c : Int32) (i : Nat) : Nat → Int32 := fun x => if 10 * f ≤ x ∧ x < 10 * f + i then c else s 6 x
theorem bB_w {s m m1 : MG} {f i : Nat} {c : Int32} (h : Bk (10 * nfO s) m m1 0 (bB s f c i)) (hx : 10 * f + i < 50) : Bk (10 * nfO s) m (wr m1 (620 + (10 * f + i)) 0 c) 0 (bB s f c (i + 1)) := by
  refine (h.w _ hx c).c (fun x _ => ?_)
  unfold upd bB
  by_cases h1 : x = 10 * f + i
  · rw [if_pos h1, if_pos (by omega)]
  · rw [if_neg h1]
    by_cases h2 : 10 * f ≤ x ∧ x < 10 * f + i
    · rw [if_pos h2, if_pos (by omega)]
    · rw [if_neg h2, if_neg (by omega)]
/-- the two shops behind a fount and its blocks -/
theorem Sim_ft {t s1 m1 m2 : MG} {n f h v : Nat} (hZ : IvZ t) (hI : IvM t) (hft : nfO t = f) (hf : f < n) (hn : n ≤ 4) (hh : 1 ≤ h ∧ h ≤ 20) (hv : 1 ≤ v ∧ v ≤ 4) (es : s1 = wr (wr t 0 1 (nI n)) 5 f (nI h)) (hR : SimR s1 m1) (hB : Bk (10 * nfO s1) m1 m2 0 (bB s1 f (nI v) 10)) :
    (cdFount t (nI h) = 0 ∧ cdBuyAll (stFount t (nI h)) (nI f) (nI v) = 0 ∧ anBuyAll (stFount t (nI h)) (nI f) (nI v) = nI (10 * v)) ∧ SimR (wr (stBuyAll (stFount t (nI h)) (nI f) (nI v)) 0 1 (nI n)) m2 ∧ nfO (stBuyAll (stFount t (nI h)) (nI f) (nI v)) = f + 1 ∧ npO (stBuyAll (stFount t (nI h)) (nI f) (nI v)) = npO t ∧ stBuyAll (stFount t (nI h)) (nI f) (nI v) 9 = t 9 := by
  have c1 := cdFo_0 (t := t) (by omega) hh
  have e1 : stFount t (nI h) = wr (wr t 5 f (nI h)) 0 1 (nI (f + 1)) := by unfold stFount; rw [if_pos c1, hft]
  have t16 : stFount t (nI h) 6 = t 6 := by rw [e1, wr_row _ _ _ _ (by decide), wr_row _ _ _ _ (by decide)]
  have t15 : stFount t (nI h) 5 = upd (t 5) f (nI h) := by rw [e1, wr_row _ _ _ _ (by decide), wr_own]
  have t10 : ∀ j, j ≠ 1 → stFount t (nI h) 0 j = t 0 j := fun j hj => by rw [e1, wr_ne _ _ _ _ (Or.inr hj), wr_row _ _ _ _ (by decide)]
  have t1k : ∀ k, k ≠ 0 → k ≠ 5 → stFount t (nI h) k = t k := fun k k0 k5 => by rw [e1, wr_row _ _ _ _ k0, wr_row _ _ _ _ k5]
  have n1 : nfO (stFount t (nI h)) = f + 1 := by show iz (stFount t (nI h) 0 1) = _; rw [e1, wr_same]; exact iz_nI (by omega)
  generalize stFount t (nI h) = t1 at *
  have c2 := cdBA_0 (t := t1) (f := f) (v := v) (by omega) (by omega) ⟨hv.1, by omega⟩
  have ef : iz (nI f) = f := iz_nI (by omega)
  have hmo : ∀ k, k < 10 → moB t1 (nI v) (10 * f + k) = nI v := fun k hk => by
    have z := (hZ (10 * f + k) (by omega) (by omega)).1
    unfold moB
    rw [t16, z, show (9 : Int32) - 0 = nI 9 from rfl]
    unfold mn
    rw [if_neg (fun q => absurd ((nI_ltI (by omega) (by omega)).mp q) (by omega))]
  have e2 : stBuyAll t1 (nI f) (nI v) = rwr t1 6 (fun j => if 10 * f ≤ j ∧ j < 10 * f + 10 then t1 6 j + moB t1 (nI v) j else t1 6 j) := by unfold stBuyAll; rw [if_pos c2, ef]
  have a2 : anBuyAll t1 (nI f) (nI v) = nI (10 * v) := by
    unfold anBuyAll
    rw [ef, sumI_cong 10 hmo]
    exact sumI_nI v 10
  have u6 : ∀ x, x < 50 → stBuyAll t1 (nI f) (nI v) 6 x = if 10 * f ≤ x ∧ x < 10 * f + 10 then nI v else t 6 x := fun x hx => by
    rw [e2, rwr_same, t16]
    by_cases hr : 10 * f ≤ x ∧ x < 10 * f + 10
    · have z := (hZ x (by omega) hx).1
      have hm := hmo (x - 10 * f) (by omega)
      rw [show 10 * f + (x - 10 * f) = x by omega] at hm
      rw [if_pos hr, if_pos hr, z, hm]
      exact Int32.zero_add _
    · rw [if_neg hr, if_neg hr]
  have uk : ∀ k, k ≠ 6 → stBuyAll t1 (nI f) (nI v) k = t1 k := fun k hk => by rw [e2, rwr_ne _ _ _ hk]
  generalize stBuyAll t1 (nI f) (nI v) = t2 at *
  have s1k : ∀ k, k ≠ 0 → k ≠ 5 → s1 k = t k := fun k k0 k5 => by rw [es, wr_row _ _ _ _ k5, wr_row _ _ _ _ k0]
  have s15 : s1 5 = upd (t 5) f (nI h) := by rw [es, wr_own, wr_row _ _ _ _ (by decide)]
  have s10 : s1 0 = upd (t 0) 1 (nI n) := by rw [es, wr_row _ _ _ _ (by decide), wr_own]
  have hI1 : IvM s1 := by
    have h0 := IvM_wn hI (show n ≤ 5 by omega)
    obtain ⟨a1, a2, a3, a4, a5, a6, a7, a8⟩ := h0
    have ek : ∀ k, k ≠ 5 → s1 k = wr t 0 1 (nI n) k := fun k k5 => by rw [es, wr_row _ _ _ _ k5]
    refine ⟨by rw [ek 0 (by decide)]; exact a1, by rw [ek 0 (by decide)]; exact a2, by rw [ek 9 (by decide)]; exact a3, by rw [ek 14 (by decide)]; exact a4, by rw [ek 12 (by decide)]; exact a5, by rw [ek 15 (by decide)]; exact a6, by rw [ek 17 (by decide)]; exact a7, fun p k hp h1 hk => ?_⟩
    unfold nlO at hk
    rw [ek 14 (by decide)] at hk
    rw [ek 15 (by decide)] at h1
    rw [ek 18 (by decide), ek 20 (by decide)]
    exact a8 p k hp h1 hk
  refine ⟨⟨c1, c2, a2⟩, Sim_bl hI1 hR (fun k hk => ?_) (hB.c (fun x hx => ?_)), ?_, ?_, by rw [uk 9 (by decide), t1k 9 (by decide) (by decide)]⟩
  · by_cases k0 : k = 0
    · subst k0
      rw [wr_own, s10, uk 0 (by decide)]
      funext j
      unfold upd
      by_cases hj : j = 1
      · rw [if_pos hj, if_pos hj]
      · rw [if_neg hj, if_neg hj, t10 j hj]
    · rw [wr_row _ _ _ _ k0, uk k hk]
      by_cases k5 : k = 5
      · subst k5; rw [t15, s15]
      · rw [t1k k k0 k5, s1k k k0 k5]
  · have hx5 : x < 50 := by
      have := (IvM_nf hI1).1
      omega
    rw [wr_row _ _ _ _ (by decide), u6 x hx5]
    unfold bB
    rw [s1k 6 (by decide) (by decide)]
  · unfold nfO; rw [uk 0 (by decide)]; exact n1
  · unfold npO; rw [uk 0 (by decide), t10 2 (by decide)]
set_option maxRecDepth 100000 in
theorem build_F {P : Pm} {Z : Zc} {S : Sc} {ad0 : Nat → Nat} (hP9 : P.2.1.stackTraces = false) (C : Cx P Z cL_build "PosterTypesLaw") (hW9 : CxW P Z) (hC : CxP P S Z.z) {n : Nat} (hn : n ≤ 4)
    (K : ∀ (ad : Nat → Nat) (m t g : MG) (N : Nat) (v5 v6 v7 v8 v9 v10 v11 : Option Value), (∀ k, k < 36 → ad k = ad0 k) → N ≤ 2 * n → LE N t → SimR t m → Fr m 900 → Rl t g → nfO t = n → npO t = 0 → (∀ k, k < 10 → t 9 k = -1) → V P RB (Z.wl ad m) [some (.ref (ad 30)), some (.ref S.1), some (.ref (ad 600)), some (.int (nI n)), some (.int (nI n)), v5, v6, v7, v8, v9, v10, v11] 188 [] g (60 + 10 * n) (500 + 100 * n))
    : ∀ (q f : Nat) (ad : Nat → Nat) (m t g : MG) (N : Nat) (v5 v6 v7 v8 v9 v10 v11 : Option Value), n - f < q → f ≤ n → (∀ k, k < 36 → ad k = ad0 k) → N ≤ 2 * f → LE N t → SimR (wr t 0 1 (nI n)) m → Fr m 900 → Rl t g → nfO t = f → npO t = 0 → (∀ k, k < 10 → t 9 k = -1) → V P RB (Z.wl ad m) [some (.ref (ad 30)), some (.ref S.1), some (.ref (ad 600)), some (.int (nI n)), some (.int (nI f)), v5, v6, v7, v8, v9, v10, v11] 42 [] g (60 + 10 * f) (500 + 100 * f) := by
  intro q
  induction q with
  | zero => intro f ad m t g N v5 v6 v7 v8 v9 v10 v11 hq; exact absurd hq (Nat.not_lt_zero _)
  | succ q ih =>
    intro f ad m t g N v5 v6 v7 v8 v9 v10 v11 hq hi hA hN hE hR hF hRl hft hpt h9t
    refine v_iload (C.wl _ _) dL_build_42 rfl ?_
    refine v_iload_n (C.wl _ _) dL_build_44 rfl rfl ?_
    refine v_icmp_ge (tgt := 188) (C.wl _ _) dL_build_45 (by decide) (fun h45 => ?_) (fun h45 => ?_)
    · have hie : f = n := Nat.le_antisymm hi ((nI_leI (by omega) (by omega)).mp h45)
      subst hie
      rw [wr_id ((IvM_nf hE.1.1).2.trans (congrArg nI hft))] at hR
      exact K ad m t g N v5 v6 v7 v8 v9 v10 v11 hA hN hE hR hF hRl hft hpt h9t
    · have hfn : f < n := Nat.lt_of_not_le fun q => h45 ((nI_leI (by omega) (by omega)).mpr q)
      have hnf : nfO (wr t 0 1 (nI n)) = n := by show iz (wr t 0 1 (nI n) 0 1) = n; rw [wr_same]; exact iz_nI (by omega)
      have hfs : f < nfO (wr t 0 1 (nI n)) := by omega
      have hIs := IvM_wn (t := t) hE.1.1 (show n ≤ 5 by omega)
      refine v_aload_n (C.wl _ _) dL_build_48 rfl rfl ?_
      refine v_iconst (v := 0) (C.wl _ _) dL_build_49 (by decide) ?_
      refine s_call (n := 2) (S := S) (as := [.ref S.1, .int (nI 0)]) (C.wl _ _) hC (l_cell _ (Z.wl ad m) S 0 (by omega) g) (gs (tg3 21 rfl rfl) (tg3 22 rfl rfl) (tg1 0 rfl rfl) (tg3 23 rfl rfl)) (by decide +kernel) ⟨Nat.le_of_ble_eq_true rfl, Nat.le_of_ble_eq_true rfl⟩ rfl rfl (Nat.le_of_ble_eq_true rfl) dL_build_50 ⟨(by show 60 + 10 * f + 0 ≤ 600; omega), (by show 500 + 100 * f + 0 ≤ 6000; omega)⟩ (fun r50 gg50 hp50 => ?_)
      rw [show gg50 = g from hp50]
      refine v_iconst (v := 2) (C.wl _ _) dL_build_53 (by decide) ?_
      refine v_iconst (v := 4) (C.wl _ _) dL_build_54 (by decide) ?_
      refine v_iload (C.wl _ _) dL_build_55 rfl ?_
      refine v_imul (C.wl _ _) dL_build_57 ?_
      refine v_iadd (C.wl _ _) dL_build_58 ?_
      refine v_ishr (C.wl _ _) dL_build_59 ?_
      refine v_istore (lo' := [some (.ref (ad 30)), some (.ref S.1), some (.ref (ad 600)), some (.int (nI n)), some (.int (nI f)), some (.int (r50 >>> ((2 + (4 * (nI f))) &&& 31))), v6, v7, v8, v9, v10, v11]) (C.wl _ _) dL_build_60 (Nat.le_of_ble_eq_true rfl) rfl rfl ?_
      refine v_iconst (v := 1) (C.wl _ _) dL_build_62 (by decide) ?_
      refine v_iload (C.wl _ _) dL_build_63 rfl ?_
      refine v_iload (C.wl _ _) dL_build_65 rfl ?_
      refine v_iconst (v := 5) (C.wl _ _) dL_build_67 (by decide) ?_
      refine v_ishr (C.wl _ _) dL_build_68 ?_
      refine v_iconst (v := 3) (C.wl _ _) dL_build_69 (by decide) ?_
      refine v_callSi (n := 2) (as := [.int ((r50 >>> ((2 + (4 * (nI f))) &&& 31)) >>> (5 &&& 31)), .int (nI 3)]) (C.wl _ _) (l_below _ Z ad m ((r50 >>> ((2 + (4 * (nI f))) &&& 31)) >>> (5 &&& 31)) 3 ⟨by omega, by omega⟩ g) (gs (tg3 17 rfl rfl) (tg3 18 rfl rfl) (tg1 0 rfl rfl) (tg3 19 rfl rfl)) (by decide +kernel) ⟨Nat.le_of_ble_eq_true rfl, Nat.le_of_ble_eq_true rfl⟩ rfl rfl (Nat.le_of_ble_eq_true rfl) dL_build_70 ⟨(by show 60 + 10 * f + 0 ≤ 600; omega), (by show 500 + 100 * f + 0 ≤ 6000; omega)⟩ (fun r70 gg70 hp70 => ?_)
      obtain ⟨hr70, hgg70⟩ := hp70
      rw [hr70, hgg70]
      have bb : bwN ((r50 >>> ((2 + (4 * (nI f))) &&& 31)) >>> (5 &&& 31)) 3 < 3 := bwN_lt _ (by omega)
      generalize bwN ((r50 >>> ((2 + (4 * (nI f))) &&& 31)) >>> (5 &&& 31)) 3 = b at bb ⊢
      have J73 : ∀ nn : Nat, (nn = 20 ∨ nn = 9) → V P RB (Z.wl ad m) [some (.ref (ad 30)), some (.ref S.1), some (.ref (ad 600)), some (.int (nI n)), some (.int (nI f)), some (.int (r50 >>> ((2 + (4 * (nI f))) &&& 31))), v6, v7, v8, v9, v10, v11] 83 [.int (nI nn), .int (r50 >>> ((2 + (4 * (nI f))) &&& 31)), .int 1] g (60 + 10 * f) (500 + 100 * f) := by
        intro nn hnn
        refine v_callSi (n := 2) (as := [.int (r50 >>> ((2 + (4 * (nI f))) &&& 31)), .int (nI nn)]) (C.wl _ _) (l_below _ Z ad m (r50 >>> ((2 + (4 * (nI f))) &&& 31)) nn ⟨by omega, by omega⟩ g) (gs (tg3 17 rfl rfl) (tg3 18 rfl rfl) (tg1 0 rfl rfl) (tg3 19 rfl rfl)) (by decide +kernel) ⟨Nat.le_of_ble_eq_true rfl, Nat.le_of_ble_eq_true rfl⟩ rfl rfl (Nat.le_of_ble_eq_true rfl) dL_build_83 ⟨(by show 60 + 10 * f + 0 ≤ 600; omega), (by show 500 + 100 * f + 0 ≤ 6000; omega)⟩ (fun r83 gg83 hp83 => ?_)
        obtain ⟨hr83, hgg83⟩ := hp83
        rw [hr83, hgg83]
        have bh : bwN (r50 >>> ((2 + (4 * (nI f))) &&& 31)) nn < nn := bwN_lt _ (by omega)
        generalize bwN (r50 >>> ((2 + (4 * (nI f))) &&& 31)) nn = h at bh ⊢
        refine v_iadd (C.wl _ _) dL_build_86 ?_
        refine v_topi (y := nI (1 + h)) (by rw [show (1 : Int32) = nI 1 from rfl, nI_add]) ?_
        refine v_istore (lo' := [some (.ref (ad 30)), some (.ref S.1), some (.ref (ad 600)), some (.int (nI n)), some (.int (nI f)), some (.int (r50 >>> ((2 + (4 * (nI f))) &&& 31))), some (.int (nI (1 + h))), v7, v8, v9, v10, v11]) (C.wl _ _) dL_build_87 (Nat.le_of_ble_eq_true rfl) rfl rfl ?_
        refine v_aload_n (C.wl _ _) dL_build_89 rfl rfl ?_
        refine l_get (k := 600) C inG5 (ci := 6) rfl 2 (by decide) (tg5 6 rfl rfl) rfl ⟨by decide, by decide⟩ (cW_6 hR.1.1) (sm_r (by decide) hR.1.2.2.2.1 ⟨by decide, by decide⟩) dL_build_90 ?_
        refine v_iload (C.wl _ _) dL_build_93 rfl ?_
        refine v_iload (C.wl _ _) dL_build_95 rfl ?_
        refine l_iast (k := 601) (n := nfO (wr t 0 1 (nI n))) (a := f) C ⟨by decide, by decide⟩ hR.2.1.1.1.1 hR.2.1.1.1.2 ⟨hfs, by omega⟩ dL_build_97 ?_
        have hR1 := Sim_hgt (o := nI (1 + h)) hIs hR hfs
        have hnf1 : nfO (wr (wr t 0 1 (nI n)) 5 f (nI (1 + h))) = nfO (wr t 0 1 (nI n)) := by unfold nfO; rw [wr_row _ _ _ _ (by decide)]
        have hF1 : Fr (wr m 601 f (nI (1 + h))) 900 := hF.wi (k := 601) (j := f) (x := nI (1 + h)) (by omega) (by omega) hR.2.1.1.1.1
        generalize hs1 : wr (wr t 0 1 (nI n)) 5 f (nI (1 + h)) = s1 at hR1 hnf1
        generalize wr m 601 f (nI (1 + h)) = m1 at hR1 hF1 ⊢
        have hfs1 : f < nfO s1 := by omega
        have hn5 : nfO s1 ≤ 5 := by omega
        refine v_iconst (v := 1) (C.wl _ _) dL_build_98 (by decide) ?_
        refine v_iload (C.wl _ _) dL_build_99 rfl ?_
        refine v_iconst (v := 3) (C.wl _ _) dL_build_101 (by decide) ?_
        refine v_ishr (C.wl _ _) dL_build_102 ?_
        refine v_iconst (v := 4) (C.wl _ _) dL_build_103 (by decide) ?_
        refine v_callSi (n := 2) (as := [.int ((r50 >>> ((2 + (4 * (nI f))) &&& 31)) >>> (3 &&& 31)), .int (nI 4)]) (C.wl _ _) (l_below _ Z ad m1 ((r50 >>> ((2 + (4 * (nI f))) &&& 31)) >>> (3 &&& 31)) 4 ⟨by omega, by omega⟩ g) (gs (tg3 17 rfl rfl) (tg3 18 rfl rfl) (tg1 0 rfl rfl) (tg3 19 rfl rfl)) (by decide +kernel) ⟨Nat.le_of_ble_eq_true rfl, Nat.le_of_ble_eq_true rfl⟩ rfl rfl (Nat.le_of_ble_eq_true rfl) dL_build_104 ⟨(by show 60 + 10 * f + 0 ≤ 600; omega), (by show 500 + 100 * f + 0 ≤ 6000; omega)⟩ (fun r104 gg104 hp104 => ?_)
        obtain ⟨hr104, hgg104⟩ := hp104
        rw [hr104, hgg104]
        have bv : bwN ((r50 >>> ((2 + (4 * (nI f))) &&& 31)) >>> (3 &&& 31)) 4 < 4 := bwN_lt _ (by omega)
        generalize bwN ((r50 >>> ((2 + (4 * (nI f))) &&& 31)) >>> (3 &&& 31)) 4 = v at bv ⊢
        refine v_iadd (C.wl _ _) dL_build_107 ?_
        refine v_topi (y := nI (1 + v)) (by rw [show (1 : Int32) = nI 1 from rfl, nI_add]) ?_
        refine v_istore (lo' := [some (.ref (ad 30)), some (.ref S.1), some (.ref (ad 600)), some (.int (nI n)), some (.int (nI f)), some (.int (r50 >>> ((2 + (4 * (nI f))) &&& 31))), some (.int (nI (1 + h))), some (.int (nI (1 + v))), v8, v9, v10, v11]) (C.wl _ _) dL_build_108 (Nat.le_of_ble_eq_true rfl) rfl rfl ?_
        refine v_aload_n (C.wl _ _) dL_build_110 rfl rfl ?_
        refine l_get (k := 600) C inG5 (ci := 6) rfl 3 (by decide) (tg5 8 rfl rfl) rfl ⟨by decide, by decide⟩ (cW_6 hR1.1.1) (sm_r (by decide) hR1.1.2.2.2.2.1 ⟨by decide, by decide⟩) dL_build_111 ?_
        refine v_iload (C.wl _ _) dL_build_114 rfl ?_
        refine l_aald (k := 602) (n := nfO s1) (a := f) (k2 := 610 + f) C ⟨by decide, by decide⟩ (Or.inr (Or.inl hR1.2.1.2.1.1.1)) hR1.2.1.2.1.1.2 ⟨hfs1, by omega⟩ (hR1.2.1.2.1.2 _ hfs1) ⟨by omega, by omega⟩ dL_build_116 ?_
        refine v_astore (lo' := [some (.ref (ad 30)), some (.ref S.1), some (.ref (ad 600)), some (.int (nI n)), some (.int (nI f)), some (.int (r50 >>> ((2 + (4 * (nI f))) &&& 31))), some (.int (nI (1 + h))), some (.int (nI (1 + v))), some (.ref (ad (610 + f))), v9, v10, v11]) (C.wl _ _) dL_build_117 (Nat.le_of_ble_eq_true rfl) rfl rfl ?_
        refine v_aload (C.wl _ _) dL_build_119 rfl ?_
        refine l_len (k := 610 + f) (n := 10) C ⟨by omega, by omega⟩ (Or.inr (Or.inl (hR1.2.1.2.2 _ hfs1).1.1)) (hR1.2.1.2.2 _ hfs1).1.2 (by decide) dL_build_121 ?_
        refine v_istore (lo' := [some (.ref (ad 30)), some (.ref S.1), some (.ref (ad 600)), some (.int (nI n)), some (.int (nI f)), some (.int (r50 >>> ((2 + (4 * (nI f))) &&& 31))), some (.int (nI (1 + h))), some (.int (nI (1 + v))), some (.ref (ad (610 + f))), some (.int (nI 10)), v10, v11]) (C.wl _ _) dL_build_122 (Nat.le_of_ble_eq_true rfl) rfl rfl ?_
        refine v_iconst (v := 0) (C.wl _ _) dL_build_124 (by decide) ?_
        refine v_istore (lo' := [some (.ref (ad 30)), some (.ref S.1), some (.ref (ad 600)), some (.int (nI n)), some (.int (nI f)), some (.int (r50 >>> ((2 + (4 * (nI f))) &&& 31))), some (.int (nI (1 + h))), some (.int (nI (1 + v))), some (.ref (ad (610 + f))), some (.int (nI 10)), some (.int 0), v11]) (C.wl _ _) dL_build_125 (Nat.le_of_ble_eq_true rfl) rfl rfl ?_
        refine v_lo (lo' := [some (.ref (ad 30)), some (.ref S.1), some (.ref (ad 600)), some (.int (nI n)), some (.int (nI f)), some (.int (r50 >>> ((2 + (4 * (nI f))) &&& 31))), some (.int (nI (1 + h))), some (.int (nI (1 + v))), some (.ref (ad (610 + f))), some (.int (nI 10)), some (.int (nI 0)), v11]) rfl ?_
        have inn : ∀ (n2 i : Nat) (m2 : MG) (v11 : Option Value), 10 - i < n2 → i ≤ 10 → Bk (10 * nfO s1) m1 m2 0 (bB s1 f (nI (1 + v)) i) → V P RB (Z.wl ad m2) [some (.ref (ad 30)), some (.ref S.1), some (.ref (ad 600)), some (.int (nI n)), some (.int (nI f)), some (.int (r50 >>> ((2 + (4 * (nI f))) &&& 31))), some (.int (nI (1 + h))), some (.int (nI (1 + v))), some (.ref (ad (610 + f))), some (.int (nI 10)), some (.int (nI i)), v11] 127 [] g (60 + 10 * f) (500 + 100 * f) := by
          intro n2
          induction n2 with
          | zero => intro i m2 v11 hn; exact absurd hn (Nat.not_lt_zero _)
          | succ n2 ih2 =>
            intro i m2 v11 hn2 hi2 hB
            refine v_iload (C.wl _ _) dL_build_127 rfl ?_
            refine v_iload (C.wl _ _) dL_build_129 rfl ?_
            refine v_icmp_ge (tgt := 153) (C.wl _ _) dL_build_131 (by decide) (fun h131 => ?_) (fun h131 => ?_)
            · have hie : i = 10 := Nat.le_antisymm hi2 ((nI_leI (a := 10) (by decide) (by omega)).mp h131)
              subst hie
              obtain ⟨⟨hcF, hcB, haB⟩, hS2, hn2f, hn2p, h29⟩ := Sim_ft hE.1.2.2.1 hE.1.1 hft hfn hn (h := 1 + h) (v := 1 + v) ⟨by omega, by omega⟩ ⟨by omega, by omega⟩ hs1.symm hR1 hB
              have hL1 := (LE_fount hE (by omega) (nI (1 + h))).1
              have hL2 := (LE_buyAll hL1 (by omega) (nI f) (nI (1 + v))).1
              refine l_clean (IvM_wn hL2.1.1 (by omega)) hS2 (fun ad9 m9 hA9 hS9 hF9 => ?_)
              refine v_lo (lo' := [some (.ref (ad9 30)), some (.ref S.1), some (.ref (ad9 600)), some (.int (nI n)), some (.int (nI f)), some (.int (r50 >>> ((2 + (4 * (nI f))) &&& 31))), some (.int (nI (1 + h))), some (.int (nI (1 + v))), some (.ref (ad9 (610 + f))), some (.int (nI 10)), some (.int (nI 10)), v11]) (by rw [hA9 30, hA9 600, hA9 (610 + f)]) ?_
              refine v_aload_n (C.wl _ _) dL_build_153 rfl rfl ?_
              refine v_iload (C.wl _ _) dL_build_154 rfl ?_
              refine v_callM (n := 1) (k := 30) (as := [.int (nI (1 + h))]) (C.wl _ _) hW9.S (x_fount _ hP9 (Z.wl ad9 m9) (nI (1 + h)) t g hE.1.1 hE.1.2.2.1 hRl) (gv (tg5 31 rfl rfl) (tg5 32 rfl rfl) (tg5 33 rfl rfl) (tg1 1 rfl rfl) (tg5 34 rfl rfl)) (by decide +kernel) ⟨Nat.le_of_ble_eq_true rfl, Nat.le_of_ble_eq_true rfl⟩ rfl cx_T rfl rfl (Nat.le_of_ble_eq_true rfl) dL_build_156 ⟨(by show 60 + 10 * f + 6 ≤ 600; omega), (by show 500 + 100 * f + 60 ≤ 6000; omega)⟩ (fun E q g156 hp156 => absurd hcF hp156.1) (fun r156 ad156 g156 hp156 => ?_)
              obtain ⟨-, hr156, hRl156, -, hA156⟩ := hp156
              have hA156 : (∀ k, k < 36 → ad156 k = ad9 k) ∧ ∀ k, 600 ≤ k → ad156 k = ad9 k := hA156
              rw [hr156, congrArg nI hft]
              show V P RB (Z.wl ad156 m9) [some (.ref (ad9 30)), some (.ref S.1), some (.ref (ad9 600)), some (.int (nI n)), some (.int (nI f)), some (.int (r50 >>> ((2 + (4 * (nI f))) &&& 31))), some (.int (nI (1 + h))), some (.int (nI (1 + v))), some (.ref (ad9 (610 + f))), some (.int (nI 10)), some (.int (nI 10)), v11] 159 [.int (nI f)] g156 (60 + 10 * f + 6) (500 + 100 * f + 60)
              refine v_lo (lo' := [some (.ref (ad156 30)), some (.ref S.1), some (.ref (ad156 600)), some (.int (nI n)), some (.int (nI f)), some (.int (r50 >>> ((2 + (4 * (nI f))) &&& 31))), some (.int (nI (1 + h))), some (.int (nI (1 + v))), some (.ref (ad156 (610 + f))), some (.int (nI 10)), some (.int (nI 10)), v11]) (by rw [hA156.1 30 (by decide), hA156.2 600 (by omega), hA156.2 (610 + f) (by omega)]) ?_
              refine v_iload (C.wl _ _) dL_build_159 rfl ?_
              refine v_icmp_ne (tgt := 180) (C.wl _ _) dL_build_161 (by decide) (fun h161 => ?_) (fun h161 => ?_)
              · exact absurd rfl h161
              · refine v_aload_n (C.wl _ _) dL_build_164 rfl rfl ?_
                refine v_iload (C.wl _ _) dL_build_165 rfl ?_
                refine v_iload (C.wl _ _) dL_build_167 rfl ?_
                refine v_callX (n := 2) (k := 30) (as := [.int (nI f), .int (nI (1 + v))]) (C.wl _ _) hW9.S (x_buyAll _ hP9 (Z.wl ad156 m9) (nI f) (nI (1 + v)) (stFount t (nI (1 + h))) g156 hL1.1.1 hL1.1.2.1 hRl156) (gv (tg4 229 rfl rfl) (tg4 230 rfl rfl) (tg4 231 rfl rfl) (tg1 1 rfl rfl) (tg4 232 rfl rfl)) (by decide +kernel) ⟨Nat.le_of_ble_eq_true rfl, Nat.le_of_ble_eq_true rfl⟩ rfl cx_T rfl rfl (Nat.le_of_ble_eq_true rfl) dL_build_169 ⟨(by show 60 + 10 * f + 6 + 1 ≤ 600; omega), (by show 500 + 100 * f + 60 + 6 ≤ 6000; omega)⟩ (fun E q g169 hp169 => absurd hcB hp169.1) (fun r169 g169 hp169 => ?_)
                obtain ⟨-, hr169, hRl169, hK169⟩ := hp169
                refine v_topi (y := nI (10 * (1 + v))) (hr169.trans haB) ?_
                refine v_bipush (v := 10) (C.wl _ _) dL_build_172 (by decide) ?_
                refine v_iload (C.wl _ _) dL_build_174 rfl ?_
                refine v_imul (C.wl _ _) dL_build_176 ?_
                refine v_topi (y := nI (10 * (1 + v))) (by rw [show (10 : Int32) = nI 10 from rfl, nI_mul]) ?_
                refine v_icmp_eq (tgt := 182) (C.wl _ _) dL_build_177 (by decide) (fun h177 => ?_) (fun h177 => ?_)
                · refine v_iinc (lo' := [some (.ref (ad156 30)), some (.ref S.1), some (.ref (ad156 600)), some (.int (nI n)), some (.int ((nI f) + 1)), some (.int (r50 >>> ((2 + (4 * (nI f))) &&& 31))), some (.int (nI (1 + h))), some (.int (nI (1 + v))), some (.ref (ad156 (610 + f))), some (.int (nI 10)), some (.int (nI 10)), v11]) (C.wl _ _) dL_build_182 rfl rfl rfl rfl ?_
                  refine v_goto (tgt := 42) (C.wl _ _) dL_build_185 (by decide) ?_
                  refine v_lo (lo' := [some (.ref (ad156 30)), some (.ref S.1), some (.ref (ad156 600)), some (.int (nI n)), some (.int (nI (f + 1))), some (.int (r50 >>> ((2 + (4 * (nI f))) &&& 31))), some (.int (nI (1 + h))), some (.int (nI (1 + v))), some (.ref (ad156 (610 + f))), some (.int (nI 10)), some (.int (nI 10)), v11]) (by rw [nI_succ f]) ?_
                  refine v_wide (k := 60 + 10 * (f + 1)) (n := 500 + 100 * (f + 1)) (by show 60 + 10 * f + 6 + 1 ≤ 60 + 10 * (f + 1); omega) (by show 500 + 100 * f + 60 + 6 ≤ 500 + 100 * (f + 1); omega) ?_
                  exact ih (f + 1) ad156 m9 _ g169 (N + 1 + 1) _ _ _ _ _ _ _ (by omega) (by omega) (fun k hk => (hA156.1 k hk).trans ((hA9 k).trans (hA k hk))) (by omega) hL2 hS9 hF9 hRl169 hn2f (hn2p.trans hpt) (fun k hk => by rw [h29]; exact h9t k hk)
                · exact absurd rfl h177
            · have hii : i < 10 := Nat.lt_of_not_le fun q => h131 ((nI_leI (a := 10) (by decide) (by omega)).mpr q)
              refine v_aload (C.wl _ _) dL_build_134 rfl ?_
              refine v_iload (C.wl _ _) dL_build_136 rfl ?_
              refine l_aald (k := 610 + f) (n := 10) (a := i) (k2 := 620 + (10 * f + i)) C ⟨by omega, by omega⟩ (Or.inl ((hB.2.1 _ _ (by decide)).trans (hR1.2.1.2.2 _ hfs1).1.1)) ((hB.2.1 _ _ (by decide)).trans (hR1.2.1.2.2 _ hfs1).1.2) ⟨hii, by decide⟩ (((congrFun (hB.1 _ (by omega)) _).trans ((hR1.2.1.2.2 _ hfs1).2 _ hii)).trans (congrArg nI (Nat.add_assoc _ _ _))) ⟨by omega, by omega⟩ dL_build_138 ?_
              refine v_astore (lo' := [some (.ref (ad 30)), some (.ref S.1), some (.ref (ad 600)), some (.int (nI n)), some (.int (nI f)), some (.int (r50 >>> ((2 + (4 * (nI f))) &&& 31))), some (.int (nI (1 + h))), some (.int (nI (1 + v))), some (.ref (ad (610 + f))), some (.int (nI 10)), some (.int (nI i)), some (.ref (ad (620 + (10 * f + i))))]) (C.wl _ _) dL_build_139 (Nat.le_of_ble_eq_true rfl) rfl rfl ?_
              refine v_aload (C.wl _ _) dL_build_141 rfl ?_
              refine v_iconst (v := 0) (C.wl _ _) dL_build_143 (by decide) ?_
              refine v_iload (C.wl _ _) dL_build_144 rfl ?_
              refine l_iast (k := 620 + (10 * f + i)) (n := 3) (a := 0) C ⟨by omega, by omega⟩ ((hB.2.1 _ _ (by decide)).trans ((Nat.add_assoc 620 (10 * f) i) ▸ hR1.2.2.1 _ _ hfs1 hii).1.1) ((hB.2.1 _ _ (by decide)).trans ((Nat.add_assoc 620 (10 * f) i) ▸ hR1.2.2.1 _ _ hfs1 hii).1.2) (by omega) dL_build_146 ?_
              refine v_iinc (lo' := [some (.ref (ad 30)), some (.ref S.1), some (.ref (ad 600)), some (.int (nI n)), some (.int (nI f)), some (.int (r50 >>> ((2 + (4 * (nI f))) &&& 31))), some (.int (nI (1 + h))), some (.int (nI (1 + v))), some (.ref (ad (610 + f))), some (.int (nI 10)), some (.int ((nI i) + 1)), some (.ref (ad (620 + (10 * f + i))))]) (C.wl _ _) dL_build_147 rfl rfl rfl rfl ?_
              refine v_goto (tgt := 127) (C.wl _ _) dL_build_150 (by decide) ?_
              refine v_lo (lo' := [some (.ref (ad 30)), some (.ref S.1), some (.ref (ad 600)), some (.int (nI n)), some (.int (nI f)), some (.int (r50 >>> ((2 + (4 * (nI f))) &&& 31))), some (.int (nI (1 + h))), some (.int (nI (1 + v))), some (.ref (ad (610 + f))), some (.int (nI 10)), some (.int (nI (i + 1))), some (.ref (ad (620 + (10 * f + i))))]) (by rw [nI_succ i]) ?_
              exact ih2 (i + 1) _ _ (by omega) (by omega) (bB_w hB (by omega))
        refine inn _ 0 m1 _ (Nat.lt_succ_self _) (Nat.zero_le _) (Bk.rf (fun x hx => ?_))
        have h := (hR1.2.2.1 (x / 10) (x % 10) (by omega) (by omega)).2.1
        rw [show 620 + 10 * (x / 10) + x % 10 = 620 + x by omega, show 10 * (x / 10) + x % 10 = x by omega] at h
        rw [h]; unfold bB; rw [if_neg (by omega)]
      refine v_if_ne (tgt := 81) (C.wl _ _) dL_build_73 (by decide) (fun _ => ?_) (fun _ => ?_)
      · exact v_bipush (v := nI 9) (C.wl _ _) dL_build_81 rfl (J73 9 (Or.inr rfl))
      · refine v_bipush (v := nI 20) (C.wl _ _) dL_build_76 rfl ?_
        exact v_goto (tgt := 83) (C.wl _ _) dL_build_78 (by decide) (J73 20 (Or.inl rfl))
