/-! THE REFERENCE: told, about, count -/
theorem IvM_nl {g : MG} (h : IvM g) {p : Nat} (hp : p < 6) : g 14 p = nI (nlO g p) ∧ nlO g p ≤ 4 := by
  obtain ⟨n, hn, he⟩ := h.2.2.2.1 p hp
  have e : nlO g p = n := by unfold nlO; rw [he]; exact iz_nI (by omega)
  rw [e]; exact ⟨he, hn⟩
theorem IvM_W {g : MG} (h : IvM g) : ∀ j, j < 24 → g 17 j = nI (wdO g j) ∧ wdO g j < 2 ^ 31 := by
  intro j hj
  obtain ⟨n, hn, he⟩ := h.2.2.2.2.2.2.1 j hj
  have e : wdO g j = n := by unfold wdO; rw [he]; exact iz_nI (by omega)
  rw [e]; exact ⟨he, by omega⟩
theorem IvM_t {g : MG} (h : IvM g) {p : Nat} (hp : p < 6) : g 12 p = nI (iz (g 12 p)) ∧ iz (g 12 p) < 4 := by
  obtain ⟨n, hn, he⟩ := h.2.2.2.2.1 p hp
  have e : iz (g 12 p) = n := by rw [he]; exact iz_nI (by omega)
  rw [e]; exact ⟨he, hn⟩
theorem IvM_F {g : MG} (h : IvM g) {p : Nat} (hp : p < 6) : g 15 p = 1 → ∀ k, k < nlO g p → ∃ f, f < 5 ∧ g 18 (4 * p + k) = nI f := fun h1 k hk => (h.2.2.2.2.2.2.2 p k hp h1 hk).1
theorem IvM_T {g : MG} (h : IvM g) {p : Nat} (hp : p < 6) : g 15 p = 1 → ∀ k, k < nlO g p → g 20 (4 * p + k) = nI (tkO g (4 * p + k)) ∧ tkO g (4 * p + k) < 2 ^ 31 := by
  intro h1 k hk
  obtain ⟨n, hn, he⟩ := (h.2.2.2.2.2.2.2 p k hp h1 hk).2
  have e : tkO g (4 * p + k) = n := by unfold tkO; rw [he]; exact iz_nI (by omega)
  rw [e]; exact ⟨he, by omega⟩
theorem IvM_eq {g g' : MG} (h : IvM g) (h1 : g' 0 1 = g 0 1) (h2 : g' 0 2 = g 0 2) (hr : ∀ k, 9 ≤ k → k ≤ 20 → g' k = g k) : IvM g' := by
  unfold IvM nlO at h ⊢
  rw [h1, h2, hr 9 (by decide) (by decide), hr 14 (by decide) (by decide), hr 12 (by decide) (by decide), hr 15 (by decide) (by decide), hr 17 (by decide) (by decide), hr 18 (by decide) (by decide), hr 20 (by decide) (by decide)]
  exact h
def ltsO (g : MG) (p : Nat) : Int32 := sumI (fun k => nI (szw (wdO g (4 * p + k)))) (nlO g p)
def toldO (g : MG) (p w : Nat) : Int32 := match w with
  | 0 => g 12 p
  | 1 => g 13 p
  | 2 => g 14 p
  | 3 => ltsO g p
  | 4 => g 15 p
  | 5 => flO g p (nlO g p)
  | 6 => g 16 p
  | _ => prO g (wdO g) p (nlO g p) (iz (g 12 p))
def ltoO (g : MG) (p k : Nat) (v : Int32) : Int32 := if v = 0 then nI (szw (wdO g (4 * p + k))) else if g 15 p = 0 then -1 else if v = 1 then g 18 (4 * p + k) else if v = 2 then g 19 (4 * p + k) else g 20 (4 * p + k)
def cdTold (g : MG) (p v : Int32) : Nat := if isN (npO g) p = false ∨ inB v 0 7 = false then 1 else 0
def cdAbout (g : MG) (p k v : Int32) : Nat := if isN (npO g) p = false ∨ isN (nlO g (iz p)) k = false ∨ inB v 0 3 = false then 1 else 0
def ctO (g : MG) (w : Nat) : Int32 := match w with
  | 0 => g 0 1
  | 1 => g 0 2
  | 2 => sumI (g 15) (npO g)
  | 3 => g 0 3
  | 4 => g 0 4
  | 5 => sumI (g 6) 50
  | _ => sumI (g 7) 50
def cdCount (v : Int32) : Nat := if inB v 0 6 = false then 1 else 0
theorem inB_ex {n : Nat} {v : Int32} (hn : n < 100) (h : inB v 0 (nI n) = true) : ∃ a, a < n + 1 ∧ v = nI a := by
  obtain ⟨h1, h2⟩ := inB_t.mp h
  have e : (nI n).toInt = n := nI_toInt (by omega)
  have z : (0 : Int32).toInt = 0 := rfl
  refine ⟨iz v, ?_, (nI_iz (by omega)).symm⟩
  have : (iz v : Int) = v.toInt := by unfold iz; rw [Int32.toNatClampNeg]; omega
  omega
set_option maxRecDepth 100000 in
theorem c_posterTold (l : Launch) (Z : Zc) (p w : Nat) (g : MG) (hI : IvM g) (hp : p < 6) (hw : w < 8) : MI l yX4_posterTold cX4_posterTold 3 (some .int) (rmz 3 59 0 0) Z [.ref (Z.ad 0), .int (nI p), .int (nI w)] g (fun r g' => r = toldO g p w ∧ g' = g) := by
  refine ent_i (own := RX4) (lo := [some (.ref (Z.ad 0)), some (.int (nI p)), some (.int (nI w))]) (by decide) rfl (by simp [lg_sl, Value.category]) rfl (fun P hl C ret => ?_)
  refine v_iload_n C dX4_posterTold_0 rfl rfl ?_
  obtain rfl | rfl | rfl | rfl | rfl | rfl | rfl | rfl := (show w = 0 ∨ w = 1 ∨ w = 2 ∨ w = 3 ∨ w = 4 ∨ w = 5 ∨ w = 6 ∨ w = 7 by omega)
  · refine v_tabIn (off := 43) (tgt := 44) C dX4_posterTold_1 (by decide) (by decide) rfl (by decide) ?_
    refine v_aload_n C dX4_posterTold_44 rfl rfl ?_
    refine v_get C inG4 rfl 12 (by decide) (tg3 207 rfl rfl) rfl cx_M rfl dX4_posterTold_45 ?_
    refine v_iload_n C dX4_posterTold_48 rfl rfl ?_
    refine v_ialdN (a := p) C cxA12 ⟨hp, by decide⟩ dX4_posterTold_49 ?_
    exact ret _ _ _ _ dX4_posterTold_50 ⟨rfl, rfl⟩
  · refine v_tabIn (off := 50) (tgt := 51) C dX4_posterTold_1 (by decide) (by decide) rfl (by decide) ?_
    refine v_aload_n C dX4_posterTold_51 rfl rfl ?_
    refine v_get C inG4 rfl 13 (by decide) (tg3 208 rfl rfl) rfl cx_M rfl dX4_posterTold_52 ?_
    refine v_iload_n C dX4_posterTold_55 rfl rfl ?_
    refine v_ialdN (a := p) C cxA13 ⟨hp, by decide⟩ dX4_posterTold_56 ?_
    exact ret _ _ _ _ dX4_posterTold_57 ⟨rfl, rfl⟩
  · refine v_tabIn (off := 57) (tgt := 58) C dX4_posterTold_1 (by decide) (by decide) rfl (by decide) ?_
    refine v_aload_n C dX4_posterTold_58 rfl rfl ?_
    refine v_get C inG4 rfl 14 (by decide) (tg3 209 rfl rfl) rfl cx_M rfl dX4_posterTold_59 ?_
    refine v_iload_n C dX4_posterTold_62 rfl rfl ?_
    refine v_ialdN (a := p) C cxA14 ⟨hp, by decide⟩ dX4_posterTold_63 ?_
    exact ret _ _ _ _ dX4_posterTold_64 ⟨rfl, rfl⟩
  · refine v_tabIn (off := 64) (tgt := 65) C dX4_posterTold_1 (by decide) (by decide) rfl (by decide) ?_
    refine v_aload_n C dX4_posterTold_65 rfl rfl ?_
    refine v_iload_n C dX4_posterTold_66 rfl rfl ?_
    refine v_callVi (n := 1) (as := [.int (nI p)]) C (c_letters _ Z p (nlO g p) (wdO g) g hp (IvM_nl hI hp).1 (IvM_nl hI hp).2 (IvM_W hI)) (gv (tg4 164 rfl rfl) (tg4 166 rfl rfl) (tg0 34 rfl rfl) (tg1 6 rfl rfl) (tg4 167 rfl rfl)) (by decide +kernel) ⟨Nat.le_of_ble_eq_true rfl, Nat.le_of_ble_eq_true rfl⟩ rfl cx_M rfl rfl (Nat.le_of_ble_eq_true rfl) dX4_posterTold_67 ⟨Nat.le_of_ble_eq_true rfl, Nat.le_of_ble_eq_true rfl⟩ (fun r67 g67 hp67 => ?_)
    obtain ⟨rfl, hg67⟩ := hp67
    rw [hg67]
    exact ret _ _ _ _ dX4_posterTold_70 ⟨rfl, rfl⟩
  · refine v_tabIn (off := 70) (tgt := 71) C dX4_posterTold_1 (by decide) (by decide) rfl (by decide) ?_
    refine v_aload_n C dX4_posterTold_71 rfl rfl ?_
    refine v_get C inG4 rfl 15 (by decide) (tg3 210 rfl rfl) rfl cx_M rfl dX4_posterTold_72 ?_
    refine v_iload_n C dX4_posterTold_75 rfl rfl ?_
    refine v_ialdN (a := p) C cxA15 ⟨hp, by decide⟩ dX4_posterTold_76 ?_
    exact ret _ _ _ _ dX4_posterTold_77 ⟨rfl, rfl⟩
  · refine v_tabIn (off := 77) (tgt := 78) C dX4_posterTold_1 (by decide) (by decide) rfl (by decide) ?_
    refine v_aload_n C dX4_posterTold_78 rfl rfl ?_
    refine v_iload_n C dX4_posterTold_79 rfl rfl ?_
    refine v_callVi (n := 1) (as := [.int (nI p)]) C (c_flawsOf _ Z p (nlO g p) g hp (IvM_nl hI hp).1 (IvM_nl hI hp).2) (gv (tg4 135 rfl rfl) (tg4 137 rfl rfl) (tg0 30 rfl rfl) (tg1 6 rfl rfl) (tg4 138 rfl rfl)) (by decide +kernel) ⟨Nat.le_of_ble_eq_true rfl, Nat.le_of_ble_eq_true rfl⟩ rfl cx_M rfl rfl (Nat.le_of_ble_eq_true rfl) dX4_posterTold_80 ⟨Nat.le_of_ble_eq_true rfl, Nat.le_of_ble_eq_true rfl⟩ (fun r80 g80 hp80 => ?_)
    obtain ⟨rfl, hg80⟩ := hp80
    rw [hg80]
    exact ret _ _ _ _ dX4_posterTold_83 ⟨rfl, rfl⟩
  · refine v_tabIn (off := 83) (tgt := 84) C dX4_posterTold_1 (by decide) (by decide) rfl (by decide) ?_
    refine v_aload_n C dX4_posterTold_84 rfl rfl ?_
    refine v_get C inG4 rfl 16 (by decide) (tg3 211 rfl rfl) rfl cx_M rfl dX4_posterTold_85 ?_
    refine v_iload_n C dX4_posterTold_88 rfl rfl ?_
    refine v_ialdN (a := p) C cxA16 ⟨hp, by decide⟩ dX4_posterTold_89 ?_
    exact ret _ _ _ _ dX4_posterTold_90 ⟨rfl, rfl⟩
  · refine v_tabOut (tgt := 91) C dX4_posterTold_1 (Or.inr (by decide)) (by decide) ?_
    refine v_aload_n C dX4_posterTold_91 rfl rfl ?_
    refine v_iload_n C dX4_posterTold_92 rfl rfl ?_
    refine v_callVi (n := 1) (as := [.int (nI p)]) C (c_proof _ Z p (nlO g p) (iz (g 12 p)) (wdO g) g hp (IvM_nl hI hp).1 (IvM_nl hI hp).2 (IvM_W hI) (IvM_t hI hp).2 (IvM_t hI hp).1 (IvM_F hI hp) (hI.2.2.2.2.2.1 p hp)) (gv (tg4 131 rfl rfl) (tg4 133 rfl rfl) (tg0 29 rfl rfl) (tg1 6 rfl rfl) (tg4 134 rfl rfl)) (by decide +kernel) ⟨Nat.le_of_ble_eq_true rfl, Nat.le_of_ble_eq_true rfl⟩ rfl cx_M rfl rfl (Nat.le_of_ble_eq_true rfl) dX4_posterTold_93 ⟨Nat.le_of_ble_eq_true rfl, Nat.le_of_ble_eq_true rfl⟩ (fun r93 g93 hp93 => ?_)
    obtain ⟨rfl, hg93⟩ := hp93
    rw [hg93]
    exact ret _ _ _ _ dX4_posterTold_96 ⟨rfl, rfl⟩
set_option maxRecDepth 100000 in
theorem c_told (l : Launch) (Z : Zc) (p v : Int32) (g : MG) (hI : IvM g) : MI l yX4_told cX4_told 3 (some .int) (rmz 4 81 0 0) Z [.ref (Z.ad 0), .int p, .int v] g (PM g (cdTold g p v) (toldO g (iz p) (iz v)) (g)) := by
  refine ent_i (own := RX4) (lo := [some (.ref (Z.ad 0)), some (.int p), some (.int v)]) (by decide) rfl (by simp [lg_sl, Value.category]) rfl (fun P hl C ret => ?_)
  obtain ⟨⟨nf, hf5, hnf⟩, ⟨np, hp6, hnp⟩, hot, hnl, htn, his, hwd, htk⟩ := id hI
  have enf : nfO g = nf := by unfold nfO; rw [hnf]; exact iz_nI (by omega)
  have enp : npO g = np := by unfold npO; rw [hnp]; exact iz_nI (by omega)
  refine v_aload_n C dX4_told_0 rfl rfl ?_
  refine v_iconst (v := 0) C dX4_told_1 (by decide) ?_
  refine v_put C inG4 rfl tyX4 tyX4_ok nmX4 0 (by decide) (tg3 195 rfl rfl) rfl rfl (ty := .int) rfl rfl rfl cx_M (Nat.le_of_ble_eq_true rfl) rfl (by omega) cx_M dX4_told_2 ?_
  refine v_aload_n C dX4_told_5 rfl rfl ?_
  refine v_iload_n C dX4_told_6 rfl rfl ?_
  refine v_callVi (n := 1) (as := [.int p]) C (c_isPoster _ Z np p (wr g 0 0 0) hnp hp6) (gv (tg4 87 rfl rfl) (tg4 89 rfl rfl) (tg0 22 rfl rfl) (tg1 6 rfl rfl) (tg4 90 rfl rfl)) (by decide +kernel) ⟨Nat.le_of_ble_eq_true rfl, Nat.le_of_ble_eq_true rfl⟩ rfl cx_M rfl rfl (Nat.le_of_ble_eq_true rfl) dX4_told_7 ⟨Nat.le_of_ble_eq_true rfl, Nat.le_of_ble_eq_true rfl⟩ (fun r7 g7 hp7 => ?_)
  obtain ⟨rfl, hg7⟩ := hp7
  rw [hg7]
  refine v_if_eq (tgt := 32) C dX4_told_10 (by decide) (fun h10 => ?_) (fun h10 => ?_)
  · have k10 := bI_0.mp h10
    refine v_aload_n C dX4_told_32 rfl rfl ?_
    refine v_iconst (v := 1) C dX4_told_33 (by decide) ?_
    refine v_callVi (n := 1) (as := [.int 1]) C (c_no _ Z 1 (wr g 0 0 0)) (gv (tg4 48 rfl rfl) (tg4 50 rfl rfl) (tg0 20 rfl rfl) (tg1 6 rfl rfl) (tg4 51 rfl rfl)) (by decide +kernel) ⟨Nat.le_of_ble_eq_true rfl, Nat.le_of_ble_eq_true rfl⟩ rfl cx_M rfl rfl (Nat.le_of_ble_eq_true rfl) dX4_told_34 ⟨Nat.le_of_ble_eq_true rfl, Nat.le_of_ble_eq_true rfl⟩ (fun r34 g34 hp34 => ?_)
    obtain ⟨rfl, hg34⟩ := hp34
    rw [hg34]
    exact ret _ _ _ _ dX4_told_37 (PM.no (k := 1) (by unfold cdTold; rw [enp, if_pos (Or.inl k10)]) (by decide) rfl (fun j h1 h2 => wr_ne _ _ _ _ (Or.inr (by omega))) (fun q h1 h2 => wr_row _ _ _ _ (by omega)) (fun q hq => wr_row _ _ _ _ (by omega)))
  · have k10 := bI_1.mp h10
    refine v_iload_n C dX4_told_13 rfl rfl ?_
    refine v_iconst (v := 0) C dX4_told_14 (by decide) ?_
    refine v_bipush (v := 7) C dX4_told_15 (by decide) ?_
    refine v_callSi (n := 3) (as := [.int v, .int 0, .int 7]) C (c_isIn _ Z v 0 7 (wr g 0 0 0)) (gs (tg4 45 rfl rfl) (tg4 46 rfl rfl) (tg1 6 rfl rfl) (tg4 47 rfl rfl)) (by decide +kernel) ⟨Nat.le_of_ble_eq_true rfl, Nat.le_of_ble_eq_true rfl⟩ rfl rfl (Nat.le_of_ble_eq_true rfl) dX4_told_17 ⟨Nat.le_of_ble_eq_true rfl, Nat.le_of_ble_eq_true rfl⟩ (fun r17 g17 hp17 => ?_)
    obtain ⟨rfl, hg17⟩ := hp17
    rw [hg17]
    refine v_if_eq (tgt := 32) C dX4_told_20 (by decide) (fun h20 => ?_) (fun h20 => ?_)
    · have k20 := bI_0.mp h20
      refine v_aload_n C dX4_told_32 rfl rfl ?_
      refine v_iconst (v := 1) C dX4_told_33 (by decide) ?_
      refine v_callVi (n := 1) (as := [.int 1]) C (c_no _ Z 1 (wr g 0 0 0)) (gv (tg4 48 rfl rfl) (tg4 50 rfl rfl) (tg0 20 rfl rfl) (tg1 6 rfl rfl) (tg4 51 rfl rfl)) (by decide +kernel) ⟨Nat.le_of_ble_eq_true rfl, Nat.le_of_ble_eq_true rfl⟩ rfl cx_M rfl rfl (Nat.le_of_ble_eq_true rfl) dX4_told_34 ⟨Nat.le_of_ble_eq_true rfl, Nat.le_of_ble_eq_true rfl⟩ (fun r34 g34 hp34 => ?_)
      obtain ⟨rfl, hg34⟩ := hp34
      rw [hg34]
      exact ret _ _ _ _ dX4_told_37 (PM.no (k := 1) (by unfold cdTold; rw [enp, if_pos (Or.inr k20)]) (by decide) rfl (fun j h1 h2 => wr_ne _ _ _ _ (Or.inr (by omega))) (fun q h1 h2 => wr_row _ _ _ _ (by omega)) (fun q hq => wr_row _ _ _ _ (by omega)))
    · have k20 := bI_1.mp h20
      have hcd : cdTold g p v = 0 := by unfold cdTold; rw [enp, if_neg (by rw [k10, k20]; decide)]
      obtain ⟨a, ha, rfl⟩ := isN_ex k10
      obtain ⟨c, hc, rfl⟩ := inB_ex (n := 7) (by decide) k20
      have ea : iz (nI a) = a := iz_nI (by omega)
      have ec : iz (nI c) = c := iz_nI (by omega)
      refine v_aload_n C dX4_told_23 rfl rfl ?_
      refine v_iload_n C dX4_told_24 rfl rfl ?_
      refine v_iload_n C dX4_told_25 rfl rfl ?_
      refine v_callVi (n := 2) (as := [.int (nI a), .int (nI c)]) C (c_posterTold _ Z a c (wr g 0 0 0) (IvM_eq hI rfl rfl (fun k h1 h2 => wr_row _ _ _ _ (by omega))) (by omega) hc) (gv (tg4 160 rfl rfl) (tg4 162 rfl rfl) (tg0 33 rfl rfl) (tg1 6 rfl rfl) (tg4 163 rfl rfl)) (by decide +kernel) ⟨Nat.le_of_ble_eq_true rfl, Nat.le_of_ble_eq_true rfl⟩ rfl cx_M rfl rfl (Nat.le_of_ble_eq_true rfl) dX4_told_26 ⟨Nat.le_of_ble_eq_true rfl, Nat.le_of_ble_eq_true rfl⟩ (fun r26 g26 hp26 => ?_)
      obtain ⟨hr26, hg26⟩ := hp26
      rw [hg26]
      refine v_goto (tgt := 37) C dX4_told_29 (by decide) ?_
      exact ret _ _ _ _ dX4_told_37 ⟨by rw [hcd]; rfl, fun _ => by rw [ea, ec]; exact hr26, RE.of (fun j h1 h2 => wr_ne _ _ _ _ (Or.inr (by omega))) (fun q h1 h2 => wr_row _ _ _ _ (by omega)), fun q hq => wr_row _ _ _ _ (by omega)⟩
set_option maxRecDepth 100000 in
theorem c_lineTold (l : Launch) (Z : Zc) (p k : Nat) (v : Int32) (g : MG) (hI : IvM g) (hp : p < 6) (hk : k < nlO g p) : MI l yX4_lineTold cX4_lineTold 5 (some .int) (rmz 1 22 0 0) Z [.ref (Z.ad 0), .int (nI p), .int (nI k), .int v] g (fun r g' => r = ltoO g p k v ∧ g' = g) := by
  have hk4 := (IvM_nl hI hp).2
  refine ent_i (own := RX4) (lo := [some (.ref (Z.ad 0)), some (.int (nI p)), some (.int (nI k)), some (.int v), none]) (by decide) rfl (by simp [lg_sl, Value.category]) rfl (fun P hl C ret => ?_)
  refine v_iconst (v := 4) C dX4_lineTold_0 (by decide) ?_
  refine v_iload_n C dX4_lineTold_1 rfl rfl ?_
  refine v_imul C dX4_lineTold_2 ?_
  refine v_topi (y := nI (4 * p)) (by rw [show (4 : Int32) = nI 4 from rfl, nI_mul]) ?_
  refine v_iload_n C dX4_lineTold_3 rfl rfl ?_
  refine v_iadd C dX4_lineTold_4 ?_
  refine v_topi (y := nI (4 * p + k)) (nI_add _ _) ?_
  refine v_istore (lo' := [some (.ref (Z.ad 0)), some (.int (nI p)), some (.int (nI k)), some (.int v), some (.int (nI (4 * p + k)))]) C dX4_lineTold_5 (Nat.le_of_ble_eq_true rfl) rfl rfl ?_
  refine v_iload_n C dX4_lineTold_7 rfl rfl ?_
  refine v_if_ne (tgt := 22) C dX4_lineTold_8 (by decide) (fun h8 => ?_) (fun h8 => ?_)
  · refine v_aload_n C dX4_lineTold_22 rfl rfl ?_
    refine v_get C inG4 rfl 15 (by decide) (tg3 210 rfl rfl) rfl cx_M rfl dX4_lineTold_23 ?_
    refine v_iload_n C dX4_lineTold_26 rfl rfl ?_
    refine v_ialdN (a := p) C cxA15 ⟨hp, by decide⟩ dX4_lineTold_27 ?_
    refine v_if_ne (tgt := 33) C dX4_lineTold_28 (by decide) (fun h28 => ?_) (fun h28 => ?_)
    · refine v_iload_n C dX4_lineTold_33 rfl rfl ?_
      refine v_iconst (v := 1) C dX4_lineTold_34 (by decide) ?_
      refine v_icmp_ne (tgt := 48) C dX4_lineTold_35 (by decide) (fun h35 => ?_) (fun h35 => ?_)
      · refine v_iload_n C dX4_lineTold_48 rfl rfl ?_
        refine v_iconst (v := 2) C dX4_lineTold_49 (by decide) ?_
        refine v_icmp_ne (tgt := 63) C dX4_lineTold_50 (by decide) (fun h50 => ?_) (fun h50 => ?_)
        · refine v_aload_n C dX4_lineTold_63 rfl rfl ?_
          refine v_get C inG4 rfl 20 (by decide) (tg3 215 rfl rfl) rfl cx_M rfl dX4_lineTold_64 ?_
          refine v_iload C dX4_lineTold_67 rfl ?_
          refine v_ialdN (a := (4 * p + k)) C cxA20 (by omega) dX4_lineTold_69 ?_
          exact ret _ _ _ _ dX4_lineTold_70 ⟨by simp [ltoO, h8, h28, h35, h50], rfl⟩
        · refine v_aload_n C dX4_lineTold_53 rfl rfl ?_
          refine v_get C inG4 rfl 19 (by decide) (tg3 214 rfl rfl) rfl cx_M rfl dX4_lineTold_54 ?_
          refine v_iload C dX4_lineTold_57 rfl ?_
          refine v_ialdN (a := (4 * p + k)) C cxA19 (by omega) dX4_lineTold_59 ?_
          refine v_goto (tgt := 70) C dX4_lineTold_60 (by decide) ?_
          exact ret _ _ _ _ dX4_lineTold_70 ⟨by simp [ltoO, h8, h28, h35, h50], rfl⟩
      · refine v_aload_n C dX4_lineTold_38 rfl rfl ?_
        refine v_get C inG4 rfl 18 (by decide) (tg3 213 rfl rfl) rfl cx_M rfl dX4_lineTold_39 ?_
        refine v_iload C dX4_lineTold_42 rfl ?_
        refine v_ialdN (a := (4 * p + k)) C cxA18 (by omega) dX4_lineTold_44 ?_
        refine v_goto (tgt := 70) C dX4_lineTold_45 (by decide) ?_
        exact ret _ _ _ _ dX4_lineTold_70 ⟨by simp [ltoO, h8, h28, h35], rfl⟩
    · refine v_iconst (v := (-1)) C dX4_lineTold_31 (by decide) ?_
      exact ret _ _ _ _ dX4_lineTold_32 ⟨by simp [ltoO, h8, h28], rfl⟩
  · refine v_aload_n C dX4_lineTold_11 rfl rfl ?_
    refine v_get C inG4 rfl 17 (by decide) (tg3 212 rfl rfl) rfl cx_M rfl dX4_lineTold_12 ?_
    refine v_iload C dX4_lineTold_15 rfl ?_
    refine v_ialdN (a := (4 * p + k)) C cxA17 (by omega) dX4_lineTold_17 ?_
    refine v_topi (y := nI (wdO g (4 * p + k))) (IvM_W hI _ (by omega)).1 ?_
    refine v_callSi (n := 1) (as := [.int (nI (wdO g (4 * p + k)))]) C (c_size _ Z (wdO g (4 * p + k)) g (IvM_W hI _ (by omega)).2) (gs (tg4 108 rfl rfl) (tg4 109 rfl rfl) (tg1 6 rfl rfl) (tg4 110 rfl rfl)) (by decide +kernel) ⟨Nat.le_of_ble_eq_true rfl, Nat.le_of_ble_eq_true rfl⟩ rfl rfl (Nat.le_of_ble_eq_true rfl) dX4_lineTold_18 ⟨Nat.le_of_ble_eq_true rfl, Nat.le_of_ble_eq_true rfl⟩ (fun r18 g18 hp18 => ?_)
    obtain ⟨rfl, hg18⟩ := hp18
    rw [hg18]
    exact ret _ _ _ _ dX4_lineTold_21 ⟨by simp [ltoO, h8], rfl⟩
set_option maxRecDepth 100000 in
theorem c_about (l : Launch) (Z : Zc) (p k v : Int32) (g : MG) (hI : IvM g) : MI l yX4_about cX4_about 4 (some .int) (rmz 3 60 0 0) Z [.ref (Z.ad 0), .int p, .int k, .int v] g (PM g (cdAbout g p k v) (ltoO g (iz p) (iz k) v) (g)) := by
  refine ent_i (own := RX4) (lo := [some (.ref (Z.ad 0)), some (.int p), some (.int k), some (.int v)]) (by decide) rfl (by simp [lg_sl, Value.category]) rfl (fun P hl C ret => ?_)
  obtain ⟨⟨nf, hf5, hnf⟩, ⟨np, hp6, hnp⟩, hot, hnl, htn, his, hwd, htk⟩ := id hI
  have enf : nfO g = nf := by unfold nfO; rw [hnf]; exact iz_nI (by omega)
  have enp : npO g = np := by unfold npO; rw [hnp]; exact iz_nI (by omega)
  refine v_aload_n C dX4_about_0 rfl rfl ?_
  refine v_iconst (v := 0) C dX4_about_1 (by decide) ?_
  refine v_put C inG4 rfl tyX4 tyX4_ok nmX4 0 (by decide) (tg3 195 rfl rfl) rfl rfl (ty := .int) rfl rfl rfl cx_M (Nat.le_of_ble_eq_true rfl) rfl (by omega) cx_M dX4_about_2 ?_
  refine v_aload_n C dX4_about_5 rfl rfl ?_
  refine v_iload_n C dX4_about_6 rfl rfl ?_
  refine v_callVi (n := 1) (as := [.int p]) C (c_isPoster _ Z np p (wr g 0 0 0) hnp hp6) (gv (tg4 87 rfl rfl) (tg4 89 rfl rfl) (tg0 22 rfl rfl) (tg1 6 rfl rfl) (tg4 90 rfl rfl)) (by decide +kernel) ⟨Nat.le_of_ble_eq_true rfl, Nat.le_of_ble_eq_true rfl⟩ rfl cx_M rfl rfl (Nat.le_of_ble_eq_true rfl) dX4_about_7 ⟨Nat.le_of_ble_eq_true rfl, Nat.le_of_ble_eq_true rfl⟩ (fun r7 g7 hp7 => ?_)
  obtain ⟨rfl, hg7⟩ := hp7
  rw [hg7]
  refine v_if_eq (tgt := 48) C dX4_about_10 (by decide) (fun h10 => ?_) (fun h10 => ?_)
  · have k10 := bI_0.mp h10
    refine v_aload_n C dX4_about_48 rfl rfl ?_
    refine v_iconst (v := 1) C dX4_about_49 (by decide) ?_
    refine v_callVi (n := 1) (as := [.int 1]) C (c_no _ Z 1 (wr g 0 0 0)) (gv (tg4 48 rfl rfl) (tg4 50 rfl rfl) (tg0 20 rfl rfl) (tg1 6 rfl rfl) (tg4 51 rfl rfl)) (by decide +kernel) ⟨Nat.le_of_ble_eq_true rfl, Nat.le_of_ble_eq_true rfl⟩ rfl cx_M rfl rfl (Nat.le_of_ble_eq_true rfl) dX4_about_50 ⟨Nat.le_of_ble_eq_true rfl, Nat.le_of_ble_eq_true rfl⟩ (fun r50 g50 hp50 => ?_)
    obtain ⟨rfl, hg50⟩ := hp50
    rw [hg50]
    exact ret _ _ _ _ dX4_about_53 (PM.no (k := 1) (by unfold cdAbout; rw [enp, if_pos (Or.inl k10)]) (by decide) rfl (fun j h1 h2 => wr_ne _ _ _ _ (Or.inr (by omega))) (fun q h1 h2 => wr_row _ _ _ _ (by omega)) (fun q hq => wr_row _ _ _ _ (by omega)))
  · have k10 := bI_1.mp h10
    obtain ⟨a, ha, rfl⟩ := isN_ex k10
    have ea : iz (nI a) = a := iz_nI (by omega)
    refine v_iload_n C dX4_about_13 rfl rfl ?_
    refine v_iconst (v := 0) C dX4_about_14 (by decide) ?_
    refine v_aload_n C dX4_about_15 rfl rfl ?_
    refine v_get C inG4 rfl 14 (by decide) (tg3 209 rfl rfl) rfl cx_M rfl dX4_about_16 ?_
    refine v_iload_n C dX4_about_19 rfl rfl ?_
    refine v_ialdN (a := a) C cxA14 (by omega) dX4_about_20 ?_
    refine v_topi (y := nI (nlO g a)) (show _ = _ from (IvM_nl hI (show a < 6 by omega)).1) ?_
    refine v_iconst (v := 1) C dX4_about_21 (by decide) ?_
    refine v_isub C dX4_about_22 ?_
    refine v_callSi (n := 3) (as := [.int k, .int 0, .int ((nI (nlO g a)) - 1)]) C (c_isIn _ Z k 0 (nI (nlO g a) - 1) (wr g 0 0 0)) (gs (tg4 45 rfl rfl) (tg4 46 rfl rfl) (tg1 6 rfl rfl) (tg4 47 rfl rfl)) (by decide +kernel) ⟨Nat.le_of_ble_eq_true rfl, Nat.le_of_ble_eq_true rfl⟩ rfl rfl (Nat.le_of_ble_eq_true rfl) dX4_about_23 ⟨Nat.le_of_ble_eq_true rfl, Nat.le_of_ble_eq_true rfl⟩ (fun r23 g23 hp23 => ?_)
    obtain ⟨rfl, hg23⟩ := hp23
    rw [hg23]
    refine v_topi (y := bI (isN (nlO g a) k)) (by rw [inB_isN (by have := (IvM_nl hI (show a < 6 by omega)).2; omega)]) ?_
    refine v_if_eq (tgt := 48) C dX4_about_26 (by decide) (fun h26 => ?_) (fun h26 => ?_)
    · have k26 := bI_0.mp h26
      refine v_aload_n C dX4_about_48 rfl rfl ?_
      refine v_iconst (v := 1) C dX4_about_49 (by decide) ?_
      refine v_callVi (n := 1) (as := [.int 1]) C (c_no _ Z 1 (wr g 0 0 0)) (gv (tg4 48 rfl rfl) (tg4 50 rfl rfl) (tg0 20 rfl rfl) (tg1 6 rfl rfl) (tg4 51 rfl rfl)) (by decide +kernel) ⟨Nat.le_of_ble_eq_true rfl, Nat.le_of_ble_eq_true rfl⟩ rfl cx_M rfl rfl (Nat.le_of_ble_eq_true rfl) dX4_about_50 ⟨Nat.le_of_ble_eq_true rfl, Nat.le_of_ble_eq_true rfl⟩ (fun r50 g50 hp50 => ?_)
      obtain ⟨rfl, hg50⟩ := hp50
      rw [hg50]
      exact ret _ _ _ _ dX4_about_53 (PM.no (k := 1) (by unfold cdAbout; rw [ea, if_pos (Or.inr (Or.inl k26))]) (by decide) rfl (fun j h1 h2 => wr_ne _ _ _ _ (Or.inr (by omega))) (fun q h1 h2 => wr_row _ _ _ _ (by omega)) (fun q hq => wr_row _ _ _ _ (by omega)))
    · have k26 := bI_1.mp h26
      refine v_iload_n C dX4_about_29 rfl rfl ?_
      refine v_iconst (v := 0) C dX4_about_30 (by decide) ?_
      refine v_iconst (v := 3) C dX4_about_31 (by decide) ?_
      refine v_callSi (n := 3) (as := [.int v, .int 0, .int 3]) C (c_isIn _ Z v 0 3 (wr g 0 0 0)) (gs (tg4 45 rfl rfl) (tg4 46 rfl rfl) (tg1 6 rfl rfl) (tg4 47 rfl rfl)) (by decide +kernel) ⟨Nat.le_of_ble_eq_true rfl, Nat.le_of_ble_eq_true rfl⟩ rfl rfl (Nat.le_of_ble_eq_true rfl) dX4_about_32 ⟨Nat.le_of_ble_eq_true rfl, Nat.le_of_ble_eq_true rfl⟩ (fun r32 g32 hp32 => ?_)
      obtain ⟨rfl, hg32⟩ := hp32
      rw [hg32]
      refine v_if_eq (tgt := 48) C dX4_about_35 (by decide) (fun h35 => ?_) (fun h35 => ?_)
      · have k35 := bI_0.mp h35
        refine v_aload_n C dX4_about_48 rfl rfl ?_
        refine v_iconst (v := 1) C dX4_about_49 (by decide) ?_
        refine v_callVi (n := 1) (as := [.int 1]) C (c_no _ Z 1 (wr g 0 0 0)) (gv (tg4 48 rfl rfl) (tg4 50 rfl rfl) (tg0 20 rfl rfl) (tg1 6 rfl rfl) (tg4 51 rfl rfl)) (by decide +kernel) ⟨Nat.le_of_ble_eq_true rfl, Nat.le_of_ble_eq_true rfl⟩ rfl cx_M rfl rfl (Nat.le_of_ble_eq_true rfl) dX4_about_50 ⟨Nat.le_of_ble_eq_true rfl, Nat.le_of_ble_eq_true rfl⟩ (fun r50 g50 hp50 => ?_)
        obtain ⟨rfl, hg50⟩ := hp50
        rw [hg50]
        exact ret _ _ _ _ dX4_about_53 (PM.no (k := 1) (by unfold cdAbout; rw [if_pos (Or.inr (Or.inr k35))]) (by decide) rfl (fun j h1 h2 => wr_ne _ _ _ _ (Or.inr (by omega))) (fun q h1 h2 => wr_row _ _ _ _ (by omega)) (fun q hq => wr_row _ _ _ _ (by omega)))
      · have k35 := bI_1.mp h35
        have hcd : cdAbout g (nI a) k v = 0 := by unfold cdAbout; rw [enp, ea, if_neg (by rw [k10, k26, k35]; decide)]
        obtain ⟨c, hc, rfl⟩ := isN_ex k26
        have ec : iz (nI c) = c := iz_nI (by have := (IvM_nl hI (show a < 6 by omega)).2; omega)
        refine v_aload_n C dX4_about_38 rfl rfl ?_
        refine v_iload_n C dX4_about_39 rfl rfl ?_
        refine v_iload_n C dX4_about_40 rfl rfl ?_
        refine v_iload_n C dX4_about_41 rfl rfl ?_
        refine v_callVi (n := 3) (as := [.int (nI a), .int (nI c), .int v]) C (c_lineTold _ Z a c v (wr g 0 0 0) (IvM_eq hI rfl rfl (fun k h1 h2 => wr_row _ _ _ _ (by omega))) (by omega) hc) (gv (tg4 172 rfl rfl) (tg4 174 rfl rfl) (tg0 35 rfl rfl) (tg1 6 rfl rfl) (tg4 175 rfl rfl)) (by decide +kernel) ⟨Nat.le_of_ble_eq_true rfl, Nat.le_of_ble_eq_true rfl⟩ rfl cx_M rfl rfl (Nat.le_of_ble_eq_true rfl) dX4_about_42 ⟨Nat.le_of_ble_eq_true rfl, Nat.le_of_ble_eq_true rfl⟩ (fun r42 g42 hp42 => ?_)
        obtain ⟨hr42, hg42⟩ := hp42
        rw [hg42]
        refine v_goto (tgt := 53) C dX4_about_45 (by decide) ?_
        exact ret _ _ _ _ dX4_about_53 ⟨by rw [hcd]; rfl, fun _ => by rw [ea, ec]; exact hr42, RE.of (fun j h1 h2 => wr_ne _ _ _ _ (Or.inr (by omega))) (fun q h1 h2 => wr_row _ _ _ _ (by omega)), fun q hq => wr_row _ _ _ _ (by omega)⟩
set_option maxRecDepth 100000 in
theorem c_sum (l : Launch) (Z : Zc) (kx len m : Nat) (g : MG) (hk : cx Z.Y Z.ad Z.df g kx = some (.inl (Z.Y.1, len, .inl (g kx)))) (hm : m ≤ len) (hl31 : len < 2147483648) : MI l yX4_sum cX4_sum 4 (some .int) (rmz 0 0 0 0) Z [.ref (Z.ad kx), .int (nI m)] g (fun r g' => r = sumI (g kx) m ∧ g' = g) := by
  refine ent_i (own := RX4) (lo := [some (.ref (Z.ad kx)), some (.int (nI m)), none, none]) (by decide) rfl (by simp [lg_sl, Value.category]) rfl (fun P hl C ret => ?_)
  have loop : ∀ (n : Nat) (k : Nat), m - k < n → k ≤ m → V P (rmz 0 0 0 0) Z [some (.ref (Z.ad kx)), some (.int (nI m)), some (.int (sumI (g kx) k)), some (.int (nI k))] 4 [] g 0 0 := by
    intro n
    induction n with
    | zero => intro k hn hkm; exact absurd hn (Nat.not_lt_zero _)
    | succ n ih =>
      intro k hn hkm
      refine v_iload_n C dX4_sum_4 rfl rfl ?_
      refine v_iload_n C dX4_sum_5 rfl rfl ?_
      refine v_icmp_ge (tgt := 21) C dX4_sum_6 (by decide) (fun h6 => ?_) (fun h6 => ?_)
      · have hkn : k = m := Nat.le_antisymm hkm ((nI_leI (by omega) (by omega)).mp h6)
        subst hkn
        refine v_iload_n C dX4_sum_21 rfl rfl ?_
        exact ret _ _ _ _ dX4_sum_22 ⟨rfl, rfl⟩
      · have hkn : k < m := Nat.lt_of_not_le fun q => h6 ((nI_leI (by omega) (by omega)).mpr q)
        refine v_iload_n C dX4_sum_9 rfl rfl ?_
        refine v_aload_n C dX4_sum_10 rfl rfl ?_
        refine v_iload_n C dX4_sum_11 rfl rfl ?_
        refine v_ialdN (a := k) C hk ⟨by omega, hl31⟩ dX4_sum_12 ?_
        refine v_iadd C dX4_sum_13 ?_
        refine v_topi (y := sumI (g kx) (k + 1)) rfl ?_
        refine v_istore_n (lo' := [some (.ref (Z.ad kx)), some (.int (nI m)), some (.int (sumI (g kx) (k + 1))), some (.int (nI k))]) C dX4_sum_14 rfl (Nat.le_of_ble_eq_true rfl) rfl rfl ?_
        refine v_iinc (lo' := [some (.ref (Z.ad kx)), some (.int (nI m)), some (.int (sumI (g kx) (k + 1))), some (.int ((nI k) + 1))]) C dX4_sum_15 rfl rfl rfl rfl ?_
        refine v_lo (lo' := [some (.ref (Z.ad kx)), some (.int (nI m)), some (.int (sumI (g kx) (k + 1))), some (.int (nI (k + 1)))]) (by rw [← nI_1 k]) ?_
        refine v_goto (tgt := 4) C dX4_sum_18 (by decide) ?_
        exact ih (k + 1) (by omega) (by omega)
  refine v_iconst (v := 0) C dX4_sum_0 (by decide) ?_
  refine v_topi (y := sumI (g kx) 0) rfl ?_
  refine v_istore_n (lo' := [some (.ref (Z.ad kx)), some (.int (nI m)), some (.int (sumI (g kx) 0)), none]) C dX4_sum_1 rfl (Nat.le_of_ble_eq_true rfl) rfl rfl ?_
  refine v_iconst (v := 0) C dX4_sum_2 (by decide) ?_
  refine v_topi (y := nI 0) rfl ?_
  refine v_istore_n (lo' := [some (.ref (Z.ad kx)), some (.int (nI m)), some (.int (sumI (g kx) 0)), some (.int (nI 0))]) C dX4_sum_3 rfl (Nat.le_of_ble_eq_true rfl) rfl rfl ?_
  exact loop (m + 1) 0 (by omega) (by omega)
set_option maxRecDepth 100000 in
theorem c_counted (l : Launch) (Z : Zc) (w np : Nat) (g : MG) (hnp : g 0 2 = nI np) (hp6 : np ≤ 6) (hw : w < 7) : MI l yX4_counted cX4_counted 2 (some .int) (rmz 1 23 0 0) Z [.ref (Z.ad 0), .int (nI w)] g (fun r g' => r = ctO g w ∧ g' = g) := by
  have enp : npO g = np := by unfold npO; rw [hnp]; exact iz_nI (by omega)
  refine ent_i (own := RX4) (lo := [some (.ref (Z.ad 0)), some (.int (nI w))]) (by decide) rfl (by simp [lg_sl, Value.category]) rfl (fun P hl C ret => ?_)
  refine v_iload_n C dX4_counted_0 rfl rfl ?_
  obtain rfl | rfl | rfl | rfl | rfl | rfl | rfl := (show w = 0 ∨ w = 1 ∨ w = 2 ∨ w = 3 ∨ w = 4 ∨ w = 5 ∨ w = 6 by omega)
  · refine v_tabIn (off := 39) (tgt := 40) C dX4_counted_1 (by decide) (by decide) rfl (by decide) ?_
    refine v_aload_n C dX4_counted_40 rfl rfl ?_
    refine v_get C inG4 rfl 1 (by decide) (tg3 196 rfl rfl) rfl cx_M rfl dX4_counted_41 ?_
    exact ret _ _ _ _ dX4_counted_44 ⟨rfl, rfl⟩
  · refine v_tabIn (off := 44) (tgt := 45) C dX4_counted_1 (by decide) (by decide) rfl (by decide) ?_
    refine v_aload_n C dX4_counted_45 rfl rfl ?_
    refine v_get C inG4 rfl 2 (by decide) (tg3 197 rfl rfl) rfl cx_M rfl dX4_counted_46 ?_
    exact ret _ _ _ _ dX4_counted_49 ⟨rfl, rfl⟩
  · refine v_tabIn (off := 49) (tgt := 50) C dX4_counted_1 (by decide) (by decide) rfl (by decide) ?_
    refine v_aload_n C dX4_counted_50 rfl rfl ?_
    refine v_get C inG4 rfl 15 (by decide) (tg3 210 rfl rfl) rfl cx_M rfl dX4_counted_51 ?_
    refine v_aload_n C dX4_counted_54 rfl rfl ?_
    refine v_get C inG4 rfl 2 (by decide) (tg3 197 rfl rfl) rfl cx_M rfl dX4_counted_55 ?_
    refine v_topi (y := nI np) hnp ?_
    refine v_callSi (n := 2) (as := [.ref (Z.ad 15), .int (nI np)]) C (c_sum _ Z 15 6 np g cxA15 hp6 (by decide)) (gs (tg4 184 rfl rfl) (tg4 185 rfl rfl) (tg1 6 rfl rfl) (tg4 186 rfl rfl)) (by decide +kernel) ⟨Nat.le_of_ble_eq_true rfl, Nat.le_of_ble_eq_true rfl⟩ rfl rfl (Nat.le_of_ble_eq_true rfl) dX4_counted_58 ⟨Nat.le_of_ble_eq_true rfl, Nat.le_of_ble_eq_true rfl⟩ (fun r58 g58 hp58 => ?_)
    obtain ⟨rfl, hg58⟩ := hp58
    rw [hg58]
    exact ret _ _ _ _ dX4_counted_61 ⟨by show sumI (g 15) np = sumI (g 15) (npO g); rw [enp], rfl⟩
  · refine v_tabIn (off := 61) (tgt := 62) C dX4_counted_1 (by decide) (by decide) rfl (by decide) ?_
    refine v_aload_n C dX4_counted_62 rfl rfl ?_
    refine v_get C inG4 rfl 3 (by decide) (tg3 198 rfl rfl) rfl cx_M rfl dX4_counted_63 ?_
    exact ret _ _ _ _ dX4_counted_66 ⟨rfl, rfl⟩
  · refine v_tabIn (off := 66) (tgt := 67) C dX4_counted_1 (by decide) (by decide) rfl (by decide) ?_
    refine v_aload_n C dX4_counted_67 rfl rfl ?_
    refine v_get C inG4 rfl 4 (by decide) (tg3 199 rfl rfl) rfl cx_M rfl dX4_counted_68 ?_
    exact ret _ _ _ _ dX4_counted_71 ⟨rfl, rfl⟩
  · refine v_tabIn (off := 71) (tgt := 72) C dX4_counted_1 (by decide) (by decide) rfl (by decide) ?_
    refine v_aload_n C dX4_counted_72 rfl rfl ?_
    refine v_get C inG4 rfl 6 (by decide) (tg3 201 rfl rfl) rfl cx_M rfl dX4_counted_73 ?_
    refine v_aload_n C dX4_counted_76 rfl rfl ?_
    refine v_get C inG4 rfl 6 (by decide) (tg3 201 rfl rfl) rfl cx_M rfl dX4_counted_77 ?_
    refine v_alen (v := 50) C cxA6 rfl dX4_counted_80 ?_
    refine v_topi (y := nI 50) rfl ?_
    refine v_callSi (n := 2) (as := [.ref (Z.ad 6), .int (nI 50)]) C (c_sum _ Z 6 50 50 g cxA6 (Nat.le_refl _) (by decide)) (gs (tg4 184 rfl rfl) (tg4 185 rfl rfl) (tg1 6 rfl rfl) (tg4 186 rfl rfl)) (by decide +kernel) ⟨Nat.le_of_ble_eq_true rfl, Nat.le_of_ble_eq_true rfl⟩ rfl rfl (Nat.le_of_ble_eq_true rfl) dX4_counted_81 ⟨Nat.le_of_ble_eq_true rfl, Nat.le_of_ble_eq_true rfl⟩ (fun r81 g81 hp81 => ?_)
    obtain ⟨rfl, hg81⟩ := hp81
    rw [hg81]
    exact ret _ _ _ _ dX4_counted_84 ⟨rfl, rfl⟩
  · refine v_tabOut (tgt := 85) C dX4_counted_1 (Or.inr (by decide)) (by decide) ?_
    refine v_aload_n C dX4_counted_85 rfl rfl ?_
    refine v_get C inG4 rfl 7 (by decide) (tg3 202 rfl rfl) rfl cx_M rfl dX4_counted_86 ?_
    refine v_aload_n C dX4_counted_89 rfl rfl ?_
    refine v_get C inG4 rfl 7 (by decide) (tg3 202 rfl rfl) rfl cx_M rfl dX4_counted_90 ?_
    refine v_alen (v := 50) C cxA7 rfl dX4_counted_93 ?_
    refine v_topi (y := nI 50) rfl ?_
    refine v_callSi (n := 2) (as := [.ref (Z.ad 7), .int (nI 50)]) C (c_sum _ Z 7 50 50 g cxA7 (Nat.le_refl _) (by decide)) (gs (tg4 184 rfl rfl) (tg4 185 rfl rfl) (tg1 6 rfl rfl) (tg4 186 rfl rfl)) (by decide +kernel) ⟨Nat.le_of_ble_eq_true rfl, Nat.le_of_ble_eq_true rfl⟩ rfl rfl (Nat.le_of_ble_eq_true rfl) dX4_counted_94 ⟨Nat.le_of_ble_eq_true rfl, Nat.le_of_ble_eq_true rfl⟩ (fun r94 g94 hp94 => ?_)
    obtain ⟨rfl, hg94⟩ := hp94
    rw [hg94]
    exact ret _ _ _ _ dX4_counted_97 ⟨rfl, rfl⟩
set_option maxRecDepth 100000 in
theorem c_count (l : Launch) (Z : Zc) (v : Int32) (g : MG) (hI : IvM g) : MI l yX4_count cX4_count 2 (some .int) (rmz 3 60 0 0) Z [.ref (Z.ad 0), .int v] g (PM g (cdCount v) (ctO g (iz v)) (g)) := by
  refine ent_i (own := RX4) (lo := [some (.ref (Z.ad 0)), some (.int v)]) (by decide) rfl (by simp [lg_sl, Value.category]) rfl (fun P hl C ret => ?_)
  obtain ⟨⟨nf, hf5, hnf⟩, ⟨np, hp6, hnp⟩, hot, hnl, htn, his, hwd, htk⟩ := id hI
  have enf : nfO g = nf := by unfold nfO; rw [hnf]; exact iz_nI (by omega)
  have enp : npO g = np := by unfold npO; rw [hnp]; exact iz_nI (by omega)
  refine v_aload_n C dX4_count_0 rfl rfl ?_
  refine v_iconst (v := 0) C dX4_count_1 (by decide) ?_
  refine v_put C inG4 rfl tyX4 tyX4_ok nmX4 0 (by decide) (tg3 195 rfl rfl) rfl rfl (ty := .int) rfl rfl rfl cx_M (Nat.le_of_ble_eq_true rfl) rfl (by omega) cx_M dX4_count_2 ?_
  refine v_iload_n C dX4_count_5 rfl rfl ?_
  refine v_iconst (v := 0) C dX4_count_6 (by decide) ?_
  refine v_bipush (v := 6) C dX4_count_7 (by decide) ?_
  refine v_callSi (n := 3) (as := [.int v, .int 0, .int 6]) C (c_isIn _ Z v 0 6 (wr g 0 0 0)) (gs (tg4 45 rfl rfl) (tg4 46 rfl rfl) (tg1 6 rfl rfl) (tg4 47 rfl rfl)) (by decide +kernel) ⟨Nat.le_of_ble_eq_true rfl, Nat.le_of_ble_eq_true rfl⟩ rfl rfl (Nat.le_of_ble_eq_true rfl) dX4_count_9 ⟨Nat.le_of_ble_eq_true rfl, Nat.le_of_ble_eq_true rfl⟩ (fun r9 g9 hp9 => ?_)
  obtain ⟨rfl, hg9⟩ := hp9
  rw [hg9]
  refine v_if_eq (tgt := 23) C dX4_count_12 (by decide) (fun h12 => ?_) (fun h12 => ?_)
  · have k12 := bI_0.mp h12
    refine v_aload_n C dX4_count_23 rfl rfl ?_
    refine v_iconst (v := 1) C dX4_count_24 (by decide) ?_
    refine v_callVi (n := 1) (as := [.int 1]) C (c_no _ Z 1 (wr g 0 0 0)) (gv (tg4 48 rfl rfl) (tg4 50 rfl rfl) (tg0 20 rfl rfl) (tg1 6 rfl rfl) (tg4 51 rfl rfl)) (by decide +kernel) ⟨Nat.le_of_ble_eq_true rfl, Nat.le_of_ble_eq_true rfl⟩ rfl cx_M rfl rfl (Nat.le_of_ble_eq_true rfl) dX4_count_25 ⟨Nat.le_of_ble_eq_true rfl, Nat.le_of_ble_eq_true rfl⟩ (fun r25 g25 hp25 => ?_)
    obtain ⟨rfl, hg25⟩ := hp25
    rw [hg25]
    exact ret _ _ _ _ dX4_count_28 (PM.no (k := 1) (by unfold cdCount; rw [if_pos k12]) (by decide) rfl (fun j h1 h2 => wr_ne _ _ _ _ (Or.inr (by omega))) (fun q h1 h2 => wr_row _ _ _ _ (by omega)) (fun q hq => wr_row _ _ _ _ (by omega)))
  · have k12 := bI_1.mp h12
    have hcd : cdCount v = 0 := by unfold cdCount; rw [if_neg (by rw [k12]; decide)]
    obtain ⟨c, hc, rfl⟩ := inB_ex (n := 6) (by decide) k12
    have ec : iz (nI c) = c := iz_nI (by omega)
    refine v_aload_n C dX4_count_15 rfl rfl ?_
    refine v_iload_n C dX4_count_16 rfl rfl ?_
    refine v_callVi (n := 1) (as := [.int (nI c)]) C (c_counted _ Z c np (wr g 0 0 0) hnp hp6 hc) (gv (tg4 180 rfl rfl) (tg4 182 rfl rfl) (tg0 36 rfl rfl) (tg1 6 rfl rfl) (tg4 183 rfl rfl)) (by decide +kernel) ⟨Nat.le_of_ble_eq_true rfl, Nat.le_of_ble_eq_true rfl⟩ rfl cx_M rfl rfl (Nat.le_of_ble_eq_true rfl) dX4_count_17 ⟨Nat.le_of_ble_eq_true rfl, Nat.le_of_ble_eq_true rfl⟩ (fun r17 g17 hp17 => ?_)
    obtain ⟨hr17, hg17⟩ := hp17
    rw [hg17]
    refine v_goto (tgt := 28) C dX4_count_20 (by decide) ?_
    exact ret _ _ _ _ dX4_count_28 ⟨by rw [hcd]; rfl, fun _ => by rw [ec]; exact hr17, RE.of (fun j h1 h2 => wr_ne _ _ _ _ (Or.inr (by omega))) (fun q h1 h2 => wr_row _ _ _ _ (by omega)), fun q hq => wr_row _ _ _ _ (by omega)⟩
